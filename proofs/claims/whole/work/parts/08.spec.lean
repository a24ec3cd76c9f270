/-! ===== searches: answers as the machine has them (sn_en 0 is NONE), loops that go down (sn_dn j x: x is j - 1, or below 0 if j is 0) ===== -/
def sn_en : Nat → Int32
  | 0 => -6
  | j + 1 => nI j
def sn_dn : Nat → Int32 → Prop
  | 0, x => x < 0
  | j + 1, x => x = nI j
theorem sn_dn_2 : ∀ b : Nat, sn_dn (b - 1) (nI b - 2)
  | 0 => show (nI 0 - 2 : Int32) < 0 by decide
  | 1 => show (nI 1 - 2 : Int32) < 0 by decide
  | b + 2 => (pk_sub (show 2 ≤ b + 2 by omega)).trans (by rw [Nat.add_sub_cancel])
theorem sn_dn_1 : ∀ b : Nat, sn_dn b (nI b - 1)
  | 0 => show (nI 0 - 1 : Int32) < 0 by decide
  | b + 1 => nI_pred b
theorem sn_dn_p : ∀ j : Nat, sn_dn j (nI j + (-1))
  | 0 => show (nI 0 + (-1) : Int32) < 0 by decide
  | j + 1 => pk_m1 j
theorem sn_en_ne {j : Nat} (h : j < 2147483648) : ¬ nI j = -6 := by
  intro e
  have e1 := congrArg Int32.toInt e
  rw [nI_toInt (by omega)] at e1
  have e2 : (j : Int) = -6 := e1
  omega
theorem sn_en_none {q : Nat} (h : q < 2147483648) : sn_en q = -6 ↔ q = 0 := by
  cases q with
  | zero => exact ⟨fun _ => rfl, fun _ => rfl⟩
  | succ j => exact ⟨fun e => absurd e (sn_en_ne (by omega)), fun e => absurd e (by omega)⟩
theorem sn_en_neg {q : Nat} (h : q < 2147483648) : sn_en q < 0 ↔ q = 0 := by
  cases q with
  | zero => exact ⟨fun _ => rfl, fun _ => by decide⟩
  | succ j => exact ⟨fun e => absurd e (nI_pos (by omega)), fun e => absurd e (by omega)⟩
theorem sn_en_pos {q : Nat} (h : ¬ q = 0) : sn_en q = nI (q - 1) := by
  cases q with
  | zero => exact absurd rfl h
  | succ j => rfl
/-- the uppermost layer, with 1 added, that breaks in a block of b layers, of those below j -/
def sn_bkA (f : Nat → Int32) (b : Nat) (w : Int32) : Nat → Nat
  | 0 => 0
  | j + 1 => if sn_str f j ≤ sn_lod f j b + sn_prs f j b w then j + 1 else sn_bkA f b w j
def sn_bk (f : Nat → Int32) (b : Nat) (w : Int32) : Nat := sn_bkA f b w (b - 1)
theorem sn_bkA_le (f : Nat → Int32) (b : Nat) (w : Int32) : ∀ j, sn_bkA f b w j ≤ j
  | 0 => Nat.le_refl 0
  | j + 1 => by
    unfold sn_bkA
    have := sn_bkA_le f b w j
    split <;> omega
theorem sn_bk_le (f : Nat → Int32) (b : Nat) (w : Int32) : sn_bk f b w ≤ b - 1 := sn_bkA_le f b w (b - 1)
abbrev sn_Go (f : Nat → Int32) (n : Nat) (s w : Int32) (i : Nat) : Prop := sn_str f i ≤ sn_she f i n s + sn_prs f i n w
def sn_gnA (f : Nat → Int32) (n : Nat) (s w : Int32) : Nat → Nat
  | 0 => 0
  | j + 1 => if sn_Go f n s w j then j + 1 else sn_gnA f n s w j
def sn_gn (f : Nat → Int32) (n : Nat) (s w : Int32) : Nat := sn_gnA f n s w (n - 1)
theorem sn_gnA_le (f : Nat → Int32) (n : Nat) (s w : Int32) : ∀ j, sn_gnA f n s w j ≤ j
  | 0 => Nat.le_refl 0
  | j + 1 => by
    unfold sn_gnA
    have := sn_gnA_le f n s w j
    split <;> omega
/-- the weakest layer, with 1 added, of those below j -/
def sn_wkA (f : Nat → Int32) (n : Nat) (s : Int32) : Nat → Nat
  | 0 => 0
  | j + 1 => if sn_wkA f n s j = 0 ∨ sn_mar f j n s ≤ sn_mar f (sn_wkA f n s j - 1) n s then j + 1 else sn_wkA f n s j
def sn_wk (f : Nat → Int32) (n : Nat) (s : Int32) : Nat := sn_wkA f n s (n - 1)
theorem sn_wkA_spec (f : Nat → Int32) (n : Nat) (s : Int32) : ∀ j, (j = 0 ∧ sn_wkA f n s j = 0) ∨ (0 < sn_wkA f n s j ∧ sn_wkA f n s j ≤ j ∧ ∀ i, i < j → (sn_mar f (sn_wkA f n s j - 1) n s).toInt ≤ (sn_mar f i n s).toInt ∧ (sn_wkA f n s j - 1 < i → (sn_mar f (sn_wkA f n s j - 1) n s).toInt < (sn_mar f i n s).toInt))
  | 0 => Or.inl ⟨rfl, rfl⟩
  | j + 1 => by
    refine Or.inr ?_
    have ih := sn_wkA_spec f n s j
    show 0 < sn_wkA f n s (j + 1) ∧ _
    by_cases h : sn_wkA f n s j = 0 ∨ sn_mar f j n s ≤ sn_mar f (sn_wkA f n s j - 1) n s
    · have e : sn_wkA f n s (j + 1) = j + 1 := if_pos h
      rw [e]
      refine ⟨by omega, by omega, fun i hi => ?_⟩
      rw [show j + 1 - 1 = j from rfl]
      by_cases hij : i = j
      · subst hij; exact ⟨Int.le_refl _, fun h => absurd h (by omega)⟩
      · refine ⟨?_, fun h => absurd h (by omega)⟩
        rcases ih with ⟨h1, h2⟩ | ⟨h1, h2, h3⟩
        · omega
        · have h4 := (h3 i (by omega)).1
          rcases h with h | h
          · omega
          · rw [sn_le] at h; omega
    · have e : sn_wkA f n s (j + 1) = sn_wkA f n s j := if_neg h
      rw [e]
      have h5 : ¬ sn_wkA f n s j = 0 := fun z => h (Or.inl z)
      have h6 : ¬ sn_mar f j n s ≤ sn_mar f (sn_wkA f n s j - 1) n s := fun z => h (Or.inr z)
      rw [sn_le] at h6
      rcases ih with ⟨h1, h2⟩ | ⟨h1, h2, h3⟩
      · exact absurd h2 h5
      · refine ⟨h1, by omega, fun i hi => ?_⟩
        by_cases hij : i = j
        · subst hij; exact ⟨by omega, fun _ => by omega⟩
        · exact h3 i (by omega)
theorem sn_wkA_le (f : Nat → Int32) (n : Nat) (s : Int32) (j : Nat) : sn_wkA f n s j ≤ j := by
  rcases sn_wkA_spec f n s j with ⟨h1, h2⟩ | ⟨h1, h2, h3⟩ <;> omega
theorem sn_wkA_pos (f : Nat → Int32) (n : Nat) (s : Int32) (j : Nat) : sn_wkA f n s j = 0 ↔ j = 0 := by
  rcases sn_wkA_spec f n s j with ⟨h1, h2⟩ | ⟨h1, h2, h3⟩ <;> omega
/-- the search from the top down, layers j and above looked at: q the weakest of them with 1 added, L its margin -/
def sn_Wk (f : Nat → Int32) (n : Nat) (s : Int32) (j q : Nat) (L : Int32) : Prop :=
  (q = 0 ∧ n - 1 ≤ j) ∨ (j < q ∧ q ≤ n - 1 ∧ L = sn_mar f (q - 1) n s ∧ ∀ i, j ≤ i → i < n - 1 → (sn_mar f (q - 1) n s).toInt ≤ (sn_mar f i n s).toInt ∧ (q - 1 < i → (sn_mar f (q - 1) n s).toInt < (sn_mar f i n s).toInt))
theorem sn_Wk_end {f : Nat → Int32} {n : Nat} {s : Int32} {q : Nat} {L : Int32} (h : sn_Wk f n s 0 q L) : q = sn_wk f n s := by
  unfold sn_wk
  rcases sn_wkA_spec f n s (n - 1) with ⟨h1, h2⟩ | ⟨h1, h2, h3⟩ <;> rcases h with ⟨h4, h5⟩ | ⟨h4, h5, h6, h7⟩
  · omega
  · omega
  · omega
  · have a1 := h3 (q - 1) (by omega)
    have a2 := h7 (sn_wkA f n s (n - 1) - 1) (by omega) (by omega)
    rcases Nat.lt_trichotomy (q - 1) (sn_wkA f n s (n - 1) - 1) with h | h | h
    · have := a2.2 h; omega
    · omega
    · have := a1.2 h; omega
theorem sn_Wk_take {f : Nat → Int32} {n : Nat} {s : Int32} {j q : Nat} {L : Int32} (h : sn_Wk f n s (j + 1) q L) (hj : j < n - 1) (hc : q = 0 ∨ sn_mar f j n s < L) : sn_Wk f n s j (j + 1) (sn_mar f j n s) := by
  refine Or.inr ⟨by omega, by omega, rfl, fun i h1 h2 => ?_⟩
  rw [show j + 1 - 1 = j from rfl]
  by_cases hij : i = j
  · subst hij; exact ⟨Int.le_refl _, fun h => absurd h (by omega)⟩
  · rcases h with ⟨h4, h5⟩ | ⟨h4, h5, h6, h7⟩
    · omega
    · have a := (h7 i (by omega) h2).1
      rcases hc with hc | hc
      · omega
      · rw [h6, sn_lt] at hc; exact ⟨by omega, fun _ => by omega⟩
theorem sn_Wk_keep {f : Nat → Int32} {n : Nat} {s : Int32} {j q : Nat} {L : Int32} (h : sn_Wk f n s (j + 1) q L) (h1 : ¬ q = 0) (h2 : ¬ sn_mar f j n s < L) : sn_Wk f n s j q L := by
  rcases h with ⟨h4, h5⟩ | ⟨h4, h5, h6, h7⟩
  · exact absurd h4 h1
  · refine Or.inr ⟨by omega, h5, h6, fun i h8 h9 => ?_⟩
    by_cases hij : i = j
    · subst hij
      rw [h6, sn_lt] at h2
      exact ⟨by omega, fun h => absurd h (by omega)⟩
    · exact h7 i (by omega) h9
/-- the weight of a tap -/
def sn_wt (t : Nat) (v : Int32) : Int32 := if t ≤ 10 then v else if t ≤ 20 then 2 * v else 4 * v
/-! ===== taps: the block's end, the breaks, their taps and layers behind t taps ===== -/
def sn_tE (f : Nat → Int32) (n : Nat) (v : Int32) : Nat → Nat
  | 0 => n
  | t + 1 => if sn_bk f (sn_tE f n v t) (sn_wt (t + 1) v) = 0 then sn_tE f n v t else sn_bk f (sn_tE f n v t) (sn_wt (t + 1) v)
def sn_tC (f : Nat → Int32) (n : Nat) (v : Int32) : Nat → Nat
  | 0 => 0
  | t + 1 => if sn_bk f (sn_tE f n v t) (sn_wt (t + 1) v) = 0 then sn_tC f n v t else sn_tC f n v t + 1
def sn_tT (f : Nat → Int32) (n : Nat) (v : Int32) : Nat → Nat → Int32
  | 0 => fun _ => 0
  | t + 1 => if sn_bk f (sn_tE f n v t) (sn_wt (t + 1) v) = 0 then sn_tT f n v t else upd (sn_tT f n v t) (sn_tC f n v t) (nI (t + 1))
def sn_tL (f : Nat → Int32) (n : Nat) (v : Int32) : Nat → Nat → Int32
  | 0 => fun _ => 0
  | t + 1 => if sn_bk f (sn_tE f n v t) (sn_wt (t + 1) v) = 0 then sn_tL f n v t else upd (sn_tL f n v t) (sn_tC f n v t) (nI (sn_bk f (sn_tE f n v t) (sn_wt (t + 1) v) - 1))
theorem sn_tE_z {f : Nat → Int32} {n : Nat} {v : Int32} {t : Nat} (h : sn_bk f (sn_tE f n v t) (sn_wt (t + 1) v) = 0) : sn_tE f n v (t + 1) = sn_tE f n v t := if_pos h
theorem sn_tE_p {f : Nat → Int32} {n : Nat} {v : Int32} {t : Nat} (h : ¬ sn_bk f (sn_tE f n v t) (sn_wt (t + 1) v) = 0) : sn_tE f n v (t + 1) = sn_bk f (sn_tE f n v t) (sn_wt (t + 1) v) := if_neg h
theorem sn_tC_z {f : Nat → Int32} {n : Nat} {v : Int32} {t : Nat} (h : sn_bk f (sn_tE f n v t) (sn_wt (t + 1) v) = 0) : sn_tC f n v (t + 1) = sn_tC f n v t := if_pos h
theorem sn_tC_p {f : Nat → Int32} {n : Nat} {v : Int32} {t : Nat} (h : ¬ sn_bk f (sn_tE f n v t) (sn_wt (t + 1) v) = 0) : sn_tC f n v (t + 1) = sn_tC f n v t + 1 := if_neg h
theorem sn_tT_z {f : Nat → Int32} {n : Nat} {v : Int32} {t : Nat} (h : sn_bk f (sn_tE f n v t) (sn_wt (t + 1) v) = 0) : sn_tT f n v (t + 1) = sn_tT f n v t := if_pos h
theorem sn_tT_p {f : Nat → Int32} {n : Nat} {v : Int32} {t : Nat} (h : ¬ sn_bk f (sn_tE f n v t) (sn_wt (t + 1) v) = 0) : sn_tT f n v (t + 1) = upd (sn_tT f n v t) (sn_tC f n v t) (nI (t + 1)) := if_neg h
theorem sn_tL_z {f : Nat → Int32} {n : Nat} {v : Int32} {t : Nat} (h : sn_bk f (sn_tE f n v t) (sn_wt (t + 1) v) = 0) : sn_tL f n v (t + 1) = sn_tL f n v t := if_pos h
theorem sn_tL_p {f : Nat → Int32} {n : Nat} {v : Int32} {t : Nat} (h : ¬ sn_bk f (sn_tE f n v t) (sn_wt (t + 1) v) = 0) : sn_tL f n v (t + 1) = upd (sn_tL f n v t) (sn_tC f n v t) (nI (sn_bk f (sn_tE f n v t) (sn_wt (t + 1) v) - 1)) := if_neg h
theorem sn_tCE (f : Nat → Int32) (n : Nat) (v : Int32) : ∀ t, sn_tC f n v t + sn_tE f n v t ≤ n
  | 0 => by show 0 + n ≤ n; omega
  | t + 1 => by
    have ih := sn_tCE f n v t
    have hb := sn_bk_le f (sn_tE f n v t) (sn_wt (t + 1) v)
    by_cases h : sn_bk f (sn_tE f n v t) (sn_wt (t + 1) v) = 0
    · rw [sn_tE_z h, sn_tC_z h]; exact ih
    · rw [sn_tE_p h, sn_tC_p h]; omega
/-- each break's layer has one on it -/
theorem sn_tL_in (f : Nat → Int32) (n : Nat) (v : Int32) : ∀ t i, i < sn_tC f n v t → ∃ k : Nat, k + 1 < n ∧ sn_tL f n v t i = nI k
  | 0, i, h => absurd h (Nat.not_lt_zero i)
  | t + 1, i, h => by
    have hb := sn_bk_le f (sn_tE f n v t) (sn_wt (t + 1) v)
    have hE := sn_tCE f n v t
    by_cases hz : sn_bk f (sn_tE f n v t) (sn_wt (t + 1) v) = 0
    · rw [sn_tC_z hz] at h; rw [sn_tL_z hz]; exact sn_tL_in f n v t i h
    · rw [sn_tC_p hz] at h; rw [sn_tL_p hz]
      by_cases hi : i = sn_tC f n v t
      · subst hi
        exact ⟨_, by omega, pk_us⟩
      · rw [pk_un hi]; exact sn_tL_in f n v t i (by omega)
