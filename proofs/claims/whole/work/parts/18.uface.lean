/-! ===== the calls that change the state: answers, and the state behind them ===== -/
abbrev sn_okS (x y z u : Int32) : Prop := ((1 ≤ x ∧ x ≤ 200) ∧ (30 ≤ y ∧ y ≤ 600)) ∧ ((0 ≤ z ∧ z ≤ 4) ∧ (1 ≤ u ∧ u ≤ 5))
def sn_Rstorm (n : Nat) (x y z u : Int32) : Int32 := if sn_okS x y z u then (if n = 10 then -4 else nI n) else -2
def sn_Fstorm (f : Nat → Int32) (n : Nat) (x y z u : Int32) : Nat → Int32 := if sn_okS x y z u then (if n = 10 then f else sn_stF f n x y z u) else f
theorem sn_Istorm {f : Nat → Int32} {n : Nat} (hI : sn_I f n) (x y z u : Int32) : ∃ n', sn_I (sn_Fstorm f n x y z u) n' := by
  unfold sn_Fstorm
  split
  · rename_i h
    split
    · exact ⟨n, hI⟩
    · exact ⟨n + 1, sn_I_st hI (by have := hI.2.1; omega) h.1.1 h.1.2 h.2.1 h.2.2⟩
  · exact ⟨n, hI⟩
def sn_Rfirm (f : Nat → Int32) (x y : Int32) : Int32 := if 0 ≤ x ∧ x ≤ 4 then (if 1 ≤ y ∧ y ≤ 99 then f (2 + x.toNatClampNeg) else -2) else -1
def sn_Ffirm (f : Nat → Int32) (x y : Int32) : Nat → Int32 := if 0 ≤ x ∧ x ≤ 4 then (if 1 ≤ y ∧ y ≤ 99 then upd f (2 + x.toNatClampNeg) y else f) else f
theorem sn_Ifirm {f : Nat → Int32} {n : Nat} (hI : sn_I f n) (x y : Int32) : ∃ n', sn_I (sn_Ffirm f x y) n' := by
  unfold sn_Ffirm
  split
  · rename_i h
    split
    · obtain ⟨i, h1, h2, rfl⟩ := sn_rng (lo := 0) (hi := 4) h (by decide)
      rw [nI_clamp (by omega)]
      exact ⟨n, sn_I_firm hI (by omega) y⟩
    · exact ⟨n, hI⟩
  · exact ⟨n, hI⟩
def sn_Rblow (f : Nat → Int32) (x : Int32) : Int32 := if 1 ≤ x ∧ x ≤ 50 then f 1 else -2
def sn_Fblow (f : Nat → Int32) (x : Int32) : Nat → Int32 := if 1 ≤ x ∧ x ≤ 50 then upd f 1 x else f
theorem sn_Iblow {f : Nat → Int32} {n : Nat} (hI : sn_I f n) (x : Int32) : ∃ n', sn_I (sn_Fblow f x) n' := by
  unfold sn_Fblow
  split
  · rename_i h; exact ⟨n, sn_I_blow hI h⟩
  · exact ⟨n, hI⟩
def sn_Rpack (f : Nat → Int32) (n : Nat) (x : Int32) : Int32 := if 1 ≤ x ∧ x ≤ 200 then (if n = 0 then -3 else sn_hd (f (10 + 5 * (n - 1)))) else -2
def sn_Fpack (f : Nat → Int32) (n : Nat) (x : Int32) : Nat → Int32 := if 1 ≤ x ∧ x ≤ 200 then (if n = 0 then f else sn_pkF f (n - 1) x) else f
theorem sn_Ipack {f : Nat → Int32} {n : Nat} (hI : sn_I f n) (x : Int32) : ∃ n', sn_I (sn_Fpack f n x) n' := by
  unfold sn_Fpack
  split
  · rename_i h
    split
    · exact ⟨n, hI⟩
    · exact ⟨n, sn_I_pk hI (by have := hI.2.1; omega) h⟩
  · exact ⟨n, hI⟩
def sn_Rset (f : Nat → Int32) (n : Nat) (x : Int32) : Int32 := if 1 ≤ x ∧ x ≤ 50 then (if n = 0 then -3 else sn_dep (sn_seF f x n) 0 n) else -2
def sn_Fset (f : Nat → Int32) (n : Nat) (x : Int32) : Nat → Int32 := if 1 ≤ x ∧ x ≤ 50 then (if n = 0 then f else sn_seF f x n) else f
theorem sn_Iset {f : Nat → Int32} {n : Nat} (hI : sn_I f n) (x : Int32) : ∃ n', sn_I (sn_Fset f n x) n' := by
  unfold sn_Fset
  split
  · rename_i h
    split
    · exact ⟨n, hI⟩
    · exact ⟨n, sn_I_se hI h n hI.2.1⟩
  · exact ⟨n, hI⟩
def sn_Rmelt (f : Nat → Int32) (n : Nat) (x : Int32) : Int32 := if 1 ≤ x ∧ x ≤ 300 then (if n = 0 then -3 else nI (sn_mlN f n x)) else -2
def sn_Fmelt (f : Nat → Int32) (n : Nat) (x : Int32) : Nat → Int32 := if 1 ≤ x ∧ x ≤ 300 then (if n = 0 then f else sn_weF (sn_mlF f n x) (sn_mlN f n x)) else f
theorem sn_Imelt {f : Nat → Int32} {n : Nat} (hI : sn_I f n) (x : Int32) : ∃ n', sn_I (sn_Fmelt f n x) n' := by
  unfold sn_Fmelt
  split
  · rename_i h
    split
    · exact ⟨n, hI⟩
    · exact ⟨_, sn_I_we _ _ (by have := hI.2.1; have := sn_mlN_le f n x; omega) (sn_I_ml hI h)⟩
  · exact ⟨n, hI⟩
theorem sn_Ifreeze {f : Nat → Int32} {n : Nat} (hI : sn_I f n) : ∃ n', sn_I (sn_frF f n) n' := ⟨n, sn_I_fr hI n hI.2.1⟩
def sn_Rslide (n : Nat) : Int32 := if n = 0 then -3 else nI (n - 1)
def sn_Fslide (f : Nat → Int32) (n : Nat) : Nat → Int32 := if n = 0 then f else upd f 0 (nI (n - 1))
theorem sn_Islide {f : Nat → Int32} {n : Nat} (hI : sn_I f n) : ∃ n', sn_I (sn_Fslide f n) n' := by
  unfold sn_Fslide
  split
  · exact ⟨n, hI⟩
  · exact ⟨n - 1, sn_I_size hI (by have := hI.2.1; omega)⟩
/-! ===== taps ===== -/
abbrev sn_wT (cI : ClassId) (bt : Nat → Nat) (nb : Int32) (tp ly : Nat → Int32) : va_W := [(bt 0, .inr (1, [.int nb, .ref (bt 1), .ref (bt 2)])), (bt 1, .inl (cI, 10, .inl tp)), (bt 2, .inl (cI, 10, .inl ly))]
/-- the rows hold the breaks -/
def sn_tH (f : Nat → Int32) (n : Nat) (v : Int32) (t : Nat) (tp ly : Nat → Int32) : Prop := ∀ i, i < sn_tC f n v t → tp i = sn_tT f n v t i ∧ ly i = sn_tL f n v t i
theorem sn_tH_0 (f : Nat → Int32) (n : Nat) (v : Int32) (tp ly : Nat → Int32) : sn_tH f n v 0 tp ly := fun i h => absurd h (Nat.not_lt_zero i)
theorem sn_tH_z {f : Nat → Int32} {n : Nat} {v : Int32} {t : Nat} {tp ly : Nat → Int32} (h : sn_tH f n v t tp ly) (c : sn_bk f (sn_tE f n v t) (sn_wt (t + 1) v) = 0) : sn_tH f n v (t + 1) tp ly := by
  intro i hi
  rw [sn_tC_z c] at hi
  rw [sn_tT_z c, sn_tL_z c]
  exact h i hi
theorem sn_tH_p {f : Nat → Int32} {n : Nat} {v : Int32} {t : Nat} {tp ly : Nat → Int32} (h : sn_tH f n v t tp ly) (c : ¬ sn_bk f (sn_tE f n v t) (sn_wt (t + 1) v) = 0) : sn_tH f n v (t + 1) (upd tp (sn_tC f n v t) (nI (t + 1))) (upd ly (sn_tC f n v t) (nI (sn_bk f (sn_tE f n v t) (sn_wt (t + 1) v) - 1))) := by
  intro i hi
  rw [sn_tC_p c] at hi
  rw [sn_tT_p c, sn_tL_p c]
  by_cases e : i = sn_tC f n v t
  · subst e
    rw [pk_us, pk_us, pk_us, pk_us]
    exact ⟨rfl, rfl⟩
  · rw [pk_un e, pk_un e, pk_un e, pk_un e]
    exact h i (by omega)
def sn_Rtaps (f : Nat → Int32) (n : Nat) (x y : Int32) : Int32 :=
  if 0 ≤ y ∧ y ≤ 2 then (if x = -1 then nI (sn_tC f n (f 1) 30) else if 0 ≤ x ∧ x ≤ nI (sn_tC f n (f 1) 30) - 1 then (if y = 0 then sn_tT f n (f 1) 30 x.toNatClampNeg else if y = 1 then sn_tL f n (f 1) 30 x.toNatClampNeg else sn_b (sn_cle f (sn_tL f n (f 1) 30 x.toNatClampNeg).toNatClampNeg)) else -6) else -2
/-- the difference of two hardnesses, its size -/
theorem sn_abs2 {d : Int32} (h0 : -10 ≤ d.toInt) (h1 : d.toInt ≤ 10) : (if 0 ≤ d then d else 0 - d) < 2 ↔ ¬ (2 ≤ d ∨ d ≤ -2) := by
  have l0 : (0 : Int32).toInt = 0 := rfl
  have l2 : (2 : Int32).toInt = 2 := rfl
  have l3 : (-2 : Int32).toInt = -2 := rfl
  by_cases c : 0 ≤ d
  · rw [if_pos c, sn_le 2 d, sn_le d (-2), sn_lt, l2, l3]; rw [sn_le, l0] at c; omega
  · rw [if_neg c, sn_le 2 d, sn_le d (-2), sn_lt, l2, l3, sn_sub_toInt (by rw [l0]; omega) (by rw [l0]; omega), l0]; rw [sn_le, l0] at c; omega
theorem sn_hdif {f : Nat → Int32} {n : Nat} (hI : sn_I f n) {i : Nat} (hi : i + 1 < 10) : -10 ≤ (f (10 + 5 * (i + 1)) - f (10 + 5 * i)).toInt ∧ (f (10 + 5 * (i + 1)) - f (10 + 5 * i)).toInt ≤ 10 := by
  have a := (hI.2.2.2 (i + 1) hi).2.2.2.1
  have b := (hI.2.2.2 i (by omega)).2.2.2.1
  rw [sn_sub_toInt (by omega) (by omega)]
  omega
/-! ===== the least blow: taps never get lighter ===== -/
theorem sn_mas_b {f : Nat → Int32} {n : Nat} (hI : sn_I f n) (i : Nat) : ∀ b, b ≤ 10 → ∃ M : Nat, M ≤ 120000 * b ∧ sn_mas f i b = nI M
  | 0, _ => ⟨0, by omega, rfl⟩
  | b + 1, h => by
    obtain ⟨M, hM, e⟩ := sn_mas_b hI i b (by omega)
    obtain ⟨h7, h8, -, -, -⟩ := hI.2.2.2 b (by omega)
    obtain ⟨t, ht, et⟩ := sn_toN (b := 200) h7.1 h7.2 (by decide)
    obtain ⟨v, hv, ev⟩ := sn_toN (b := 600) h8.1 h8.2 (by decide)
    have htv : t * v ≤ 200 * 600 := Nat.mul_le_mul ht hv
    by_cases hib : i ≤ b
    · exact ⟨M + t * v, by omega, by rw [← sn_mas_s hib, e, et, ev, pk_mul, nI_add]⟩
    · exact ⟨0, by omega, if_neg hib⟩
theorem sn_lod_b {f : Nat → Int32} {n : Nat} (hI : sn_I f n) (i b : Nat) (hb : b ≤ 10) : ∃ L : Nat, L ≤ 12000 ∧ sn_lod f i b = nI L := by
  obtain ⟨M, hM, e⟩ := sn_mas_b hI (i + 1) b hb
  refine ⟨M / 100, by omega, ?_⟩
  unfold sn_lod
  rw [e]
  exact pk_div (d := 100) (by omega) (by decide) (by decide)
theorem sn_prs_b {f : Nat → Int32} {n : Nat} (hI : sn_I f n) (i b : Nat) (hb : b ≤ 10) : ∃ P : Nat, 10 ≤ P ∧ ∀ V : Nat, V ≤ 200 → sn_prs f i b (nI V) = nI (100 * V / P) := by
  have h := sn_dep_b hI (i + 1) b hb
  obtain ⟨d, hd, e⟩ := sn_toN (b := 200 * b) h.1 (by omega) (by omega)
  refine ⟨d + 10, by omega, fun V hV => ?_⟩
  unfold sn_prs
  rw [e, show nI d + 10 = nI (d + 10) from nI_add d 10, show (100 : Int32) * nI V = nI (100 * V) from pk_mul 100 V]
  exact pk_div (by omega) (by omega) (by omega)
theorem sn_bkA_mono {f : Nat → Int32} {n : Nat} (hI : sn_I f n) (b : Nat) (hb : b ≤ 10) {V V2 : Nat} (h : V ≤ V2) (h2 : V2 ≤ 200) : ∀ j, sn_bkA f b (nI V2) j = 0 → sn_bkA f b (nI V) j = 0
  | 0, _ => rfl
  | j + 1, e => by
    have e0 : (if sn_str f j ≤ sn_lod f j b + sn_prs f j b (nI V2) then j + 1 else sn_bkA f b (nI V2) j) = 0 := e
    by_cases c : sn_str f j ≤ sn_lod f j b + sn_prs f j b (nI V2)
    · rw [if_pos c] at e0; exact absurd e0 (by omega)
    · rw [if_neg c] at e0
      obtain ⟨L, hL, eL⟩ := sn_lod_b hI j b hb
      obtain ⟨P, hP, eP⟩ := sn_prs_b hI j b hb
      have q1 : 100 * V / P ≤ 100 * V2 / P := Nat.div_le_div_right (by omega)
      have q2 : 100 * V2 / P ≤ 100 * V2 := Nat.div_le_self _ _
      rw [eL, eP V2 h2, nI_add, sn_le, nI_toInt (by omega)] at c
      have c2 : ¬ sn_str f j ≤ sn_lod f j b + sn_prs f j b (nI V) := by
        rw [eL, eP V (by omega), nI_add, sn_le, nI_toInt (by omega)]
        omega
      show (if sn_str f j ≤ sn_lod f j b + sn_prs f j b (nI V) then j + 1 else sn_bkA f b (nI V) j) = 0
      rw [if_neg c2]
      exact sn_bkA_mono hI b hb h h2 j e0
theorem sn_wt_N (t v : Nat) : sn_wt t (nI v) = nI (if t ≤ 10 then v else if t ≤ 20 then 2 * v else 4 * v) := by
  unfold sn_wt
  by_cases h : t ≤ 10
  · rw [if_pos h, if_pos h]
  · rw [if_neg h, if_neg h]
    by_cases h2 : t ≤ 20
    · rw [if_pos h2, if_pos h2]; exact pk_mul 2 v
    · rw [if_neg h2, if_neg h2]; exact pk_mul 4 v
theorem sn_bk_mono {f : Nat → Int32} {n : Nat} (hI : sn_I f n) {t t2 v : Nat} (h : t ≤ t2) (hv : v ≤ 50) (e : sn_bk f n (sn_wt t2 (nI v)) = 0) : sn_bk f n (sn_wt t (nI v)) = 0 := by
  rw [sn_wt_N] at e ⊢
  refine sn_bkA_mono hI n hI.2.1 ?_ ?_ (n - 1) e
  · split <;> split <;> (try split) <;> (try split) <;> omega
  · split <;> (try split) <;> omega
theorem sn_tC_none {f : Nat → Int32} {n : Nat} (hI : sn_I f n) {v : Nat} (hv : v ≤ 50) : ∀ t, sn_bk f n (sn_wt t (nI v)) = 0 ∨ t = 0 → sn_tC f n (nI v) t = 0 ∧ sn_tE f n (nI v) t = n
  | 0, _ => ⟨rfl, rfl⟩
  | t + 1, h => by
    have h1 : sn_bk f n (sn_wt (t + 1) (nI v)) = 0 := h.resolve_right (by omega)
    obtain ⟨i1, i2⟩ := sn_tC_none hI hv t (Or.inl (sn_bk_mono hI (Nat.le_succ t) hv h1))
    have h2 : sn_bk f (sn_tE f n (nI v) t) (sn_wt (t + 1) (nI v)) = 0 := by rw [i2]; exact h1
    rw [sn_tC_z h2, sn_tE_z h2]
    exact ⟨i1, i2⟩
theorem sn_tC_zE (f : Nat → Int32) (n : Nat) (v : Int32) : ∀ t, sn_tC f n v t = 0 → sn_tE f n v t = n
  | 0, _ => rfl
  | t + 1, h => by
    by_cases c : sn_bk f (sn_tE f n v t) (sn_wt (t + 1) v) = 0
    · rw [sn_tC_z c] at h; rw [sn_tE_z c]; exact sn_tC_zE f n v t h
    · rw [sn_tC_p c] at h; exact absurd h (by omega)
theorem sn_tC_iff {f : Nat → Int32} {n : Nat} (hI : sn_I f n) {v t : Nat} (hv : v ≤ 50) (ht : 1 ≤ t) : sn_tC f n (nI v) t = 0 ↔ sn_bk f n (sn_wt t (nI v)) = 0 := by
  refine ⟨fun h => ?_, fun h => (sn_tC_none hI hv t (Or.inl h)).1⟩
  obtain ⟨s, rfl⟩ : ∃ s, t = s + 1 := ⟨t - 1, by omega⟩
  by_cases c : sn_bk f (sn_tE f n (nI v) s) (sn_wt (s + 1) (nI v)) = 0
  · rw [sn_tC_z c] at h
    rw [sn_tC_zE f n _ s h] at c
    exact c
  · rw [sn_tC_p c] at h; exact absurd h (by omega)
/-! ===== images: g holds two states side by side ===== -/
def sn_fil (F G : Nat → Int32) (i : Nat) : Nat → Int32 := fun j => if j < i then F j else G j
theorem sn_fil_s (F G : Nat → Int32) (i : Nat) : upd (sn_fil F G i) i (F i) = sn_fil F G (i + 1) := by
  funext j
  unfold upd sn_fil
  by_cases h : j = i
  · rw [if_pos h, if_pos (by omega), h]
  · rw [if_neg h]
    by_cases h2 : j < i
    · rw [if_pos h2, if_pos (by omega)]
    · rw [if_neg h2, if_neg (by omega)]
def sn_img (f g : Nat → Int32) (k i : Nat) : Nat → Int32 := fun j => if 57 * k ≤ j ∧ j < 57 * k + i then f (j - 57 * k) else g j
theorem sn_img_0 (f g : Nat → Int32) (k : Nat) : sn_img f g k 0 = g := by
  funext j
  unfold sn_img
  rw [if_neg (by omega)]
theorem sn_img_s (f g : Nat → Int32) (k i : Nat) : upd (sn_img f g k i) (57 * k + i) (f i) = sn_img f g k (i + 1) := by
  funext j
  unfold upd sn_img
  by_cases h : j = 57 * k + i
  · rw [if_pos h, if_pos (by omega), show j - 57 * k = i by omega]
  · rw [if_neg h]
    by_cases h2 : 57 * k ≤ j ∧ j < 57 * k + i
    · rw [if_pos h2, if_pos (by omega)]
    · rw [if_neg h2, if_neg (by omega)]
def sn_Rimg (x : Int32) : Int32 := if 0 ≤ x ∧ x ≤ 1 then 1 else -2
def sn_Gimg (f g : Nat → Int32) (x : Int32) : Nat → Int32 := if 0 ≤ x ∧ x ≤ 1 then sn_img f g x.toNatClampNeg 57 else g
def sn_Kimg (kp : Nat → Int32) (x : Int32) : Nat → Int32 := if 0 ≤ x ∧ x ≤ 1 then upd kp x.toNatClampNeg 1 else kp
def sn_Rres (kp : Nat → Int32) (x : Int32) : Int32 := if 0 ≤ x ∧ x ≤ 1 then (if kp x.toNatClampNeg = 0 then -3 else 1) else -2
def sn_Fres (f g kp : Nat → Int32) (x : Int32) : Nat → Int32 := if 0 ≤ x ∧ x ≤ 1 then (if kp x.toNatClampNeg = 0 then f else fun j => g (57 * x.toNatClampNeg + j)) else f
