/-! ===== what the calls that change the state make of it ===== -/
def sn_mx1 (v : Int32) : Int32 := if v < 1 then 1 else v
def sn_mn6 (v : Int32) : Int32 := if 600 < v then 600 else v
def sn_hd (h : Int32) : Int32 := h + (if h < 5 then 1 else 0)
theorem sn_max1 (v : Int32) : (if (1 : Int32) < v then v else 1) = sn_mx1 v := by
  unfold sn_mx1
  by_cases h : (1 : Int32) < v
  · rw [if_pos h, if_neg (by rw [sn_lt] at h ⊢; omega)]
  · rw [if_neg h]
    by_cases h2 : v < 1
    · rw [if_pos h2]
    · rw [if_neg h2, sn_eq]; rw [sn_lt] at h h2; omega
theorem sn_min6 (v : Int32) : (if v < (600 : Int32) then v else 600) = sn_mn6 v := by
  unfold sn_mn6
  by_cases h : v < (600 : Int32)
  · rw [if_pos h, if_neg (by rw [sn_lt] at h ⊢; omega)]
  · rw [if_neg h]
    by_cases h2 : (600 : Int32) < v
    · rw [if_pos h2]
    · rw [if_neg h2, sn_eq]; rw [sn_lt] at h h2; omega
theorem sn_mx1_ne (v : Int32) : ¬ sn_mx1 v = 0 := by
  unfold sn_mx1
  by_cases h : v < 1
  · rw [if_pos h]; decide
  · rw [if_neg h]
    intro e
    subst e
    exact h (by decide)
theorem sn_min5 {h : Int32} (h0 : 0 ≤ h.toInt) (h5 : h.toInt ≤ 5) : (if h + 1 < (5 : Int32) then h + 1 else 5) = sn_hd h := by
  unfold sn_hd
  have l1 : (1 : Int32).toInt = 1 := rfl
  have l5 : (5 : Int32).toInt = 5 := rfl
  have e : (h + 1).toInt = h.toInt + 1 := by rw [sn_add_toInt (by rw [l1]; omega) (by rw [l1]; omega), l1]
  by_cases c : h < 5
  · rw [if_pos c]
    rw [sn_lt, l5] at c
    by_cases c2 : h + 1 < (5 : Int32)
    · rw [if_pos c2]
    · rw [if_neg c2, sn_eq, e]; rw [sn_lt, e] at c2; omega
  · rw [if_neg c]
    rw [sn_lt, l5] at c
    rw [if_neg (by rw [sn_lt, e]; omega), sn_eq]
    have l0 : (0 : Int32).toInt = 0 := rfl
    rw [sn_add_toInt (by rw [l0]; omega) (by rw [l0]; omega), l0]
    omega
theorem sn_mn6_ne {v x : Int32} (h0 : 0 ≤ v.toInt) (h6 : v.toInt ≤ 600) (hx : 1 ≤ x ∧ x ≤ 200) : ¬ sn_mn6 (v + x) = 0 := by
  have l1 : (1 : Int32).toInt = 1 := rfl
  have l2 : (200 : Int32).toInt = 200 := rfl
  have h1 := hx.1
  have h2 := hx.2
  rw [sn_le, l1] at h1
  rw [sn_le, l2] at h2
  unfold sn_mn6
  by_cases h : (600 : Int32) < v + x
  · rw [if_pos h]; decide
  · rw [if_neg h]
    intro e
    have e1 := congrArg Int32.toInt e
    rw [sn_add_toInt (by omega) (by omega)] at e1
    have e2 : v.toInt + x.toInt = 0 := e1
    omega
def sn_stF (f : Nat → Int32) (n : Nat) (x y z u : Int32) : Nat → Int32 := upd (upd (upd (upd (upd (upd f (7 + 5 * n) x) (8 + 5 * n) y) (9 + 5 * n) z) (10 + 5 * n) u) (11 + 5 * n) 0) 0 (nI (n + 1))
def sn_pkF (f : Nat → Int32) (i : Nat) (x : Int32) : Nat → Int32 :=
  upd (upd (upd f (8 + 5 * i) (sn_mn6 (f (8 + 5 * i) + x))) (7 + 5 * i) (sn_mx1 (f (7 + 5 * i) * f (8 + 5 * i) / sn_mn6 (f (8 + 5 * i) + x)))) (10 + 5 * i) (sn_hd (f (10 + 5 * i)))
def sn_sT (g : Nat → Int32) (k : Nat) (x : Int32) : Int32 := sn_mx1 (g (7 + 5 * k) * (100 - x) / 100)
def sn_s2 (g : Nat → Int32) (k : Nat) (x : Int32) : Nat → Int32 := upd (upd g (7 + 5 * k) (sn_sT g k x)) (8 + 5 * k) (sn_mn6 (g (7 + 5 * k) * g (8 + 5 * k) / sn_sT g k x))
def sn_s1 (g : Nat → Int32) (k : Nat) (x : Int32) : Nat → Int32 := if g (9 + 5 * k) = 4 then g else sn_s2 g k x
def sn_seF (f : Nat → Int32) (x : Int32) : Nat → Nat → Int32
  | 0 => f
  | k + 1 => sn_s1 (sn_seF f x k) k x
def sn_mlN (f : Nat → Int32) : Nat → Int32 → Nat
  | 0, _ => 0
  | k + 1, r => if f (7 + 5 * k) ≤ r then sn_mlN f k (r - f (7 + 5 * k)) else k + 1
def sn_mlR (f : Nat → Int32) : Nat → Int32 → Int32
  | 0, r => r
  | k + 1, r => if f (7 + 5 * k) ≤ r then sn_mlR f k (r - f (7 + 5 * k)) else r
def sn_mlE (f : Nat → Int32) (k : Nat) (r : Int32) : Nat → Int32 := if k = 0 then upd f 0 (nI 0) else upd (upd f 0 (nI k)) (7 + 5 * (k - 1)) (f (7 + 5 * (k - 1)) - r)
def sn_mlF (f : Nat → Int32) (n : Nat) (x : Int32) : Nat → Int32 := sn_mlE f (sn_mlN f n x) (sn_mlR f n x)
theorem sn_mlN_y {f : Nat → Int32} {k : Nat} {r : Int32} (hk : 0 < k) (h : f (7 + 5 * (k - 1)) ≤ r) : sn_mlN f k r = sn_mlN f (k - 1) (r - f (7 + 5 * (k - 1))) := by
  obtain ⟨j, rfl⟩ : ∃ j, k = j + 1 := ⟨k - 1, by omega⟩
  exact if_pos h
theorem sn_mlR_y {f : Nat → Int32} {k : Nat} {r : Int32} (hk : 0 < k) (h : f (7 + 5 * (k - 1)) ≤ r) : sn_mlR f k r = sn_mlR f (k - 1) (r - f (7 + 5 * (k - 1))) := by
  obtain ⟨j, rfl⟩ : ∃ j, k = j + 1 := ⟨k - 1, by omega⟩
  exact if_pos h
theorem sn_mlN_n {f : Nat → Int32} {k : Nat} {r : Int32} (hk : 0 < k) (h : ¬ f (7 + 5 * (k - 1)) ≤ r) : sn_mlN f k r = k := by
  obtain ⟨j, rfl⟩ : ∃ j, k = j + 1 := ⟨k - 1, by omega⟩
  exact if_neg h
theorem sn_mlR_n {f : Nat → Int32} {k : Nat} {r : Int32} (hk : 0 < k) (h : ¬ f (7 + 5 * (k - 1)) ≤ r) : sn_mlR f k r = r := by
  obtain ⟨j, rfl⟩ : ∃ j, k = j + 1 := ⟨k - 1, by omega⟩
  exact if_neg h
theorem sn_mlN_le (f : Nat → Int32) : ∀ (k : Nat) (r : Int32), sn_mlN f k r ≤ k
  | 0, _ => Nat.le_refl 0
  | k + 1, r => by
    show (if f (7 + 5 * k) ≤ r then sn_mlN f k (r - f (7 + 5 * k)) else k + 1) ≤ k + 1
    have := sn_mlN_le f k (r - f (7 + 5 * k))
    split <;> omega
def sn_weF : (Nat → Int32) → Nat → Nat → Int32
  | g, 0 => g
  | g, j + 1 => if g (9 + 5 * j) = 4 then g else sn_weF (upd g (11 + 5 * j) 1) j
def sn_f2 (g : Nat → Int32) (k : Nat) : Nat → Int32 := upd (upd (upd g (9 + 5 * k) 4) (10 + 5 * k) 5) (11 + 5 * k) 0
def sn_f1 (g : Nat → Int32) (k : Nat) : Nat → Int32 := if g (11 + 5 * k) = 0 then g else sn_f2 g k
def sn_frF (f : Nat → Int32) : Nat → Nat → Int32
  | 0 => f
  | k + 1 => sn_f1 (sn_frF f k) k
def sn_frC (f : Nat → Int32) : Nat → Nat
  | 0 => 0
  | k + 1 => sn_frC f k + (if sn_frF f k (11 + 5 * k) = 0 then 0 else 1)
theorem sn_s1_0 (g : Nat → Int32) (k : Nat) (x : Int32) : sn_s1 g k x 0 = g 0 := by
  unfold sn_s1 sn_s2
  split
  · rfl
  · rw [pk_un (by omega), pk_un (by omega)]
theorem sn_seF_0 (f : Nat → Int32) (x : Int32) : ∀ k, sn_seF f x k 0 = f 0
  | 0 => rfl
  | k + 1 => (sn_s1_0 _ k x).trans (sn_seF_0 f x k)
theorem sn_f1_0 (g : Nat → Int32) (k : Nat) : sn_f1 g k 0 = g 0 := by
  unfold sn_f1 sn_f2
  split
  · rfl
  · rw [pk_un (by omega), pk_un (by omega), pk_un (by omega)]
theorem sn_frF_0 (f : Nat → Int32) : ∀ k, sn_frF f k 0 = f 0
  | 0 => rfl
  | k + 1 => (sn_f1_0 _ k).trans (sn_frF_0 f k)
theorem sn_upd_same {f : Nat → Int32} {k : Nat} {x : Int32} (h : f k = x) : upd f k x = f := by
  funext j
  unfold upd
  split
  · rename_i e; rw [e]; exact h.symm
  · rfl
theorem sn_upd_twice (f : Nat → Int32) (k : Nat) (x y : Int32) : upd (upd f k x) k y = upd f k y := by
  funext j
  unfold upd
  split <;> rfl
