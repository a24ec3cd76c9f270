/-! ===== what the calls that change nothing answer ===== -/
theorem sn_isL {n : Nat} (hn : n ≤ 10) {x : Int32} (h : 0 ≤ x ∧ x ≤ nI n - 1) : ∃ i, i < n ∧ x = nI i := by
  have h1 := h.1
  have h2 := h.2
  rw [sn_le] at h1 h2
  have h0 : (0 : Int32).toInt = 0 := rfl
  rw [h0] at h1
  rw [sn_sub_toInt (by rw [nI_toInt (by omega)]; show _ ≤ (n : Int) - 1; omega) (by rw [nI_toInt (by omega)]; show (n : Int) - 1 < _; omega), nI_toInt (by omega)] at h2
  have h3 : x.toInt ≤ (n : Int) - 1 := h2
  refine ⟨x.toInt.toNat, by omega, ?_⟩
  rw [sn_eq, nI_toInt (by omega)]
  omega
theorem sn_Lis {n i : Nat} (hn : n ≤ 10) (hi : i < n) : 0 ≤ nI i ∧ nI i ≤ nI n - 1 := by
  have e : nI n - 1 = nI (n - 1) := pk_sub (b := 1) (by omega)
  rw [e]
  exact ⟨nI_pos' (by omega), nI_le (by omega) (by omega)⟩
theorem sn_topN {n i : Nat} (hn : n ≤ 10) (hi : i < n) : nI i = nI n - 1 ↔ i = n - 1 := by
  have e : nI n - 1 = nI (n - 1) := pk_sub (b := 1) (by omega)
  rw [e]
  exact nI_eq (by omega) (by omega)
def sn_RlayerN (f : Nat → Int32) (n i : Nat) (y : Int32) : Int32 :=
  if y = 0 then f (7 + 5 * i) else if y = 1 then f (8 + 5 * i) else if y = 2 then f (9 + 5 * i) else if y = 3 then f (10 + 5 * i) else if y = 4 then f (11 + 5 * i) else if y = 5 then sn_str f i else if y = 6 then sn_dep f (i + 1) n else if y = 7 then sn_lod f i n else -2
def sn_Rlayer (f : Nat → Int32) (n : Nat) (x y : Int32) : Int32 := if 0 ≤ x ∧ x ≤ nI n - 1 then sn_RlayerN f n x.toNatClampNeg y else -1
def sn_Rslope (f : Nat → Int32) (n : Nat) (x y z : Int32) : Int32 :=
  if 0 ≤ x ∧ x ≤ nI n - 1 then (if (0 ≤ y ∧ y ≤ 100) ∧ (0 ≤ z ∧ z ≤ 1) then (if z = 0 then sn_she f x.toNatClampNeg n y else sn_mar f x.toNatClampNeg n y) else -2) else -1
def sn_Rweak (f : Nat → Int32) (n : Nat) (x y : Int32) : Int32 :=
  if (0 ≤ x ∧ x ≤ 100) ∧ (0 ≤ y ∧ y ≤ 1) then (if sn_wk f n x = 0 then -6 else if y = 0 then nI (sn_wk f n x - 1) else sn_mar f (sn_wk f n x - 1) n x) else -2
def sn_Rgoes (f : Nat → Int32) (n : Nat) (x y z : Int32) : Int32 :=
  if 0 ≤ x ∧ x ≤ nI n - 1 then (if (0 ≤ y ∧ y ≤ 100) ∧ (0 ≤ z ∧ z ≤ 99) then (if x = nI n - 1 then -3 else sn_b (sn_Go f n y z x.toNatClampNeg)) else -2) else -1
def sn_stp (f : Nat → Int32) (n : Nat) (x y : Int32) : Nat → Nat → Int32
  | 0, _ => -6
  | r + 1, k => if sn_gn f n (nI k) x = 0 then sn_stp f n x y r (k + 1) else if y = 0 then nI k else nI (sn_gn f n (nI k) x - 1)
theorem sn_stp_z {f : Nat → Int32} {n : Nat} {x y : Int32} {k : Nat} (hk : k ≤ 100) (h : sn_gn f n (nI k) x = 0) : sn_stp f n x y (101 - k) k = sn_stp f n x y (101 - (k + 1)) (k + 1) := by
  rw [show 101 - k = (100 - k) + 1 by omega, show 101 - (k + 1) = 100 - k by omega]
  exact if_pos h
theorem sn_stp_p {f : Nat → Int32} {n : Nat} {x y : Int32} {k : Nat} (hk : k ≤ 100) (h : ¬ sn_gn f n (nI k) x = 0) : sn_stp f n x y (101 - k) k = if y = 0 then nI k else nI (sn_gn f n (nI k) x - 1) := by
  rw [show 101 - k = (100 - k) + 1 by omega]
  exact if_neg h
def sn_Rsteep (f : Nat → Int32) (n : Nat) (x y : Int32) : Int32 := if (0 ≤ x ∧ x ≤ 99) ∧ (0 ≤ y ∧ y ≤ 1) then sn_stp f n x y 101 0 else -2
def sn_ned (f : Nat → Int32) (n t : Nat) : Nat → Nat → Int32
  | 0, _ => -6
  | r + 1, v => if sn_bk f n (sn_wt t (nI v)) = 0 then sn_ned f n t r (v + 1) else nI v
theorem sn_ned_z {f : Nat → Int32} {n t v : Nat} (hv : v ≤ 50) (h : sn_bk f n (sn_wt t (nI v)) = 0) : sn_ned f n t (51 - v) v = sn_ned f n t (51 - (v + 1)) (v + 1) := by
  rw [show 51 - v = (50 - v) + 1 by omega, show 51 - (v + 1) = 50 - v by omega]
  exact if_pos h
theorem sn_ned_p {f : Nat → Int32} {n t v : Nat} (hv : v ≤ 50) (h : ¬ sn_bk f n (sn_wt t (nI v)) = 0) : sn_ned f n t (51 - v) v = nI v := by
  rw [show 51 - v = (50 - v) + 1 by omega]
  exact if_neg h
def sn_Rneed (f : Nat → Int32) (n : Nat) (x : Int32) : Int32 := if 1 ≤ x ∧ x ≤ 30 then sn_ned f n x.toNatClampNeg 50 1 else -2
def sn_Rheat (x y z : Int32) : Int32 :=
  if 0 ≤ x ∧ x ≤ 7 then (if (0 ≤ y ∧ y ≤ 23) ∧ (0 ≤ z ∧ z ≤ 1) then (if z = 0 then nI (sn_hv x.toNatClampNeg y.toNatClampNeg) else nI (sn_hs x.toNatClampNeg (y.toNatClampNeg + 1))) else -2) else -1
def sn_Rwarm (x y : Int32) : Int32 := if 0 ≤ x ∧ x ≤ 7 then (if 1 ≤ y ∧ y ≤ 999 then sn_e24 (sn_wh x.toNatClampNeg y.toNatClampNeg) else -2) else -1
def sn_Rord (x y : Int32) : Int32 := if 1 ≤ x ∧ x ≤ 999 then sn_pikM (sn_ro x.toNatClampNeg 24) 0 y else -2
def sn_kps (kp : Nat → Int32) : Int32 := (if kp 0 = 0 then 0 else 1) + (if kp 1 = 0 then 0 else 2)
def sn_Rcount (f : Nat → Int32) (n : Nat) (kp : Nat → Int32) (x : Int32) : Int32 :=
  if 10 ≤ x ∧ x ≤ 14 then f (2 + (x.toNatClampNeg - 10)) else if x = 0 then nI n else if x = 1 then sn_dep f 0 n else if x = 2 then sn_mas f 0 n else if x = 3 then f 1 else if x = 4 then sn_kps kp else -2
abbrev sn_cle (f : Nat → Int32) (i : Nat) : Prop := 2 ≤ f (10 + 5 * (i + 1)) - f (10 + 5 * i) ∨ f (10 + 5 * (i + 1)) - f (10 + 5 * i) ≤ -2

theorem sn_2in {x : Int32} (h : vp_in x 5) : vp_in (2 + x) 57 := by
  obtain ⟨j, hj, rfl⟩ := vp_in_of h (by decide)
  rw [show (2 : Int32) + nI j = nI (2 + j) from nI_add 2 j]
  exact vp_in_nI (by omega) (by decide)
theorem sn_2cl {x : Int32} (h : vp_in x 5) : (2 + x).toNatClampNeg = 2 + x.toNatClampNeg := by
  obtain ⟨j, hj, rfl⟩ := vp_in_of h (by decide)
  rw [show (2 : Int32) + nI j = nI (2 + j) from nI_add 2 j, nI_clamp (by omega), nI_clamp (by omega)]
theorem sn_dn_11 : ∀ n : Nat, sn_dn (n - 1) (nI n - 1 - 1)
  | 0 => show (nI 0 - 1 - 1 : Int32) < 0 by decide
  | 1 => show (nI 1 - 1 - 1 : Int32) < 0 by decide
  | b + 2 => by
    show nI (b + 2) - 1 - 1 = nI b
    rw [nI_pred, nI_pred]
theorem sn_getop {n k : Nat} (hn : n ≤ 10) (hk : k ≤ 10) : nI n - 1 ≤ nI k ↔ n - 1 ≤ k := by
  cases n with
  | zero => exact ⟨fun _ => Nat.zero_le _, fun _ => by rw [sn_le, nI_toInt (by omega)]; show (-1 : Int) ≤ k; omega⟩
  | succ n => rw [nI_pred]; exact nI_leI (by omega) (by omega)
