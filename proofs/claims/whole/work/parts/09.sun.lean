/-! ===== the sun: heat of a side in an hour, up to an hour, the hour in which a side is warm, the sides in their order ===== -/
def sn_hv (i h : Nat) : Nat := if 6 ≤ h ∧ h ≤ 18 then 90 - (if (if 15 * h ≤ 45 * i then 45 * i - 15 * h else 15 * h - 45 * i) ≤ 180 then (if 15 * h ≤ 45 * i then 45 * i - 15 * h else 15 * h - 45 * i) else 360 - (if 15 * h ≤ 45 * i then 45 * i - 15 * h else 15 * h - 45 * i)) else 0
theorem sn_hv_le (i h : Nat) : sn_hv i h ≤ 90 := by
  unfold sn_hv
  split <;> omega
def sn_hs (i : Nat) : Nat → Nat
  | 0 => 0
  | h + 1 => sn_hs i h + sn_hv i h
theorem sn_hs_le (i : Nat) : ∀ h, sn_hs i h ≤ 90 * h
  | 0 => Nat.le_refl 0
  | h + 1 => by
    have h1 := sn_hs_le i h
    have h2 := sn_hv_le i h
    show sn_hs i h + sn_hv i h ≤ _
    omega
def sn_whA (i t : Nat) : Nat → Nat → Nat
  | 0, _ => 24
  | r + 1, k => if t ≤ sn_hs i (k + 1) then k else sn_whA i t r (k + 1)
def sn_wh (i t : Nat) : Nat := sn_whA i t 24 0
theorem sn_whA_hit {i t k : Nat} (hk : k < 24) (h : t ≤ sn_hs i (k + 1)) : sn_whA i t (24 - k) k = k := by
  rw [show 24 - k = (23 - k) + 1 by omega]
  exact if_pos h
theorem sn_whA_miss {i t k : Nat} (hk : k < 24) (h : ¬ t ≤ sn_hs i (k + 1)) : sn_whA i t (24 - k) k = sn_whA i t (24 - (k + 1)) (k + 1) := by
  rw [show 24 - k = (23 - k) + 1 by omega, show 24 - (k + 1) = 23 - k by omega]
  exact if_neg h
def sn_e24 (x : Nat) : Int32 := if x < 24 then nI x else -6
theorem sn_e24_none {x : Nat} : sn_e24 x = -6 ↔ ¬ x < 24 := by
  unfold sn_e24
  split
  · exact ⟨fun e => absurd e (sn_en_ne (by omega)), fun e => by omega⟩
  · exact ⟨fun _ => by assumption, fun _ => rfl⟩
theorem sn_e24_eq {x k : Nat} (hk : k < 24) : sn_e24 x = nI k ↔ x = k := by
  unfold sn_e24
  split
  · exact nI_eq (by omega) (by omega)
  · exact ⟨fun e => absurd e.symm (sn_en_ne (by omega)), fun e => by omega⟩
/-- how many of the sides below k are ever warm -/
def sn_ws (t : Nat) : Nat → Nat
  | 0 => 0
  | k + 1 => sn_ws t k + (if sn_wh k t < 24 then 1 else 0)
/-- the sides from 8 - r on that are warm in hour h -/
def sn_ri (t h : Nat) : Nat → List Nat
  | 0 => []
  | r + 1 => if sn_wh (7 - r) t = h then (7 - r) :: sn_ri t h r else sn_ri t h r
def sn_ro (t : Nat) : Nat → List Nat
  | 0 => []
  | r + 1 => sn_ri t (23 - r) 8 ++ sn_ro t r
theorem sn_ri_y {t h q : Nat} (hq : q < 8) (e : sn_wh q t = h) : sn_ri t h (8 - q) = q :: sn_ri t h (8 - (q + 1)) := by
  rw [show 8 - q = (7 - q) + 1 by omega, show 8 - (q + 1) = 7 - q by omega]
  show (if sn_wh (7 - (7 - q)) t = h then _ else _) = _
  rw [show 7 - (7 - q) = q by omega, if_pos e]
theorem sn_ri_n {t h q : Nat} (hq : q < 8) (e : ¬ sn_wh q t = h) : sn_ri t h (8 - q) = sn_ri t h (8 - (q + 1)) := by
  rw [show 8 - q = (7 - q) + 1 by omega, show 8 - (q + 1) = 7 - q by omega]
  show (if sn_wh (7 - (7 - q)) t = h then _ else _) = _
  rw [show 7 - (7 - q) = q by omega, if_neg e]
theorem sn_ro_s {t k : Nat} (hk : k < 24) : sn_ro t (24 - k) = sn_ri t k 8 ++ sn_ro t (24 - (k + 1)) := by
  rw [show 24 - k = (23 - k) + 1 by omega, show 24 - (k + 1) = 23 - k by omega]
  show sn_ri t (23 - (23 - k)) 8 ++ _ = _
  rw [show 23 - (23 - k) = k by omega]
/-- the side at a place, v sides having been passed -/
def sn_pick : List Nat → Int32 → Int32 → Int32
  | [], _, _ => -6
  | q :: M, v, i => if v = i then nI q else sn_pick M (v + 1) i
/-- the same, but for place -1 how many there are -/
def sn_pikM : List Nat → Int32 → Int32 → Int32
  | [], v, i => if i = -1 then v else -6
  | q :: M, v, i => if v = i then nI q else sn_pikM M (v + 1) i
theorem sn_pik_ne (i : Int32) (hi : ¬ i = -1) : ∀ (M : List Nat) (v : Int32), sn_pikM M v i = sn_pick M v i
  | [], v => if_neg hi
  | q :: M, v => by
    show (if v = i then nI q else _) = (if v = i then nI q else _)
    rw [sn_pik_ne i hi M (v + 1)]
theorem sn_m1_ne {j : Nat} (h : j < 2147483648) : ¬ nI j = -1 := by
  intro e
  have e1 := congrArg Int32.toInt e
  rw [nI_toInt (by omega)] at e1
  have e2 : (j : Int) = -1 := e1
  omega
theorem sn_pik_m1 : ∀ (M : List Nat) (v : Nat), v + M.length < 2147483648 → sn_pikM M (nI v) (-1) = nI (v + M.length)
  | [], v, _ => if_pos rfl
  | q :: M, v, h => by
    have h1 : M.length + 1 = (q :: M).length := rfl
    show (if nI v = -1 then nI q else _) = _
    rw [if_neg (sn_m1_ne (by omega)), nI_1, sn_pik_m1 M (v + 1) (by omega), ← h1]
    congr 1; omega
/-- the same sides, counted by hours and by numbers -/
def sn_c1 (t lo : Nat) : Nat → Nat
  | 0 => 0
  | r + 1 => sn_c1 t lo r + (if lo ≤ sn_wh (7 - r) t ∧ sn_wh (7 - r) t < 24 then 1 else 0)
theorem sn_c1_s (t : Nat) {h : Nat} (hh : h < 24) : ∀ r, sn_c1 t h r = (sn_ri t h r).length + sn_c1 t (h + 1) r
  | 0 => rfl
  | r + 1 => by
    have ih := sn_c1_s t hh r
    show sn_c1 t h r + _ = (if sn_wh (7 - r) t = h then (7 - r) :: sn_ri t h r else sn_ri t h r).length + (sn_c1 t (h + 1) r + _)
    rw [ih]
    by_cases e : sn_wh (7 - r) t = h
    · rw [if_pos e, if_pos (by omega), if_neg (by omega)]
      show _ = (sn_ri t h r).length + 1 + _
      omega
    · rw [if_neg e]
      by_cases e2 : h ≤ sn_wh (7 - r) t ∧ sn_wh (7 - r) t < 24
      · rw [if_pos e2, if_pos (by omega)]; omega
      · rw [if_neg e2, if_neg (by omega)]; omega
theorem sn_c1_24 (t : Nat) : ∀ r, sn_c1 t 24 r = 0
  | 0 => rfl
  | r + 1 => by
    show sn_c1 t 24 r + _ = 0
    rw [sn_c1_24 t r, if_neg (by omega)]
theorem sn_ro_len (t : Nat) : ∀ r, r ≤ 24 → (sn_ro t r).length = sn_c1 t (24 - r) 8
  | 0, _ => (sn_c1_24 t 8).symm
  | r + 1, h => by
    show (sn_ri t (23 - r) 8 ++ sn_ro t r).length = _
    rw [List.length_append, sn_ro_len t r (by omega), show 24 - (r + 1) = 23 - r by omega, sn_c1_s t (h := 23 - r) (by omega) 8, show 23 - r + 1 = 24 - r by omega]
theorem sn_ws_c1 (t : Nat) : sn_ws t 8 = sn_c1 t 0 8 := by
  simp only [sn_ws, sn_c1]
  simp only [Nat.zero_le, true_and, Nat.sub_self, Nat.sub_zero, show 7 - 1 = 6 from rfl, show 7 - 2 = 5 from rfl, show 7 - 3 = 4 from rfl, show 7 - 4 = 3 from rfl, show 7 - 5 = 2 from rfl, show 7 - 6 = 1 from rfl]
  omega
theorem sn_ws_len (t : Nat) : sn_ws t 8 = (sn_ro t 24).length := by
  rw [sn_ro_len t 24 (Nat.le_refl _), sn_ws_c1]
theorem sn_ws_le (t : Nat) : ∀ k, sn_ws t k ≤ k
  | 0 => Nat.le_refl 0
  | k + 1 => by
    have := sn_ws_le t k
    show sn_ws t k + _ ≤ _
    split <;> omega
theorem sn_hvC : ∀ i, i < 8 → ∀ h, h < 24 → (6 ≤ nI h ∧ nI h ≤ 18) → (if (0 : Int32) < 90 - (if 360 - (if 0 ≤ nI (45 * i) - nI (15 * h) then nI (45 * i) - nI (15 * h) else 0 - (nI (45 * i) - nI (15 * h))) < (if 0 ≤ nI (45 * i) - nI (15 * h) then nI (45 * i) - nI (15 * h) else 0 - (nI (45 * i) - nI (15 * h))) then 360 - (if 0 ≤ nI (45 * i) - nI (15 * h) then nI (45 * i) - nI (15 * h) else 0 - (nI (45 * i) - nI (15 * h))) else (if 0 ≤ nI (45 * i) - nI (15 * h) then nI (45 * i) - nI (15 * h) else 0 - (nI (45 * i) - nI (15 * h)))) then 90 - (if 360 - (if 0 ≤ nI (45 * i) - nI (15 * h) then nI (45 * i) - nI (15 * h) else 0 - (nI (45 * i) - nI (15 * h))) < (if 0 ≤ nI (45 * i) - nI (15 * h) then nI (45 * i) - nI (15 * h) else 0 - (nI (45 * i) - nI (15 * h))) then 360 - (if 0 ≤ nI (45 * i) - nI (15 * h) then nI (45 * i) - nI (15 * h) else 0 - (nI (45 * i) - nI (15 * h))) else (if 0 ≤ nI (45 * i) - nI (15 * h) then nI (45 * i) - nI (15 * h) else 0 - (nI (45 * i) - nI (15 * h)))) else 0) = nI (sn_hv i h) := by decide +kernel
theorem sn_hv0 : ∀ h, h < 24 → ¬ (6 ≤ nI h ∧ nI h ≤ 18) → ∀ i, i < 8 → (0 : Int32) = nI (sn_hv i h) := by decide +kernel
