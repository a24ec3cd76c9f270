/-! ===== numbers: counters and indices as Nat (nI), comparisons, array rows by a Nat index ===== -/
theorem sn_inc (k : Nat) : nI k + Int32.ofInt 1 = nI (k + 1) := nI_add k 1
theorem sn_incn (k n : Nat) : nI k + nI n = nI (k + n) := nI_add k n
theorem sn_nadd {x y : Int32} {a b : Nat} (hx : x = nI a) (hy : y = nI b) : x + y = nI (a + b) := by rw [hx, hy]; exact nI_add a b
theorem sn_nmul {x y : Int32} {a b : Nat} (hx : x = nI a) (hy : y = nI b) : x * y = nI (a * b) := by rw [hx, hy]; exact pk_mul a b
theorem sn_nsub {x y : Int32} {a b : Nat} (hx : x = nI a) (hy : y = nI b) (h : b ≤ a) : x - y = nI (a - b) := by rw [hx, hy]; exact pk_sub h
section SC
variable {x y : Int32} {a b : Nat} (hx : x = nI a) (hy : y = nI b) (ha : a < 2147483648) (hb : b < 2147483648)
theorem sn_ceqj (hx : x = nI a) (hy : y = nI b) (ha : a < 2147483648) (hb : b < 2147483648) : x = y ↔ a = b := by rw [hx, hy]; exact nI_eq ha hb
theorem sn_ceqf (hx : x = nI a) (hy : y = nI b) (ha : a < 2147483648) (hb : b < 2147483648) : ¬ x = y ↔ ¬ a = b := not_congr (sn_ceqj hx hy ha hb)
theorem sn_cnej (hx : x = nI a) (hy : y = nI b) (ha : a < 2147483648) (hb : b < 2147483648) : ¬ x = y ↔ ¬ a = b := not_congr (sn_ceqj hx hy ha hb)
theorem sn_cnef (hx : x = nI a) (hy : y = nI b) (ha : a < 2147483648) (hb : b < 2147483648) : x = y ↔ a = b := sn_ceqj hx hy ha hb
theorem sn_cltj (hx : x = nI a) (hy : y = nI b) (ha : a < 2147483648) (hb : b < 2147483648) : x < y ↔ a < b := by rw [hx, hy]; exact nI_ltI ha hb
theorem sn_cltf (hx : x = nI a) (hy : y = nI b) (ha : a < 2147483648) (hb : b < 2147483648) : ¬ x < y ↔ ¬ a < b := not_congr (sn_cltj hx hy ha hb)
theorem sn_cgej (hx : x = nI a) (hy : y = nI b) (ha : a < 2147483648) (hb : b < 2147483648) : y ≤ x ↔ b ≤ a := by rw [hx, hy]; exact nI_leI hb ha
theorem sn_cgef (hx : x = nI a) (hy : y = nI b) (ha : a < 2147483648) (hb : b < 2147483648) : ¬ y ≤ x ↔ ¬ b ≤ a := not_congr (sn_cgej hx hy ha hb)
theorem sn_cgtj (hx : x = nI a) (hy : y = nI b) (ha : a < 2147483648) (hb : b < 2147483648) : y < x ↔ b < a := by rw [hx, hy]; exact nI_ltI hb ha
theorem sn_cgtf (hx : x = nI a) (hy : y = nI b) (ha : a < 2147483648) (hb : b < 2147483648) : ¬ y < x ↔ ¬ b < a := not_congr (sn_cgtj hx hy ha hb)
theorem sn_clej (hx : x = nI a) (hy : y = nI b) (ha : a < 2147483648) (hb : b < 2147483648) : x ≤ y ↔ a ≤ b := by rw [hx, hy]; exact nI_leI ha hb
theorem sn_clef (hx : x = nI a) (hy : y = nI b) (ha : a < 2147483648) (hb : b < 2147483648) : ¬ x ≤ y ↔ ¬ a ≤ b := not_congr (sn_clej hx hy ha hb)
end SC
theorem sn_lt (a b : Int32) : a < b ↔ a.toInt < b.toInt := Int32.lt_iff_toInt_lt
theorem sn_le (a b : Int32) : a ≤ b ↔ a.toInt ≤ b.toInt := Int32.le_iff_toInt_le
theorem sn_eq (a b : Int32) : a = b ↔ a.toInt = b.toInt := Int32.toInt_inj.symm
section SA
variable {p : Program} {l : Launch} {e : Env} {R : Room} {s : State} {m : MethodId} {args : Array Value} {below : List Frame} {meth : Method} {c : Code} {H : Heap} {locs : List Loc} {cells slots : Nat} {Q : State → Prop}
variable {cc : ByteArray} {pc : Nat} {ls : Array Slot} {rest : List Value} {D : va_G} {cl : List vw_C} {A : Nat → Prop} {a : Nat} {tys : List (ClassId × FieldType)} {ws : va_W} {H0 : Heap}
theorem sn_ild {cA : ClassId} {n k : Nat} {g : Nat → Int32} {i v : Int32} (q0 t0 : Nat) (hx : p.tables.exec = Jvm.exec) (hb : c.code = cc) (hK : va_K D cl tys s) (hP : va_P D cl ws H) (ha : ws[q0]? = some (a, .inl (cA, n, .inl g))) (ht : tys[t0]? = some (cA, .int)) (hk : k < n) (hn : n < 2147483648) (hi : i = nI k) (hv : g k = v) (hdg : decode cc pc = .ok (.iaload, 1))
    (kk : W p l e R s m args below meth c H locs cells slots Q (F0 m (pc + 1) ls (.int v :: rest))) : W p l e R s m args below meth c H locs cells slots Q (F0 m pc ls (.int i :: .ref a :: rest)) := by
  subst hi; subst hv
  refine va_iald hx hb hK hP q0 t0 ha ht (vp_in_nI hk hn) hdg ?_
  rw [nI_clamp (by omega)]
  exact kk
theorem sn_zld {cA : ClassId} {n k : Nat} {g : Nat → Int32} {i v : Int32} (q0 t0 : Nat) (hx : p.tables.exec = Jvm.exec) (hb : c.code = cc) (hK : va_K D cl tys s) (hP : va_P D cl ws H) (ha : ws[q0]? = some (a, .inl (cA, n, .inl g))) (ht : tys[t0]? = some (cA, .boolean)) (hk : k < n) (hn : n < 2147483648) (hi : i = nI k) (hv : g k = v) (hdg : decode cc pc = .ok (.baload, 1))
    (kk : W p l e R s m args below meth c H locs cells slots Q (F0 m (pc + 1) ls (.int v :: rest))) : W p l e R s m args below meth c H locs cells slots Q (F0 m pc ls (.int i :: .ref a :: rest)) := by
  subst hi; subst hv
  refine va_zald hx hb hK hP q0 t0 ha ht (vp_in_nI hk hn) hdg ?_
  rw [nI_clamp (by omega)]
  exact kk
theorem sn_ist {cA : ClassId} {n k : Nat} {g : Nat → Int32} {i x : Int32} (q0 t0 : Nat) (hx : p.tables.exec = Jvm.exec) (hb : c.code = cc) (hK : va_K D cl tys s) (hP : va_P D cl ws H) (hD : va_D A ws) (hS : va_S A H0 H locs) (ha : ws[q0]? = some (a, .inl (cA, n, .inl g))) (ht : tys[t0]? = some (cA, .int)) (hk : k < n) (hn : n < 2147483648) (hi : i = nI k) (hdg : decode cc pc = .ok (.iastore, 1))
    (kk : ∀ (H1 : Heap) (locs1 : List Loc), va_P D cl (ws.set q0 (a, .inl (cA, n, .inl (upd g k x)))) H1 → va_D A (ws.set q0 (a, .inl (cA, n, .inl (upd g k x)))) → va_S A H0 H1 locs1 → W p l e R s m args below meth c H1 locs1 cells slots Q (F0 m (pc + 1) ls rest)) : W p l e R s m args below meth c H locs cells slots Q (F0 m pc ls (.int x :: .int i :: .ref a :: rest)) := by
  subst hi
  refine va_iast hx hb hK hP hD hS q0 t0 ha ht (vp_in_nI hk hn) hdg ?_
  rw [nI_clamp (by omega)]
  exact kk
theorem sn_zst {cA : ClassId} {n k : Nat} {g : Nat → Int32} {i x : Int32} (q0 t0 : Nat) (hx : p.tables.exec = Jvm.exec) (hb : c.code = cc) (hK : va_K D cl tys s) (hP : va_P D cl ws H) (hD : va_D A ws) (hS : va_S A H0 H locs) (ha : ws[q0]? = some (a, .inl (cA, n, .inl g))) (ht : tys[t0]? = some (cA, .boolean)) (hk : k < n) (hn : n < 2147483648) (hi : i = nI k) (h01 : x = 0 ∨ x = 1) (hdg : decode cc pc = .ok (.bastore, 1))
    (kk : ∀ (H1 : Heap) (locs1 : List Loc), va_P D cl (ws.set q0 (a, .inl (cA, n, .inl (upd g k x)))) H1 → va_D A (ws.set q0 (a, .inl (cA, n, .inl (upd g k x)))) → va_S A H0 H1 locs1 → W p l e R s m args below meth c H1 locs1 cells slots Q (F0 m (pc + 1) ls rest)) : W p l e R s m args below meth c H locs cells slots Q (F0 m pc ls (.int x :: .int i :: .ref a :: rest)) := by
  subst hi
  refine va_zast hx hb hK hP hD hS q0 t0 ha ht (vp_in_nI hk hn) hdg ?_
  rw [nI_clamp (by omega), sn_narz h01]
  exact kk
theorem sn_ald {cA : ClassId} {C : String} {n k : Nat} {g : Nat → Option Nat} {i : Int32} (q0 t0 : Nat) (hx : p.tables.exec = Jvm.exec) (hb : c.code = cc) (hK : va_K D cl tys s) (hP : va_P D cl ws H) (ha : ws[q0]? = some (a, .inl (cA, n, .inr (.inr (.inr (.inr g)))))) (ht : tys[t0]? = some (cA, .object C)) (hk : k < n) (hn : n < 2147483648) (hi : i = nI k) (hdg : decode cc pc = .ok (.aaload, 1))
    (kk : W p l e R s m args below meth c H locs cells slots Q (F0 m (pc + 1) ls (va_rf (g k) :: rest))) : W p l e R s m args below meth c H locs cells slots Q (F0 m pc ls (.int i :: .ref a :: rest)) := by
  subst hi
  refine va_aldq hx hb hK hP q0 t0 ha ht (vp_in_nI hk hn) hdg ?_
  rw [nI_clamp (by omega)]
  exact kk
end SA
/-! ===== the words of the state: f, the 57 numbers that class and reference both keep ===== -/
abbrev sn_ty (cI cZ cR : ClassId) : List (ClassId × FieldType) := [(cI, .int), (cZ, .boolean), (cR, .object "SnowSlabs$Cover")]
abbrev sn_wC (cI cZ : ClassId) (a : Nat → Nat) (f : Nat → Int32) : va_W :=
  [(a 0, .inr (0, [.int (f 0), .int (f 1), .ref (a 1), .ref (a 2), .ref (a 3), .ref (a 4), .ref (a 5), .ref (a 6)])), (a 1, .inl (cI, 10, .inl (fun k => f (7 + 5 * k)))), (a 2, .inl (cI, 10, .inl (fun k => f (8 + 5 * k)))), (a 3, .inl (cI, 10, .inl (fun k => f (9 + 5 * k)))), (a 4, .inl (cI, 10, .inl (fun k => f (10 + 5 * k)))), (a 5, .inl (cZ, 10, .inl (fun k => f (11 + 5 * k)))), (a 6, .inl (cI, 5, .inl (fun k => f (2 + k))))]
/-- the class's object and its cover -/
abbrev sn_wS (cI cZ : ClassId) (o : Nat) (a bt : Nat → Nat) (im : Nat) (f : Nat → Int32) : va_W := (o, .inr (2, [.ref (a 0), .ref (bt 0), .ref im])) :: sn_wC cI cZ a f
/-- the reference's cells -/
abbrev sn_wM (cI cZ : ClassId) (a : Nat → Nat) (f g kp tp ly : Nat → Int32) (n : Int32) : va_W :=
  [(a 0, .inr (3, [.ref (a 1), .ref (a 2), .ref (a 3), .ref (a 4), .ref (a 5), .int n])), (a 1, .inl (cI, 57, .inl f)), (a 2, .inl (cI, 114, .inl g)), (a 3, .inl (cZ, 2, .inl kp)), (a 4, .inl (cI, 30, .inl tp)), (a 5, .inl (cI, 30, .inl ly))]
def sn_dep (f : Nat → Int32) (i : Nat) : Nat → Int32
  | 0 => 0
  | b + 1 => if i ≤ b then sn_dep f i b + f (7 + 5 * b) else 0
def sn_mas (f : Nat → Int32) (i : Nat) : Nat → Int32
  | 0 => 0
  | b + 1 => if i ≤ b then sn_mas f i b + f (7 + 5 * b) * f (8 + 5 * b) else 0
theorem sn_dep_self (f : Nat → Int32) : ∀ i, sn_dep f i i = 0
  | 0 => rfl
  | i + 1 => if_neg (by omega)
theorem sn_mas_self (f : Nat → Int32) : ∀ i, sn_mas f i i = 0
  | 0 => rfl
  | i + 1 => if_neg (by omega)
theorem sn_dep_s {f : Nat → Int32} {i b : Nat} (h : i ≤ b) : sn_dep f i b + f (7 + 5 * b) = sn_dep f i (b + 1) := (if_pos h).symm
theorem sn_mas_s {f : Nat → Int32} {i b : Nat} (h : i ≤ b) : sn_mas f i b + f (7 + 5 * b) * f (8 + 5 * b) = sn_mas f i (b + 1) := (if_pos h).symm
def sn_str (f : Nat → Int32) (i : Nat) : Int32 :=
  if f (11 + 5 * i) = 0 then f (2 + (f (9 + 5 * i)).toNatClampNeg) * f (10 + 5 * i) * f (8 + 5 * i) / 100 else f (2 + (f (9 + 5 * i)).toNatClampNeg) * f (10 + 5 * i) * f (8 + 5 * i) / 100 / 2
def sn_lod (f : Nat → Int32) (i b : Nat) : Int32 := sn_mas f (i + 1) b / 100
def sn_prs (f : Nat → Int32) (i b : Nat) (w : Int32) : Int32 := 100 * w / (sn_dep f (i + 1) b + 10)
def sn_she (f : Nat → Int32) (i n : Nat) (s : Int32) : Int32 := sn_lod f i n * s / 100
def sn_mar (f : Nat → Int32) (i n : Nat) (s : Int32) : Int32 := if sn_she f i n s = 0 then 9999 else 100 * sn_str f i / sn_she f i n s
/-- what holds of the state between calls: n layers -/
def sn_Ly (f : Nat → Int32) (k : Nat) : Prop := (0 ≤ (f (7 + 5 * k)).toInt ∧ (f (7 + 5 * k)).toInt ≤ 200) ∧ (0 ≤ (f (8 + 5 * k)).toInt ∧ (f (8 + 5 * k)).toInt ≤ 600) ∧ vp_in (f (9 + 5 * k)) 5 ∧ (0 ≤ (f (10 + 5 * k)).toInt ∧ (f (10 + 5 * k)).toInt ≤ 5) ∧ (f (11 + 5 * k) = 0 ∨ f (11 + 5 * k) = 1)
def sn_I (f : Nat → Int32) (n : Nat) : Prop := f 0 = nI n ∧ n ≤ 10 ∧ (1 ≤ (f 1).toInt ∧ (f 1).toInt ≤ 50) ∧ ∀ k, k < 10 → sn_Ly f k
theorem sn_add_toInt {x y : Int32} (h1 : -2147483648 ≤ x.toInt + y.toInt) (h2 : x.toInt + y.toInt < 2147483648) : (x + y).toInt = x.toInt + y.toInt := by
  rw [Int32.toInt_add]
  exact Int.bmod_eq_of_le (by omega) (by omega)
theorem sn_sub_toInt {x y : Int32} (h1 : -2147483648 ≤ x.toInt - y.toInt) (h2 : x.toInt - y.toInt < 2147483648) : (x - y).toInt = x.toInt - y.toInt := by
  rw [Int32.toInt_sub]
  exact Int.bmod_eq_of_le (by omega) (by omega)
theorem sn_mul_toInt {x y : Int32} (h1 : -2147483648 ≤ x.toInt * y.toInt) (h2 : x.toInt * y.toInt < 2147483648) : (x * y).toInt = x.toInt * y.toInt := by
  rw [Int32.toInt_mul]
  exact Int.bmod_eq_of_le (by omega) (by omega)
/-- the depth over some layers is small -/
theorem sn_dep_b {f : Nat → Int32} {n : Nat} (hI : sn_I f n) (i : Nat) : ∀ b, b ≤ 10 → 0 ≤ (sn_dep f i b).toInt ∧ (sn_dep f i b).toInt ≤ 200 * b
  | 0, _ => ⟨Int.le_refl 0, Int.le_refl 0⟩
  | b + 1, h => by
    have ih := sn_dep_b hI i b (by omega)
    have hL := (hI.2.2.2 b (by omega)).1
    by_cases hib : i ≤ b
    · rw [← sn_dep_s hib, sn_add_toInt (by omega) (by omega)]
      omega
    · rw [show sn_dep f i (b + 1) = 0 from if_neg hib]
      exact ⟨Int.le_refl 0, by show (0 : Int) ≤ _; omega⟩
theorem sn_dep_ne {f : Nat → Int32} {n : Nat} (hI : sn_I f n) (i b : Nat) (hb : b ≤ 10) : ¬ sn_dep f i b + 10 = 0 := by
  have h := sn_dep_b hI i b hb
  intro e
  have e1 := congrArg Int32.toInt e
  rw [sn_add_toInt (by show _ ≤ _ + (10 : Int); omega) (by show _ + (10 : Int) < _; omega)] at e1
  have e2 : (sn_dep f i b).toInt + 10 = 0 := e1
  omega
theorem sn_rng {x : Int32} {lo hi : Nat} (h : nI lo ≤ x ∧ x ≤ nI hi) (hh : lo < 2147483648 ∧ hi < 2147483648) : ∃ t, lo ≤ t ∧ t ≤ hi ∧ x = nI t := by
  have h1 := h.1
  have h2 := h.2
  rw [sn_le] at h1 h2
  rw [nI_toInt (by omega)] at h2
  rw [nI_toInt (by omega)] at h1
  refine ⟨x.toInt.toNat, by omega, by omega, ?_⟩
  rw [sn_eq, nI_toInt (by omega)]
  omega
