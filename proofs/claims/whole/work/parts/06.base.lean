/-! ===== own rows: contracts in two shapes (sn_Rd reads, sn_Up and sn_Uv change a part of the world), their starts, calls and ends ===== -/
/-- a truth value as the machine has it -/
def sn_b (P : Prop) [Decidable P] : Int32 := if P then 1 else 0
theorem sn_b_z {P : Prop} [Decidable P] : sn_b P = 0 ↔ ¬ P := by
  unfold sn_b
  by_cases h : P
  · rw [if_pos h]; exact ⟨fun e => absurd e (by decide), fun e => absurd h e⟩
  · rw [if_neg h]; exact ⟨fun _ => h, fun _ => rfl⟩
theorem sn_b_nz {P : Prop} [Decidable P] : ¬ sn_b P = 0 ↔ P := by
  rw [sn_b_z]; exact ⟨fun h => Decidable.of_not_not h, fun h n => n h⟩
theorem sn_b_t {P : Prop} [Decidable P] (h : P) : (1 : Int32) = sn_b P := (if_pos h).symm
theorem sn_b_f {P : Prop} [Decidable P] (h : ¬ P) : (0 : Int32) = sn_b P := (if_neg h).symm
theorem sn_b_01 (P : Prop) [Decidable P] : sn_b P = 0 ∨ sn_b P = 1 := by
  unfold sn_b
  by_cases h : P
  · rw [if_pos h]; exact Or.inr rfl
  · rw [if_neg h]; exact Or.inl rfl
theorem sn_nar {v : Int32} (h : v = 0 ∨ v = 1) : narrow .boolean (.int v) = .int v := by
  rcases h with rfl | rfl <;> rfl
theorem sn_narz {v : Int32} (h : v = 0 ∨ v = 1) : vp_nar .boolean v = v := by
  rcases h with rfl | rfl <;> rfl
/-- the links between nest mates that the class's methods use -/
def sn_N (U : State) : Prop := va_Nw (.methodLinkNest RX0 52 yX3_within RX3) U ∧ va_Nw (.methodLinkNest RX0 63 yX3_cut RX3) U ∧ va_Nw (.methodLinkNest RX1 9 yX3_within RX3) U
theorem sn_N.warm {s U : State} (hW : s.WarmedH U.vm) (h : sn_N s) : sn_N U := ⟨va_Nw.warmM hW h.1, va_Nw.warmM hW h.2.1, va_Nw.warmM hW h.2.2⟩
theorem sn_N.same {s U : State} (hv : s.vm = U.vm) (h : sn_N s) : sn_N U := ⟨va_Nw.same rfl hv h.1, va_Nw.same rfl hv h.2.1, va_Nw.same rfl hv h.2.2⟩
/-- the first firmness: the table that the class's constructor clones -/
def sn_ff : Nat → Int32
  | 0 => 8
  | 1 => 20
  | 2 => 6
  | 3 => 3
  | _ => 40
def sn_Tb (t : Nat) (A : Nat → Prop) (U : State) (H : Heap) : Prop := ∃ cell : Cell, H[t]? = some cell ∧ (∀ k, cell.vm ≠ .statics k) ∧ cell.vm ≠ .unknown ∧ U.vm.findClass "[I" = some cell.cls ∧ cell.slots = Array.ofFn (n := 5) (fun j => Value.int (sn_ff j.val)) ∧ ¬ A t
def sn_F (A : Nat → Prop) (U : State) (H : Heap) : Prop := (∃ t : Nat, va_Z "SnowSlabs" "FIRST_FIRM" "[I" (.ref t) A U H ∧ sn_Tb t A U H) ∧ va_AO "SnowSlabs$Cover" U ∧ va_Nw (.castable "[I" "java/lang/Cloneable") U ∧ va_Nw (.fieldLinkNest RX0 35 RX3 "FIRST_FIRM" "[I" RX3) U
theorem sn_F.pass {A B : Nat → Prop} {s U : State} {H : Heap} {locs : List Loc} (h : sn_F A s s.heap) (hS : va_S A s.heap H locs) (hAB : ∀ q, B q → A q) (hU : U.heap = H) (hW : s.WarmedH U.vm) : sn_F B U U.heap := by
  obtain ⟨⟨t, hZ, cell, h1, h2, h3, h4, h5, h6⟩, hO, hC, hL⟩ := h
  rw [hU]
  refine ⟨⟨t, ((hZ.kept (fun a ha hA => hS.2.1 a ha hA)).narrow hAB).moved hW.alike, cell, ?_, h2, h3, ?_, h5, fun z => h6 (hAB t z)⟩, va_AO.moved hW.alike hO, va_Nw.warmC hW hC, va_Nw.warmF hW hL⟩
  · rw [hS.2.1 t (Array.getElem?_eq_some_iff.mp h1).1 h6]; exact h1
  · rw [hW.alike.findClass]; exact h4
theorem sn_F.same {A : Nat → Prop} {s U : State} {H : Heap} (hv : s.vm = U.vm) (h : sn_F A s H) : sn_F A U H := by
  have ha : s.vm.Alike U.vm := hv ▸ Vm.Alike.refl s.vm
  obtain ⟨⟨t, hZ, cell, h1, h2, h3, h4, h5, h6⟩, hO, hC, hL⟩ := h
  exact ⟨⟨t, hZ.moved ha, cell, h1, h2, h3, by rw [← hv]; exact h4, h5, h6⟩, va_AO.moved ha hO, va_Nw.same rfl hv hC, va_Nw.same rfl hv hL⟩
/-- what holds of a state in which a method begins, with the cells w -/
def sn_B (D : va_G) (tys : List (ClassId × FieldType)) (w : va_W) (U : State) : Prop := va_P D vwCl w U.heap ∧ va_K D vwCl tys U ∧ sn_N U
abbrev sn_rm (d mc ms : Nat) : Room := { frames := d, cells := mc, slots := ms, locals := 30 * d }
theorem sn_blind {av : List Value} {D : va_G} {tys : List (ClassId × FieldType)} {w : va_W} : FrameBlind (va_Pc av (sn_B D tys w)) :=
  fun a U g mk q => ⟨q.1, q.2.1, va_K.moved (u := U) (U := U.calling g mk a) (Vm.Alike.refl U.vm) q.2.2.1, sn_N.same (s := U) (U := U.calling g mk a) rfl q.2.2.2⟩
theorem sn_pre {av : List Value} {D : va_G} {tys : List (ClassId × FieldType)} {w : va_W} {s : State} {H : Heap} (hP : va_P D vwCl w H) (hK : va_K D vwCl tys s) (hN : sn_N s) :
    ∀ U : State, U.heap = H → s.WarmedH U.vm → va_Pc av (sn_B D tys w) av.toArray U :=
  fun U hU hW => ⟨rfl, by rw [hU]; exact hP, va_K.moved hW.alike hK, hN.warm hW⟩
theorem sn_blindU {av : List Value} {D : va_G} {tys : List (ClassId × FieldType)} {w : va_W} {sz : Nat} : FrameBlind (va_Pc av (fun U => U.heap.size = sz ∧ sn_B D tys w U ∧ va_D (fun _ => True) w ∧ sn_F (va_A w sz) U U.heap)) :=
  fun a U g mk q => ⟨q.1, q.2.1, ⟨q.2.2.1.1, va_K.moved (u := U) (U := U.calling g mk a) (Vm.Alike.refl U.vm) q.2.2.1.2.1, sn_N.same (s := U) (U := U.calling g mk a) rfl q.2.2.1.2.2⟩, q.2.2.2.1, sn_F.same (s := U) (U := U.calling g mk a) rfl q.2.2.2.2⟩
theorem sn_preU {av : List Value} {D : va_G} {tys : List (ClassId × FieldType)} {w : va_W} {s : State} {H : Heap} {A : Nat → Prop} (hP : va_P D vwCl w H) (hK : va_K D vwCl tys s) (hN : sn_N s) (hD : va_D A w) {locs : List Loc} (hF0 : sn_F A s s.heap) (hS : va_S A s.heap H locs) (hFr : ∀ q, va_A w H.size q → A q) :
    ∀ U : State, U.heap = H → s.WarmedH U.vm → va_Pc av (fun U => U.heap.size = H.size ∧ sn_B D tys w U ∧ va_D (fun _ => True) w ∧ sn_F (va_A w H.size) U U.heap) av.toArray U :=
  fun U hU hW => ⟨rfl, by rw [hU], ⟨by rw [hU]; exact hP, va_K.moved hW.alike hK, hN.warm hW⟩, hD.weaken (fun _ _ _ _ => trivial), hF0.pass hS hFr hU hW⟩
/-- a method that changes nothing and answers r -/
abbrev sn_Rd (l : Launch) (y : MethodName) (wsy : List Cond) (d : Nat) (av : List Value) (D : va_G) (tys : List (ClassId × FieldType)) (w : va_W) (r : Int32) : Prop :=
  Met l y wsy (sn_rm d 0 0) (va_Pc av (sn_B D tys w)) (vp_Si (fun x => x = r)) 0 0 (fun _ => False)
/-- a method that turns the cells w into w' u and answers R u, for some u with Pr -/
abbrev sn_Up (l : Launch) (y : MethodName) (wsy : List Cond) (d mc ms : Nat) (av : List Value) (D : va_G) (tys : List (ClassId × FieldType)) (w : va_W) (sz : Nat) {S : Type} (Pr : S → Prop) (R : S → Int32) (w' : S → va_W) : Prop :=
  Met l y wsy (sn_rm d mc ms) (va_Pc av (fun U => U.heap.size = sz ∧ sn_B D tys w U ∧ va_D (fun _ => True) w ∧ sn_F (va_A w sz) U U.heap)) (va_Qi (fun r u => r = R u ∧ Pr u) (fun u t => va_P D vwCl (w' u) t.heap ∧ va_D (va_A w sz) (w' u)) (va_A w sz)) mc ms (va_A w sz)
abbrev sn_Uv (l : Launch) (y : MethodName) (wsy : List Cond) (d mc ms : Nat) (av : List Value) (D : va_G) (tys : List (ClassId × FieldType)) (w : va_W) (sz : Nat) {S : Type} (Pr : S → Prop) (w' : S → va_W) : Prop :=
  Met l y wsy (sn_rm d mc ms) (va_Pc av (fun U => U.heap.size = sz ∧ sn_B D tys w U ∧ va_D (fun _ => True) w ∧ sn_F (va_A w sz) U U.heap)) (va_Qv Pr (fun u t => va_P D vwCl (w' u) t.heap ∧ va_D (va_A w sz) (w' u)) (va_A w sz)) mc ms (va_A w sz)
/-- a read's proof: the walk of its body -/
theorem sn_rd {l : Launch} {y : MethodName} {wsy ws' : List Cond} {d : Nat} {av : List Value} {D : va_G} {tys : List (ClassId × FieldType)} {w : va_W} {r : Int32} {cc : ByteArray} {maxL : Nat} {ret : Option FieldType}
    (hy : plainName y.cls = true) (hw : wsy = Cond.code y cc maxL ret :: ws') (hav : (lg_sl av).length ≤ maxL)
    (body : ∀ (p : Program) (e : Env) (s : State) (m : MethodId) (below : List Frame) (meth : Method) (c : Code), p.tables.exec = Jvm.exec → c.code = cc → c.maxLocals = maxL → meth.sig.returnType = ret → meth.locks = false → (∀ w ∈ wsy, w.before av.toArray s = true) → s.vm.findClass y.cls = some m.cls → va_P D vwCl w s.heap → va_K D vwCl tys s → sn_N s → ∀ ls : Array Slot, lv_has ls maxL (lv_args 0 av) →
      W p l e (sn_rm d 0 0) s m av.toArray below meth c s.heap [] 0 0 (MQ below (vp_Si (fun x => x = r)) av.toArray s 0 0 (fun _ => False)) (F0 m 0 ls [])) : sn_Rd l y wsy d av D tys w r := by
  refine Met.ofW (cc := cc) (maxL := maxL) (ret := ret) hy hw ?_
  intro p e s m args below meth c s₁ B hml hv
  obtain ⟨rfl, hP, hK, hN⟩ := hv
  rw [lg_entry_eq]
  exact body p e s m below meth c B.exec B.bytes hml B.returns B.notSynchronized (atoms_spec (ws := wsy) B.pre) (findClass_of_methodNamed B.named) hP hK hN _ (lv_entry av hav)
theorem sn_up {l : Launch} {y : MethodName} {wsy ws' : List Cond} {d mc ms : Nat} {av : List Value} {D : va_G} {tys : List (ClassId × FieldType)} {w : va_W} {sz : Nat} {S : Type} {Pr : S → Prop} {R : S → Int32} {w' : S → va_W} {cc : ByteArray} {maxL : Nat} {ret : Option FieldType}
    (hy : plainName y.cls = true) (hw : wsy = Cond.code y cc maxL ret :: ws') (hav : (lg_sl av).length ≤ maxL)
    (body : ∀ (p : Program) (e : Env) (s : State) (m : MethodId) (below : List Frame) (meth : Method) (c : Code) (A : Nat → Prop), p.tables.exec = Jvm.exec → c.code = cc → c.maxLocals = maxL → meth.sig.returnType = ret → meth.locks = false → (∀ w ∈ wsy, w.before av.toArray s = true) → s.vm.findClass y.cls = some m.cls → (∀ q, s.heap.size ≤ q → A q) → sn_F A s s.heap → va_K D vwCl tys s → sn_N s → ∀ (H : Heap) (locs : List Loc), va_P D vwCl w H → va_D A w → va_S A s.heap H locs → ∀ ls : Array Slot, lv_has ls maxL (lv_args 0 av) →
      W p l e (sn_rm d mc ms) s m av.toArray below meth c H locs 0 0 (MQ below (va_Qi (fun r u => r = R u ∧ Pr u) (fun u t => va_P D vwCl (w' u) t.heap ∧ va_D A (w' u)) A) av.toArray s mc ms A) (F0 m 0 ls [])) : sn_Up l y wsy d mc ms av D tys w sz Pr R w' := by
  refine Met.ofW (cc := cc) (maxL := maxL) (ret := ret) hy hw ?_
  intro p e s m args below meth c s₁ B hml hv
  obtain ⟨rfl, hsz, ⟨hP, hK, hN⟩, hD, hF0⟩ := hv
  subst hsz
  rw [lg_entry_eq]
  exact body p e s m below meth c (va_A w s.heap.size) B.exec B.bytes hml B.returns B.notSynchronized (atoms_spec (ws := wsy) B.pre) (findClass_of_methodNamed B.named) (fun q h => Or.inr h) hF0 hK hN s.heap [] hP hD.self va_S.rf _ (lv_entry av hav)
theorem sn_uv {l : Launch} {y : MethodName} {wsy ws' : List Cond} {d mc ms : Nat} {av : List Value} {D : va_G} {tys : List (ClassId × FieldType)} {w : va_W} {sz : Nat} {S : Type} {Pr : S → Prop} {w' : S → va_W} {cc : ByteArray} {maxL : Nat} {ret : Option FieldType}
    (hy : plainName y.cls = true) (hw : wsy = Cond.code y cc maxL ret :: ws') (hav : (lg_sl av).length ≤ maxL)
    (body : ∀ (p : Program) (e : Env) (s : State) (m : MethodId) (below : List Frame) (meth : Method) (c : Code) (A : Nat → Prop), p.tables.exec = Jvm.exec → c.code = cc → c.maxLocals = maxL → meth.sig.returnType = ret → meth.locks = false → meth.name = y.name → (∀ w ∈ wsy, w.before av.toArray s = true) → s.vm.findClass y.cls = some m.cls → (∀ q, s.heap.size ≤ q → A q) → sn_F A s s.heap → va_K D vwCl tys s → sn_N s → ∀ (H : Heap) (locs : List Loc), va_P D vwCl w H → va_D A w → va_S A s.heap H locs → ∀ ls : Array Slot, lv_has ls maxL (lv_args 0 av) →
      W p l e (sn_rm d mc ms) s m av.toArray below meth c H locs 0 0 (MQ below (va_Qv Pr (fun u t => va_P D vwCl (w' u) t.heap ∧ va_D A (w' u)) A) av.toArray s mc ms A) (F0 m 0 ls [])) : sn_Uv l y wsy d mc ms av D tys w sz Pr w' := by
  refine Met.ofW (cc := cc) (maxL := maxL) (ret := ret) hy hw ?_
  intro p e s m args below meth c s₁ B hml hv
  obtain ⟨rfl, hsz, ⟨hP, hK, hN⟩, hD, hF0⟩ := hv
  subst hsz
  rw [lg_entry_eq]
  exact body p e s m below meth c (va_A w s.heap.size) B.exec B.bytes hml B.returns B.notSynchronized (name_of_methodNamed B.named B.method).1 (atoms_spec (ws := wsy) B.pre) (findClass_of_methodNamed B.named) (fun q h => Or.inr h) hF0 hK hN s.heap [] hP hD.self va_S.rf _ (lv_entry av hav)
/-! ===== worlds in parts ===== -/
theorem sn_at {w : va_W} {u v : va_W} {i : Nat} {q : Nat × va_E} (h : v[i]? = some q) (e : w = u ++ v) : w[u.length + i]? = some q := by
  rw [e, List.getElem?_append_right (by omega), Nat.add_sub_cancel_left]; exact h
theorem sn_al {u v : va_W} {i : Nat} {q : Nat × va_E} (h : u[i]? = some q) : (u ++ v)[i]? = some q := by
  rw [List.getElem?_append_left (List.getElem?_eq_some_iff.mp h).1]; exact h
theorem sn_P_l {D : va_G} {cl : List vw_C} {u v : va_W} {H : Heap} (h : va_P D cl (u ++ v) H) : va_P D cl u H := fun k q hk => h k q (sn_al hk)
theorem sn_P_r {D : va_G} {cl : List vw_C} {u v : va_W} {H : Heap} (h : va_P D cl (u ++ v) H) : va_P D cl v H := fun k q hk => h (u.length + k) q (sn_at hk rfl)
theorem sn_D_l {A : Nat → Prop} {u v : va_W} (h : va_D A (u ++ v)) : va_D A u := ⟨fun i j p q hi hj e => h.1 i j p q (sn_al hi) (sn_al hj) e, fun k q hk => h.2 k q (sn_al hk)⟩
theorem sn_D_r {A : Nat → Prop} {u v : va_W} (h : va_D A (u ++ v)) : va_D A v := ⟨fun i j p q hi hj e => by
  have := h.1 (u.length + i) (u.length + j) p q (sn_at hi rfl) (sn_at hj rfl) e
  omega, fun k q hk => h.2 _ q (sn_at hk rfl)⟩
theorem sn_D_x {A : Nat → Prop} {u v : va_W} (h : va_D A (u ++ v)) : ∀ (i j : Nat) (p q : Nat × va_E), u[i]? = some p → v[j]? = some q → p.1 ≠ q.1 := fun i j p q hi hj e => by
  have h1 := h.1 i (u.length + j) p q (sn_al hi) (sn_at hj rfl) e
  have h2 := (List.getElem?_eq_some_iff.mp hi).1
  omega
/-- behind a call: the callee's part w of w0 ++ (w ++ wr) has become w1 -/
theorem sn_join {A0 : Nat → Prop} {D : va_G} {cl : List vw_C} {w0 wc wr w1 : va_W} {H H1 : Heap} (hP : va_P D cl (w0 ++ (wc ++ wr)) H) (hD : va_D A0 (w0 ++ (wc ++ wr)))
    (hk : ∀ q : Nat, q < H.size → ¬ va_A wc H.size q → H1[q]? = H[q]?) (hF : ∀ q, va_A wc H.size q → A0 q) (hP1 : va_P D cl w1 H1) (hD1 : va_D (va_A wc H.size) w1) : va_P D cl (w0 ++ (w1 ++ wr)) H1 ∧ va_D A0 (w0 ++ (w1 ++ wr)) := by
  have x0 := sn_D_x hD
  have x1 := sn_D_x (sn_D_r hD)
  have n0 : ∀ (k : Nat) (q : Nat × va_E), w0[k]? = some q → q.1 < H.size ∧ ¬ va_A wc H.size q.1 := fun k q hq => by
    have hl := (sn_P_l hP k q hq).lt
    refine ⟨hl, fun h => ?_⟩
    rcases h with ⟨k2, e, h⟩ | h
    · exact x0 k k2 q (q.1, e) hq (sn_al h) rfl
    · omega
  have nr : ∀ (k : Nat) (q : Nat × va_E), wr[k]? = some q → q.1 < H.size ∧ ¬ va_A wc H.size q.1 := fun k q hq => by
    have hl := (sn_P_r (sn_P_r hP) k q hq).lt
    refine ⟨hl, fun h => ?_⟩
    rcases h with ⟨k2, e, h⟩ | h
    · exact x1 k2 k (q.1, e) q h hq rfl
    · omega
  refine ⟨va_P.app (fun k q hq => (sn_P_l hP k q hq).kept (hk q.1 (n0 k q hq).1 (n0 k q hq).2)) (va_P.app hP1 (fun k q hq => (sn_P_r (sn_P_r hP) k q hq).kept (hk q.1 (nr k q hq).1 (nr k q hq).2))), ?_⟩
  refine va_D.app (sn_D_l hD) (va_D.app (hD1.weaken (fun k q _ h => hF q.1 h)) (sn_D_r (sn_D_r hD)) ?_) ?_
  · intro i j x y hx hy hxy
    exact (nr j y hy).2 (by rw [← hxy]; exact hD1.2 i x hx)
  · intro i j x y hx hy hxy
    by_cases hl : j < w1.length
    · rw [List.getElem?_append_left hl] at hy
      exact (n0 i x hx).2 (by rw [hxy]; exact hD1.2 j y hy)
    · rw [List.getElem?_append_right (by omega)] at hy
      have h3 : (wc ++ wr)[wc.length + (j - w1.length)]? = some y := sn_at hy rfl
      exact x0 i _ x y hx h3 hxy
/-! ===== cells that are alike where they are read ===== -/
def sn_eE : va_E → va_E → Prop
  | .inl (c1, n1, .inl f1), .inl (c2, n2, .inl f2) => c1 = c2 ∧ n1 = n2 ∧ ∀ k, k < n1 → f1 k = f2 k
  | e1, e2 => e1 = e2
def sn_eW : va_W → va_W → Prop
  | [], [] => True
  | q1 :: w1, q2 :: w2 => q1.1 = q2.1 ∧ sn_eE q1.2 q2.2 ∧ sn_eW w1 w2
  | _, _ => False
theorem sn_arr {cA : ClassId} {n : Nat} {f g : Nat → Int32} (h : ∀ k, k < n → f k = g k) : vp_cell cA (n, .inl f) = vp_cell cA (n, .inl g) := by
  rw [vp_cell_i, vp_cell_i]
  unfold arrV
  congr 1
  congr 1
  funext j
  exact congrArg Value.int (h j.val j.isLt)
theorem sn_eE.at {D : va_G} {cl : List vw_C} {a : Nat} {e1 e2 : va_E} {H : Heap} (h : sn_eE e1 e2) (hP : va_at D cl (a, e1) H) : va_at D cl (a, e2) H := by
  unfold sn_eE at h
  split at h
  · obtain ⟨rfl, rfl, h⟩ := h
    show H[a]? = some (vp_cell _ _)
    rw [← sn_arr h]
    exact hP
  · subst h; exact hP
theorem sn_eW.len : ∀ {w1 w2 : va_W}, sn_eW w1 w2 → w1.length = w2.length
  | [], [], _ => rfl
  | _ :: _, _ :: _, h => congrArg (· + 1) (sn_eW.len h.2.2)
  | [], _ :: _, h => h.elim
  | _ :: _, [], h => h.elim
theorem sn_eW.get : ∀ {w1 w2 : va_W}, sn_eW w1 w2 → ∀ (k : Nat) (q : Nat × va_E), w2[k]? = some q → ∃ e, w1[k]? = some (q.1, e) ∧ sn_eE e q.2
  | [], [], _, k, q, h => by simp at h
  | q1 :: w1, q2 :: w2, hh, 0, q, h => by
    rw [List.getElem?_cons_zero] at h
    cases h
    exact ⟨q1.2, by rw [List.getElem?_cons_zero, ← hh.1], hh.2.1⟩
  | q1 :: w1, q2 :: w2, hh, k + 1, q, h => by
    rw [List.getElem?_cons_succ] at h
    obtain ⟨e, h1, h2⟩ := sn_eW.get hh.2.2 k q h
    exact ⟨e, by rw [List.getElem?_cons_succ]; exact h1, h2⟩
  | [], _ :: _, h, _, _, _ => h.elim
  | _ :: _, [], h, _, _, _ => h.elim
theorem sn_eW.P {D : va_G} {cl : List vw_C} {w1 w2 : va_W} {H : Heap} (h : sn_eW w1 w2) (hP : va_P D cl w1 H) : va_P D cl w2 H := fun k q hq => by
  obtain ⟨e, h1, h2⟩ := h.get k q hq
  exact h2.at (hP k _ h1)
theorem sn_eW.D {A : Nat → Prop} {w1 w2 : va_W} (h : sn_eW w1 w2) (hD : va_D A w1) : va_D A w2 := ⟨fun i j p q hi hj e => by
  obtain ⟨e1, h1, -⟩ := h.get i p hi
  obtain ⟨e2, h2, -⟩ := h.get j q hj
  exact hD.1 i j _ _ h1 h2 e, fun k q hk => by
  obtain ⟨e1, h1, -⟩ := h.get k q hk
  exact hD.2 k (q.1, e1) h1⟩
theorem sn_eQ : ∀ e : va_E, sn_eE e e
  | .inl (_, _, .inl _) => ⟨rfl, rfl, fun _ _ => rfl⟩
  | .inl (_, _, .inr _) => rfl
  | .inr _ => rfl
theorem sn_eI {cA : ClassId} {n : Nat} {f g : Nat → Int32} (h : ∀ k, k < n → f k = g k) : sn_eE (.inl (cA, n, .inl f)) (.inl (cA, n, .inl g)) := ⟨rfl, rfl, h⟩
theorem sn_eO {x y : Nat × List Value} (h : x = y) : sn_eE (.inr x) (.inr y) := congrArg Sum.inr h
theorem sn_eOb {x0 y0 x1 y1 : Int32} {ci : Nat} {r : List Value} (h0 : x0 = y0) (h1 : x1 = y1) : sn_eE (.inr (ci, .int x0 :: .int x1 :: r)) (.inr (ci, .int y0 :: .int y1 :: r)) := by rw [h0, h1]; exact sn_eQ _
theorem sn_eC {a : Nat} {e1 e2 : va_E} {w1 w2 : va_W} (h : sn_eE e1 e2) (t : sn_eW w1 w2) : sn_eW ((a, e1) :: w1) ((a, e2) :: w2) := ⟨rfl, h, t⟩
theorem sn_eN : sn_eW [] [] := trivial
theorem sn_eS : ∀ w : va_W, sn_eW w w
  | [] => trivial
  | q :: w => ⟨rfl, sn_eQ q.2, sn_eS w⟩
/-! ===== rows ===== -/
section SN
variable {p : Program} {l : Launch} {e : Env} {R : Room} {s : State} {m : MethodId} {args : Array Value} {below : List Frame} {meth : Method} {c : Code} {H : Heap} {locs : List Loc} {cells slots : Nat} {Q : State → Prop}
variable {cc : ByteArray} {pc : Nat} {ls : Array Slot} {rest st0 : List Value} {D : va_G} {tys : List (ClassId × FieldType)} {w w0 wr : va_W} {A : Nat → Prop}
/-- another name for the number on top -/
theorem sn_top {x y : Int32} (h : x = y) (k : W p l e R s m args below meth c H locs cells slots Q (F0 m pc ls (.int y :: rest))) : W p l e R s m args below meth c H locs cells slots Q (F0 m pc ls (.int x :: rest)) := h ▸ k
theorem sn_top2 {x y : Int32} {v : Value} (h : x = y) (k : W p l e R s m args below meth c H locs cells slots Q (F0 m pc ls (v :: .int y :: rest))) : W p l e R s m args below meth c H locs cells slots Q (F0 m pc ls (v :: .int x :: rest)) := h ▸ k
theorem sn_ret {v r : Int32} (hx : p.tables.exec = Jvm.exec) (hb : c.code = cc) (hr : meth.sig.returnType = some .int) (hlk : meth.locks = false) (hdg : decode cc pc = .ok (.ireturn, 1)) (h : v = r) :
    W p l e R s m args below meth c s.heap [] 0 0 (MQ below (vp_Si (fun x => x = r)) args s 0 0 (fun _ => False)) (F0 m pc ls [.int v]) :=
  W.iret (free := fun _ => False) hx hb hr (fun t ht _ => ⟨v, rfl, h, ht⟩) (fun q hq => by cases hq) hdg hlk
theorem sn_zret {v r : Int32} (hx : p.tables.exec = Jvm.exec) (hb : c.code = cc) (hr : meth.sig.returnType = some .boolean) (hlk : meth.locks = false) (hdg : decode cc pc = .ok (.ireturn, 1)) (h01 : v = 0 ∨ v = 1) (h : v = r) :
    W p l e R s m args below meth c s.heap [] 0 0 (MQ below (vp_Si (fun x => x = r)) args s 0 0 (fun _ => False)) (F0 m pc ls [.int v]) :=
  W.zret (free := fun _ => False) hx hb hr (sn_nar h01) (fun t ht _ => ⟨v, rfl, h, ht⟩) (fun q hq => by cases hq) hdg hlk
theorem sn_uret {S : Type} {Pr : S → Prop} {Rr : S → Int32} {w' : S → va_W} {mc ms : Nat} {v : Int32} (u : S) (hx : p.tables.exec = Jvm.exec) (hb : c.code = cc) (hr : meth.sig.returnType = some .int) (hlk : meth.locks = false) (hdg : decode cc pc = .ok (.ireturn, 1))
    (hP : va_P D vwCl (w' u) H) (hD : va_D A (w' u)) (hS : va_S A s.heap H locs) (h : v = Rr u) (hp : Pr u) (hc : cells ≤ mc) (hs : slots ≤ ms) :
    W p l e R s m args below meth c H locs cells slots (MQ below (va_Qi (fun r u => r = Rr u ∧ Pr u) (fun u t => va_P D vwCl (w' u) t.heap ∧ va_D A (w' u)) A) args s mc ms A) (F0 m pc ls [.int v]) :=
  W.widen hc hs (W.iret hx hb hr (fun t ht _ => ⟨⟨v, u, rfl, ⟨h, hp⟩, by rw [ht]; exact hP, hD⟩, hS.F ht⟩) hS.2.2 hdg hlk)
theorem sn_vret {S : Type} {Pr : S → Prop} {w' : S → va_W} {mc ms : Nat} (u : S) (hx : p.tables.exec = Jvm.exec) (hb : c.code = cc) (hr : meth.sig.returnType = none) (hlk : meth.locks = false) (hdg : decode cc pc = .ok (.return_, 1))
    (hP : va_P D vwCl (w' u) H) (hD : va_D A (w' u)) (hS : va_S A s.heap H locs) (hp : Pr u) (hc : cells ≤ mc) (hs : slots ≤ ms) :
    W p l e R s m args below meth c H locs cells slots (MQ below (va_Qv Pr (fun u t => va_P D vwCl (w' u) t.heap ∧ va_D A (w' u)) A) args s mc ms A) (F0 m pc ls []) :=
  W.widen hc hs (W.vret hx hb hr (fun t ht _ => ⟨⟨u, rfl, hp, by rw [ht]; exact hP, hD⟩, hS.F ht⟩) hS.2.2 hdg hlk)
variable {nL index maxL d : Nat} {Ts wsy ws' : List Cond} {own C : String} {y : MethodName} {bytes : ByteArray} {ret : Option FieldType} {r : Int32} {b ci : Nat} {As fs : List Value} {qc : u_T × Nat} {lv : List (Nat × Value)}
/-- a call of a read, on an object of the world -/
theorem sn_cV (n q0 : Nat) (S : CallFix p m c cc nL s args Ts own) (hl : lv_has ls nL lv) (hM : sn_Rd l y wsy d (.ref b :: As) D tys w r) (hG : GoodIn Ts (wsV own index C y wsy)) (hw : wsy = Cond.code y bytes maxL ret :: ws')
    (hd : y.cls = C ∧ y.cls ≠ "java/lang/invoke/MethodHandle" ∧ y.cls ≠ "java/lang/invoke/VarHandle" ∧ (parseMethodDescriptor y.desc).map (fun d => d.parameters.length) = some n) (hn : As.length = n)
    (hR : d + 1 ≤ R.frames ∧ 8 + (maxL + 11) + 30 * d ≤ R.locals) (hcs : cells ≤ R.cells ∧ slots ≤ R.slots) (hP : va_P D vwCl w H) (hK : va_K D vwCl tys s) (hN : sn_N s) (he : w[q0]? = some (b, .inr (ci, fs))) (hc : vwCl[ci]? = some (C, qc))
    (hst : st0 = As.reverse ++ .ref b :: rest) (hW : (rest.map fun v => v.category).sum ≤ 8) (hdg : decode cc pc = .ok (.invokevirtual index, 3))
    (kk : W p l e R s m args below meth c H locs cells slots Q (F0 m (pc + 3) ls (.int r :: rest))) : W p l e R s m args below meth c H locs cells slots Q (F0 m pc ls st0) := by
  subst hst
  refine vp_callSi (W.runV S hM (cwV n S.2.2.2.2 hG hw rfl rfl hd hR) ⟨sn_blind, va_recv hK hP hc he, sn_pre hP hK hN⟩ rfl hn hl.1 rfl (lv_room hW) hdg hcs) (fun r' hr' => ?_)
  subst hr'
  exact kk
/-- a call of a static read -/
theorem sn_cS (n : Nat) (S : CallFix p m c cc nL s args Ts own) (hl : lv_has ls nL lv) (hM : sn_Rd l y wsy d As D tys w r) (hG : GoodIn Ts (va_wsS own index y wsy)) (hw : wsy = Cond.code y bytes maxL ret :: ws')
    (hd : y.cls ≠ "java/lang/invoke/MethodHandle" ∧ y.cls ≠ "java/lang/invoke/VarHandle" ∧ (parseMethodDescriptor y.desc).map (fun d => d.parameters.length) = some n) (hn : As.length = n)
    (hR : d + 1 ≤ R.frames ∧ 8 + (maxL + 11) + 30 * d ≤ R.locals) (hcs : cells ≤ R.cells ∧ slots ≤ R.slots) (hP : va_P D vwCl w H) (hK : va_K D vwCl tys s) (hN : sn_N s)
    (hst : st0 = As.reverse ++ rest) (hW : (rest.map fun v => v.category).sum ≤ 8) (hdg : decode cc pc = .ok (.invokestatic index, 3))
    (kk : W p l e R s m args below meth c H locs cells slots Q (F0 m (pc + 3) ls (.int r :: rest))) : W p l e R s m args below meth c H locs cells slots Q (F0 m pc ls st0) := by
  subst hst
  refine vp_callSi (W.runS S hM (va_cwS n S.2.2.2.2 hG hw rfl rfl hd hR) ⟨sn_blind, sn_pre hP hK hN⟩ rfl hn hl.1 rfl (lv_room hW) hdg hcs) (fun r' hr' => ?_)
  subst hr'
  exact kk
/-- a call of a nest mate's private static read -/
theorem sn_cN {host : String} (n : Nat) (S : CallFix p m c cc nL s args Ts own) (hl : lv_has ls nL lv) (hM : sn_Rd l y wsy d As D tys w r) (hG : GoodIn Ts wsy) (hw : wsy = Cond.code y bytes maxL ret :: ws') (hlk : va_Nw (.methodLinkNest own index y host) s) (hini : (Cond.initialized y.cls).before args s = true) (hstat : (Cond.static y).before args s = true)
    (hd : y.cls ≠ "java/lang/invoke/MethodHandle" ∧ y.cls ≠ "java/lang/invoke/VarHandle" ∧ (parseMethodDescriptor y.desc).map (fun d => d.parameters.length) = some n) (hn : As.length = n)
    (hR : d + 1 ≤ R.frames ∧ 8 + (maxL + 11) + 30 * d ≤ R.locals) (hcs : cells ≤ R.cells ∧ slots ≤ R.slots) (hP : va_P D vwCl w H) (hK : va_K D vwCl tys s) (hN : sn_N s)
    (hst : st0 = As.reverse ++ rest) (hW : (rest.map fun v => v.category).sum ≤ 8) (hdg : decode cc pc = .ok (.invokestatic index, 3))
    (kk : W p l e R s m args below meth c H locs cells slots Q (F0 m (pc + 3) ls (.int r :: rest))) : W p l e R s m args below meth c H locs cells slots Q (F0 m pc ls st0) := by
  subst hst
  refine vp_callSi (va_Run.run (va_runSN S hM ⟨va_cnB n S.2.2.2.2 hG hw rfl rfl hlk hini hd hR, hstat, trivial⟩ ⟨sn_blind, sn_pre hP hK hN⟩ rfl hn hl.1 rfl (lv_room hW) hdg hcs)) (fun r' hr' => ?_)
  subst hr'
  exact kk
/-- a call of a method that changes the part w of the world w0 ++ (w ++ wr) -/
theorem sn_uV {S : Type} {Pr : S → Prop} {Rr : S → Int32} {w' : S → va_W} {mc ms : Nat} (n q0 : Nat) (S0 : CallFix p m c cc nL s args Ts own) (hl : lv_has ls nL lv) (hM : sn_Up l y wsy d mc ms (.ref b :: As) D tys w H.size Pr Rr w') (hG : GoodIn Ts (wsV own index C y wsy)) (hw : wsy = Cond.code y bytes maxL ret :: ws')
    (hd : y.cls = C ∧ y.cls ≠ "java/lang/invoke/MethodHandle" ∧ y.cls ≠ "java/lang/invoke/VarHandle" ∧ (parseMethodDescriptor y.desc).map (fun d => d.parameters.length) = some n) (hn : As.length = n)
    (hR : d + 1 ≤ R.frames ∧ 8 + (maxL + 11) + 30 * d ≤ R.locals) (hcs : cells + mc ≤ R.cells ∧ slots + ms ≤ R.slots) (hP : va_P D vwCl (w0 ++ (w ++ wr)) H) (hD : va_D A (w0 ++ (w ++ wr))) (hS : va_S A s.heap H locs) (hA : ∀ q, s.heap.size ≤ q → A q) (hF0 : sn_F A s s.heap) (hK : va_K D vwCl tys s) (hN : sn_N s) (he : w[q0]? = some (b, .inr (ci, fs))) (hc : vwCl[ci]? = some (C, qc))
    (hst : st0 = As.reverse ++ .ref b :: rest) (hW : (rest.map fun v => v.category).sum ≤ 8) (hdg : decode cc pc = .ok (.invokevirtual index, 3))
    (kk : ∀ (u : S) (H1 : Heap) (locs1 : List Loc), Pr u → va_P D vwCl (w0 ++ (w' u ++ wr)) H1 → va_D A (w0 ++ (w' u ++ wr)) → va_S A s.heap H1 locs1 → W p l e R s m args below meth c H1 locs1 (cells + mc) (slots + ms) Q (F0 m (pc + 3) ls (.int (Rr u) :: rest))) : W p l e R s m args below meth c H locs cells slots Q (F0 m pc ls st0) := by
  subst hst
  have hPc : va_P D vwCl w H := sn_P_l (sn_P_r hP)
  have hDc : va_D A w := sn_D_l (sn_D_r hD)
  have hF : ∀ q, va_A w H.size q → A q := fun q h => by
    rcases h with ⟨k, e, h⟩ | h
    · exact hDc.2 k _ h
    · exact hA q (Nat.le_trans hS.1 h)
  refine va_calli (va_runV S0 hM (cwV n S0.2.2.2.2 hG hw rfl rfl hd hR) ⟨sn_blindU, va_recv hK hPc hc he, sn_preU hPc hK hN hDc hF0 hS hF⟩ rfl hn hl.1 rfl (lv_room hW) hdg hcs) hS (fun q _ h => hF q h) hF (fun r u t H1 locs1 ht hvm hw hB hz hk hS1 => ?_)
  obtain ⟨rfl, hp⟩ := hw
  obtain ⟨hP1, hD1⟩ := hB
  rw [ht] at hP1
  obtain ⟨hP2, hD2⟩ := sn_join hP hD hk hF hP1 hD1
  exact kk u H1 locs1 hp hP2 hD2 hS1
theorem sn_vV {S : Type} {Pr : S → Prop} {w' : S → va_W} {mc ms : Nat} (n q0 : Nat) (S0 : CallFix p m c cc nL s args Ts own) (hl : lv_has ls nL lv) (hM : sn_Uv l y wsy d mc ms (.ref b :: As) D tys w H.size Pr w') (hG : GoodIn Ts (wsV own index C y wsy)) (hw : wsy = Cond.code y bytes maxL ret :: ws')
    (hd : y.cls = C ∧ y.cls ≠ "java/lang/invoke/MethodHandle" ∧ y.cls ≠ "java/lang/invoke/VarHandle" ∧ (parseMethodDescriptor y.desc).map (fun d => d.parameters.length) = some n) (hn : As.length = n)
    (hR : d + 1 ≤ R.frames ∧ 8 + (maxL + 11) + 30 * d ≤ R.locals) (hcs : cells + mc ≤ R.cells ∧ slots + ms ≤ R.slots) (hP : va_P D vwCl (w0 ++ (w ++ wr)) H) (hD : va_D A (w0 ++ (w ++ wr))) (hS : va_S A s.heap H locs) (hA : ∀ q, s.heap.size ≤ q → A q) (hF0 : sn_F A s s.heap) (hK : va_K D vwCl tys s) (hN : sn_N s) (he : w[q0]? = some (b, .inr (ci, fs))) (hc : vwCl[ci]? = some (C, qc))
    (hst : st0 = As.reverse ++ .ref b :: rest) (hW : (rest.map fun v => v.category).sum ≤ 8) (hdg : decode cc pc = .ok (.invokevirtual index, 3))
    (kk : ∀ (u : S) (H1 : Heap) (locs1 : List Loc), Pr u → va_P D vwCl (w0 ++ (w' u ++ wr)) H1 → va_D A (w0 ++ (w' u ++ wr)) → va_S A s.heap H1 locs1 → W p l e R s m args below meth c H1 locs1 (cells + mc) (slots + ms) Q (F0 m (pc + 3) ls rest)) : W p l e R s m args below meth c H locs cells slots Q (F0 m pc ls st0) := by
  subst hst
  have hPc : va_P D vwCl w H := sn_P_l (sn_P_r hP)
  have hDc : va_D A w := sn_D_l (sn_D_r hD)
  have hF : ∀ q, va_A w H.size q → A q := fun q h => by
    rcases h with ⟨k, e, h⟩ | h
    · exact hDc.2 k _ h
    · exact hA q (Nat.le_trans hS.1 h)
  refine va_callv (va_runV S0 hM (cwV n S0.2.2.2.2 hG hw rfl rfl hd hR) ⟨sn_blindU, va_recv hK hPc hc he, sn_preU hPc hK hN hDc hF0 hS hF⟩ rfl hn hl.1 rfl (lv_room hW) hdg hcs) hS (fun q _ h => hF q h) hF (fun u t H1 locs1 ht hvm hp hB hz hk hS1 => ?_)
  obtain ⟨hP1, hD1⟩ := hB
  rw [ht] at hP1
  obtain ⟨hP2, hD2⟩ := sn_join hP hD hk hF hP1 hD1
  exact kk u H1 locs1 hp hP2 hD2 hS1
theorem sn_vI {S : Type} {Pr : S → Prop} {w' : S → va_W} {mc ms : Nat} (n : Nat) (S0 : CallFix p m c cc nL s args Ts own) (hl : lv_has ls nL lv) (hM : sn_Uv l y wsy d mc ms (.ref b :: As) D tys w H.size Pr w') (hG : GoodIn Ts wsy) (hw : wsy = Cond.code y bytes maxL none :: ws') (hini : (Cond.initialized y.cls).before args s = true) (hlink : (Cond.methodLink own index y).before args s = true) (hinst : (Cond.instanceMethod y).before args s = true) (hnm : y.name = "<init>")
    (hd : y.cls ≠ "java/lang/invoke/MethodHandle" ∧ y.cls ≠ "java/lang/invoke/VarHandle" ∧ (parseMethodDescriptor y.desc).map (fun d => d.parameters.length) = some n) (hn : As.length = n)
    (hR : d + 1 ≤ R.frames ∧ 8 + (maxL + 11) + 30 * d ≤ R.locals) (hcs : cells + mc ≤ R.cells ∧ slots + ms ≤ R.slots) (hP : va_P D vwCl (w0 ++ (w ++ wr)) H) (hD : va_D A (w0 ++ (w ++ wr))) (hS : va_S A s.heap H locs) (hA : ∀ q, s.heap.size ≤ q → A q) (hF0 : sn_F A s s.heap) (hK : va_K D vwCl tys s) (hN : sn_N s)
    (hst : st0 = As.reverse ++ .ref b :: rest) (hW : (rest.map fun v => v.category).sum ≤ 8) (hdg : decode cc pc = .ok (.invokespecial index, 3))
    (kk : ∀ (u : S) (H1 : Heap) (locs1 : List Loc), Pr u → va_P D vwCl (w0 ++ (w' u ++ wr)) H1 → va_D A (w0 ++ (w' u ++ wr)) → va_S A s.heap H1 locs1 → W p l e R s m args below meth c H1 locs1 (cells + mc) (slots + ms) Q (F0 m (pc + 3) ls rest)) : W p l e R s m args below meth c H locs cells slots Q (F0 m pc ls st0) := by
  subst hst
  have hPc : va_P D vwCl w H := sn_P_l (sn_P_r hP)
  have hDc : va_D A w := sn_D_l (sn_D_r hD)
  have hF : ∀ q, va_A w H.size q → A q := fun q h => by
    rcases h with ⟨k, e, h⟩ | h
    · exact hDc.2 k _ h
    · exact hA q (Nat.le_trans hS.1 h)
  refine va_callv (va_runI S0 hM (cwI n S0.2.2.2.2 hG hw rfl rfl hini hlink hinst hnm hd hR) ⟨sn_blindU, sn_preU hPc hK hN hDc hF0 hS hF⟩ rfl hn hl.1 rfl (lv_room hW) hdg hcs) hS (fun q _ h => hF q h) hF (fun u t H1 locs1 ht hvm hp hB hz hk hS1 => ?_)
  obtain ⟨hP1, hD1⟩ := hB
  rw [ht] at hP1
  obtain ⟨hP2, hD2⟩ := sn_join hP hD hk hF hP1 hD1
  exact kk u H1 locs1 hp hP2 hD2 hS1
end SN
section SNC
variable {p : Program} {l : Launch} {e : Env} {R : Room} {s : State} {m : MethodId} {args : Array Value} {below : List Frame} {meth : Method} {c : Code} {H : Heap} {locs : List Loc} {cells slots : Nat} {Q : State → Prop}
variable {cc : ByteArray} {pc : Nat} {ls : Array Slot} {rest : List Value} {D : va_G} {tys : List (ClassId × FieldType)} {ws : va_W} {A : Nat → Prop}
/-- the first firmness is cloned: a new row of five numbers -/
theorem sn_clone (hx : p.tables.exec = Jvm.exec) (hb : c.code = cc) (hml : c.maxLocals = ls.size) {own : String} {index t : Nat} (hown : s.vm.findClass own = some m.cls)
    (hlink : (Cond.methodLink own index ⟨"[I", "clone", "()Ljava/lang/Object;"⟩).before args s = true) (hsame : (Cond.sameMethod "[I" "java/lang/Object" "clone" "()Ljava/lang/Object;").before args s = true)
    (hnat : (Cond.native ⟨"java/lang/Object", "clone", "()Ljava/lang/Object;"⟩).before args s = true) (hinst : (Cond.instanceMethod ⟨"java/lang/Object", "clone", "()Ljava/lang/Object;"⟩).before args s = true)
    (hsel : (Cond.selects "[I" ⟨"[I", "clone", "()Ljava/lang/Object;"⟩ ⟨"java/lang/Object", "clone", "()Ljava/lang/Object;"⟩).before args s = true) (hcl : va_Nw (.castable "[I" "java/lang/Cloneable") s)
    (hK : va_K D vwCl tys s) (hP : va_P D vwCl ws H) (hD : va_D A ws) (hS : va_S A s.heap H locs) (hA : ∀ q, s.heap.size ≤ q → A q) (hT0 : sn_Tb t A s s.heap) (t0 : Nat) {cI : ClassId} (ht : tys[t0]? = some (cI, .int))
    (hframes : 1 ≤ R.frames) (hlocals : (rest.map fun v => v.category).sum + 14 ≤ R.locals) (hcells : cells + 1 ≤ R.cells) (hslots : slots + 5 ≤ R.slots) (hdg : decode cc pc = .ok (.invokevirtual index, 3))
    (kk : ∀ (q : Nat) (H1 : Heap), va_P D vwCl (ws ++ [(q, .inl (cI, 5, .inl sn_ff))]) H1 → va_D A (ws ++ [(q, .inl (cI, 5, .inl sn_ff))]) → va_S A s.heap H1 locs →
      W p l e R s m args below meth c H1 locs (cells + 1) (slots + 5) Q (F0 m (pc + 3) ls (.ref q :: rest))) : W p l e R s m args below meth c H locs cells slots Q (F0 m pc ls (.ref t :: rest)) := by
  obtain ⟨cell, h1, h2, h3, h4, h5, h6⟩ := hT0
  obtain ⟨c0, tc, f1, f2, f3⟩ := Cond.castable_spec (va_Nw.use (A := args) rfl hcl)
  cases h4.symm.trans f1
  have hRA : s.vm.findClass "[I" = some cI := (hK.2 t0 _ ht).2
  have hcI : cell.cls = cI := Option.some.inj (h4.symm.trans hRA)
  have hsz : cell.slots.size = 5 := by rw [h5, Array.size_ofFn]
  have hH : H[t]? = some cell := by rw [hS.2.1 t (Array.getElem?_eq_some_iff.mp h1).1 h6]; exact h1
  have hnew : ({ cls := cell.cls, slots := cell.slots } : Cell) = vp_cell cI (5, .inl sn_ff) := by
    rw [h5, hcI]; rfl
  intro T hT X
  obtain ⟨-, kA, hkA, comp, hkind⟩ := State.isArrayOf_alike X.warmed.alike ((hK.2 t0 _ ht).1 0 (fun _ => .null))
  obtain ⟨-, kS, hkS, compS, hkindS⟩ := (hK.2 t0 _ ht).1 0 (fun _ => .null)
  have hkA' : T.vm.classes[cI]? = some kA := hkA
  have hkS' : s.vm.classes[cI]? = some kS := hkS
  obtain ⟨vm', X', st⟩ := X.cloneArray hx hown hlink hsame hnat hinst hsel (a := t) (cell := cell) (by rw [hT]; exact hH) h2 h3 h4 f2 f3
    (fun i v hv => by
      rw [hcI]
      have hv2 : ∃ z : Int32, v = .int z := by
        rw [h5] at hv
        obtain ⟨hi, he⟩ := Array.getElem?_eq_some_iff.mp hv
        rw [Array.getElem_ofFn] at he
        exact ⟨_, he.symm⟩
      obtain ⟨z, rfl⟩ := hv2
      simp [State.fitsSlot, State.slotType?, hkA', hkind, fits])
    (g := F0 m pc ls (.ref t :: rest)) rfl (by rw [hml]) rfl (by rw [hb]; exact hdg) hframes (by show 2 * 0 + _ + 14 ≤ _; omega) hcells (by rw [hsz]; exact hslots) (hloader := by rw [hcI]; exact Vm.clonesLoader_of_array hkS' hkindS)
  rw [hnew, hsz] at X'
  rw [hnew] at st
  generalize hH1 : H.push (vp_cell cI (5, .inl sn_ff)) = H1
  have z1 : H1.size = H.size + 1 := by rw [← hH1, Array.size_push]
  have e1 : H1[H.size]? = some (vp_cell cI (5, .inl sn_ff)) := by rw [← hH1, Array.getElem?_push_size]
  have o1 : ∀ q : Nat, q < H.size → H1[q]? = H[q]? := fun q hq => by rw [← hH1, Array.getElem?_push, if_neg (Nat.ne_of_lt hq)]
  obtain ⟨t2, b1, b2⟩ := kk H.size H1 (va_P.app (hP.kept (fun k y hy => o1 y.1 ((hP k y hy).lt))) (fun k y hy => by
      have hz : k < 1 := (List.getElem?_eq_some_iff.mp hy).1
      rw [show k = 0 by omega] at hy
      cases hy
      exact e1)) (hD.push hP rfl (hA _ hS.1)) ⟨Nat.le_trans hS.1 (by omega), fun y g1 g2 => (o1 y (Nat.lt_of_lt_of_le g1 hS.1)).trans (hS.2.1 y g1 g2), hS.2.2⟩
    ((T.setVm vm').pushCell (vp_cell cI (5, .inl sn_ff))) (by rw [← hH1, ← hT]; rfl) X'
  refine ⟨t2, st t2 ?_, b2⟩
  rw [hT]
  exact b1
theorem sn_ifnull {v : Option Nat} (hx : p.tables.exec = Jvm.exec) (hb : c.code = cc) {off : Int} {tgt : Nat} (hdg : decode cc pc = .ok (.ifnull off, 3)) (ht : (pc : Int) + off = (tgt : Int)) (kt : v = none → W p l e R s m args below meth c H locs cells slots Q (F0 m tgt ls rest)) (kf : ∀ r : Nat, v = some r → W p l e R s m args below meth c H locs cells slots Q (F0 m (pc + 3) ls rest)) : W p l e R s m args below meth c H locs cells slots Q (F0 m pc ls (va_rf v :: rest)) := by
  cases v with
  | none => exact lv_ifnullN hx hb hdg ht (kt rfl)
  | some r => exact lv_ifnull hx hb hdg (kf r rfl)
theorem sn_ifnonnull {v : Option Nat} (hx : p.tables.exec = Jvm.exec) (hb : c.code = cc) {off : Int} {tgt : Nat} (hdg : decode cc pc = .ok (.ifnonnull off, 3)) (ht : (pc : Int) + off = (tgt : Int)) (kt : ∀ r : Nat, v = some r → W p l e R s m args below meth c H locs cells slots Q (F0 m tgt ls rest)) (kf : v = none → W p l e R s m args below meth c H locs cells slots Q (F0 m (pc + 3) ls rest)) : W p l e R s m args below meth c H locs cells slots Q (F0 m pc ls (va_rf v :: rest)) := by
  cases v with
  | none => exact lv_ifnonnullN hx hb hdg (kf rfl)
  | some r => exact lv_ifnonnull hx hb hdg ht (kt r rfl)
end SNC
