/-! ===== making: rows of numbers, objects' first states; the world of the whole class ===== -/
section SNW
variable {p : Program} {l : Launch} {e : Env} {R : Room} {s : State} {m : MethodId} {args : Array Value} {below : List Frame} {meth : Method} {c : Code} {H : Heap} {locs : List Loc} {cells slots : Nat} {Q : State → Prop}
variable {cc : ByteArray} {pc : Nat} {ls : Array Slot} {rest : List Value} {D : va_G} {tys : List (ClassId × FieldType)} {ws : va_W} {A : Nat → Prop}
theorem sn_newi {cI : ClassId} {n : Int32} {N : Nat} (t0 : Nat) (hx : p.tables.exec = Jvm.exec) (hb : c.code = cc) (harr : (Cond.arrayClass .int).before args s = true) (ht : tys[t0]? = some (cI, .int)) (hK : va_K D vwCl tys s) (hP : va_P D vwCl ws H) (hD : va_D A ws) (hS : va_S A s.heap H locs) (hA : ∀ q, s.heap.size ≤ q → A q) (hn : n = nI N) (hN : N < 1000) (hcells : cells + 1 ≤ R.cells) (hslots : slots + N ≤ R.slots) (hdg : decode cc pc = .ok (.newarray .int, 2))
    (kk : ∀ (q : Nat) (H1 : Heap), va_P D vwCl (ws ++ [(q, .inl (cI, N, .inl (fun _ => 0)))]) H1 → va_D A (ws ++ [(q, .inl (cI, N, .inl (fun _ => 0)))]) → va_S A s.heap H1 locs → W p l e R s m args below meth c H1 locs (cells + 1) (slots + N) Q (F0 m (pc + 2) ls (.ref q :: rest))) : W p l e R s m args below meth c H locs cells slots Q (F0 m pc ls (.int n :: rest)) := by
  subst hn
  refine va_newa (atype := .int) (ty := .int) (a0 := (N, .inl (fun _ => 0))) hx hb harr rfl hK hP hD hS hA (fun cA => rfl) (nI_pos (by omega)) (nI_clamp (by omega)) (by show N * 4 ≤ _; omega) hcells hslots hdg (fun q cA H1 hK1 hP1 hD1 hS1 => ?_)
  have h1 : s.vm.findClass ("[" ++ FieldType.int.toString) = some cA := (hK1.2 tys.length (cA, .int) (by rw [List.getElem?_append_right (Nat.le_refl _), Nat.sub_self]; rfl)).2
  have h2 : s.vm.findClass ("[" ++ FieldType.int.toString) = some cI := (hK.2 t0 _ ht).2
  have e : cA = cI := Option.some.inj (h1.symm.trans h2)
  subst e
  exact kk q H1 hP1 hD1 hS1
theorem sn_newz {cZ : ClassId} {n : Int32} {N : Nat} (t0 : Nat) (hx : p.tables.exec = Jvm.exec) (hb : c.code = cc) (harr : (Cond.arrayClass .boolean).before args s = true) (ht : tys[t0]? = some (cZ, .boolean)) (hK : va_K D vwCl tys s) (hP : va_P D vwCl ws H) (hD : va_D A ws) (hS : va_S A s.heap H locs) (hA : ∀ q, s.heap.size ≤ q → A q) (hn : n = nI N) (hN : N < 1000) (hcells : cells + 1 ≤ R.cells) (hslots : slots + N ≤ R.slots) (hdg : decode cc pc = .ok (.newarray .boolean, 2))
    (kk : ∀ (q : Nat) (H1 : Heap), va_P D vwCl (ws ++ [(q, .inl (cZ, N, .inl (fun _ => 0)))]) H1 → va_D A (ws ++ [(q, .inl (cZ, N, .inl (fun _ => 0)))]) → va_S A s.heap H1 locs → W p l e R s m args below meth c H1 locs (cells + 1) (slots + N) Q (F0 m (pc + 2) ls (.ref q :: rest))) : W p l e R s m args below meth c H locs cells slots Q (F0 m pc ls (.int n :: rest)) := by
  subst hn
  refine va_newa (atype := .boolean) (ty := .boolean) (a0 := (N, .inl (fun _ => 0))) hx hb harr rfl hK hP hD hS hA (fun cA => rfl) (nI_pos (by omega)) (nI_clamp (by omega)) (by show N * 1 ≤ _; omega) hcells hslots hdg (fun q cA H1 hK1 hP1 hD1 hS1 => ?_)
  have h1 : s.vm.findClass ("[" ++ FieldType.boolean.toString) = some cA := (hK1.2 tys.length (cA, .boolean) (by rw [List.getElem?_append_right (Nat.le_refl _), Nat.sub_self]; rfl)).2
  have h2 : s.vm.findClass ("[" ++ FieldType.boolean.toString) = some cZ := (hK.2 t0 _ ht).2
  have e : cA = cZ := Option.some.inj (h1.symm.trans h2)
  subst e
  exact kk q H1 hP1 hD1 hS1
theorem sn_newr {cR : ClassId} {n : Int32} {N : Nat} {own : String} {index : Nat} (t0 : Nat) (hx : p.tables.exec = Jvm.exec) (hb : c.code = cc) (hown : s.vm.findClass own = some m.cls) (hclink : (Cond.classLink own index "SnowSlabs$Cover").before args s = true) (hover : va_AO "SnowSlabs$Cover" s) (ht : tys[t0]? = some (cR, .object "SnowSlabs$Cover")) (hK : va_K D vwCl tys s) (hP : va_P D vwCl ws H) (hD : va_D A ws) (hS : va_S A s.heap H locs) (hA : ∀ q, s.heap.size ≤ q → A q) (hn : n = nI N) (hN : N < 1000) (hcells : cells + 1 ≤ R.cells) (hslots : slots + N ≤ R.slots) (hdg : decode cc pc = .ok (.anewarray index, 3))
    (kk : ∀ (q : Nat) (H1 : Heap), va_P D vwCl (ws ++ [(q, .inl (cR, N, .inr (.inr (.inr (.inr (fun _ => none))))))]) H1 → va_D A (ws ++ [(q, .inl (cR, N, .inr (.inr (.inr (.inr (fun _ => none))))))]) → va_S A s.heap H1 locs → W p l e R s m args below meth c H1 locs (cells + 1) (slots + N) Q (F0 m (pc + 3) ls (.ref q :: rest))) : W p l e R s m args below meth c H locs cells slots Q (F0 m pc ls (.int n :: rest)) := by
  subst hn
  refine va_newq hx hb hown hclink hover hK hP hD hS hA (nI_pos (by omega)) (nI_clamp (by omega)) (by omega) hcells hslots hdg (fun q cA H1 hK1 hP1 hD1 hS1 => ?_)
  obtain ⟨_, _, _, _, _, h1⟩ := (hK1.2 tys.length (cA, .object "SnowSlabs$Cover") (by rw [List.getElem?_append_right (Nat.le_refl _), Nat.sub_self]; rfl)).2
  obtain ⟨_, _, _, _, _, h2⟩ := (hK.2 t0 _ ht).2
  have e : cA = cR := Option.some.inj (h1.symm.trans h2)
  subst e
  exact kk q H1 hP1 hD1 hS1
end SNW
theorem sn_eP {cA : ClassId} {n : Nat} {f g : Nat → Option Nat} (h : f = g) : sn_eE (.inl (cA, n, .inr (.inr (.inr (.inr f))))) (.inl (cA, n, .inr (.inr (.inr (.inr g))))) := by rw [h]; exact sn_eQ _
theorem sn_fitz {v : Int32} (h : v = 0 ∨ v = 1) : fits .boolean (.int v) = true := by
  rcases h with rfl | rfl <;> rfl
/-- addresses -/
def sn_ad (a0 a1 a2 a3 a4 a5 a6 : Nat) : Nat → Nat
  | 0 => a0
  | 1 => a1
  | 2 => a2
  | 3 => a3
  | 4 => a4
  | 5 => a5
  | _ => a6
/-- a new object's state -/
def sn_f0 (k : Nat) : Int32 := if k = 1 then 10 else if k = 2 then 8 else if k = 3 then 20 else if k = 4 then 6 else if k = 5 then 3 else if k = 6 then 40 else 0
theorem sn_f0_big {k : Nat} (h : 7 ≤ k) : (0 : Int32) = sn_f0 k := by
  unfold sn_f0
  rw [if_neg (by omega), if_neg (by omega), if_neg (by omega), if_neg (by omega), if_neg (by omega), if_neg (by omega)]
theorem sn_f0_ff : ∀ k, k < 5 → sn_ff k = sn_f0 (2 + k) := by decide
theorem sn_I_0 : sn_I sn_f0 0 := by
  refine ⟨rfl, by omega, ⟨by decide, by decide⟩, fun k hk => ?_⟩
  unfold sn_Ly
  rw [← sn_f0_big (k := 7 + 5 * k) (by omega), ← sn_f0_big (k := 8 + 5 * k) (by omega), ← sn_f0_big (k := 9 + 5 * k) (by omega), ← sn_f0_big (k := 10 + 5 * k) (by omega), ← sn_f0_big (k := 11 + 5 * k) (by omega)]
  exact ⟨⟨by decide, by decide⟩, ⟨by decide, by decide⟩, vp_in_nI (n := 0) (by omega) (by decide), ⟨by decide, by decide⟩, Or.inl rfl⟩
/-- which images are kept, and where -/
def sn_og (b0 b1 : Option (Nat → Nat)) : Nat → Option Nat := fun k => if k = 0 then b0.map (fun a => a 0) else if k = 1 then b1.map (fun a => a 0) else none
theorem sn_og_nn : (fun _ => none) = sn_og none none := by
  funext k
  unfold sn_og
  split
  · rfl
  · split <;> rfl
theorem sn_og_0 (b0 b1 : Option (Nat → Nat)) (a : Nat → Nat) : va_up (sn_og b0 b1) 0 (some (a 0)) = sn_og (some a) b1 := by
  funext k
  unfold va_up sn_og
  by_cases h : k = 0
  · rw [if_pos h, if_pos h]; rfl
  · rw [if_neg h, if_neg h, if_neg h]
theorem sn_og_1 (b0 b1 : Option (Nat → Nat)) (a : Nat → Nat) : va_up (sn_og b0 b1) 1 (some (a 0)) = sn_og b0 (some a) := by
  funext k
  unfold va_up sn_og
  by_cases h : k = 1
  · rw [if_pos h, if_neg (by omega), if_pos h]; rfl
  · rw [if_neg h, if_neg h, if_neg h]
abbrev sn_wI (cI cZ : ClassId) (g : Nat → Int32) (k : Nat) (b : Option (Nat → Nat)) : va_W := match b with
  | none => []
  | some a => sn_wC cI cZ a (fun j => g (57 * k + j))
/-- all that the class's object holds -/
abbrev sn_wX (cI cZ cR : ClassId) (o : Nat) (a bt : Nat → Nat) (im : Nat) (f : Nat → Int32) (nb : Int32) (tp ly g : Nat → Int32) (b0 b1 : Option (Nat → Nat)) : va_W :=
  sn_wS cI cZ o a bt im f ++ (sn_wT cI bt nb tp ly ++ ((im, .inl (cR, 2, .inr (.inr (.inr (.inr (sn_og b0 b1)))))) :: (sn_wI cI cZ g 0 b0 ++ sn_wI cI cZ g 1 b1)))
theorem sn_img_in (f g : Nat → Int32) (k : Nat) {j : Nat} (h : j < 57) : f j = sn_img f g k 57 (57 * k + j) := by
  unfold sn_img
  rw [if_pos (by omega)]
  congr 1
  omega
theorem sn_img_out (f g : Nat → Int32) {k k2 : Nat} (hk : k ≠ k2) {j : Nat} (h : j < 57) : g (57 * k2 + j) = sn_img f g k 57 (57 * k2 + j) := by
  unfold sn_img
  rw [if_neg (by omega)]
