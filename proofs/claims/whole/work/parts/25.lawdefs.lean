/-! ===== images in the whole: a restored state is a state ===== -/
theorem sn_I_cong {f f2 : Nat → Int32} {n : Nat} (h : ∀ j, j < 57 → f j = f2 j) (hI : sn_I f n) : sn_I f2 n := by
  refine ⟨by rw [← h 0 (by omega)]; exact hI.1, hI.2.1, by rw [← h 1 (by omega)]; exact hI.2.2.1, fun k hk => sn_Ly_c (h _ (by omega)).symm (h _ (by omega)).symm (h _ (by omega)).symm (h _ (by omega)).symm (h _ (by omega)).symm (hI.2.2.2 k hk)⟩
theorem sn_Gok {f g kp : Nat → Int32} {n : Nat} (hI : sn_I f n) (h0 : ¬ kp 0 = 0 → ∃ n0, sn_I (fun j => g (57 * 0 + j)) n0) (h1 : ¬ kp 1 = 0 → ∃ n1, sn_I (fun j => g (57 * 1 + j)) n1) (x : Int32) :
    (¬ sn_Kimg kp x 0 = 0 → ∃ n0, sn_I (fun j => sn_Gimg f g x (57 * 0 + j)) n0) ∧ (¬ sn_Kimg kp x 1 = 0 → ∃ n1, sn_I (fun j => sn_Gimg f g x (57 * 1 + j)) n1) := by
  by_cases h : 0 ≤ x ∧ x ≤ 1
  · have eG : sn_Gimg f g x = sn_img f g x.toNatClampNeg 57 := if_pos h
    have eK : sn_Kimg kp x = upd kp x.toNatClampNeg 1 := if_pos h
    rw [eG, eK]
    obtain ⟨k, hk1, hk2, rfl⟩ := sn_rng (lo := 0) (hi := 1) h (by decide)
    rw [nI_clamp (by omega)]
    rcases (show k = 0 ∨ k = 1 by omega) with hk | hk
    · subst hk
      refine ⟨fun _ => ⟨n, sn_I_cong (fun j hj => sn_img_in f g 0 hj) hI⟩, fun z => ?_⟩
      rw [pk_un (by decide)] at z
      obtain ⟨n1, hn1⟩ := h1 z
      exact ⟨n1, sn_I_cong (fun j hj => sn_img_out f g (k := 0) (k2 := 1) (by decide) hj) hn1⟩
    · subst hk
      refine ⟨fun z => ?_, fun _ => ⟨n, sn_I_cong (fun j hj => sn_img_in f g 1 hj) hI⟩⟩
      rw [pk_un (by decide)] at z
      obtain ⟨n0, hn0⟩ := h0 z
      exact ⟨n0, sn_I_cong (fun j hj => sn_img_out f g (k := 1) (k2 := 0) (by decide) hj) hn0⟩
  · rw [show sn_Gimg f g x = g from if_neg h, show sn_Kimg kp x = kp from if_neg h]
    exact ⟨h0, h1⟩
theorem sn_Ires {f g kp : Nat → Int32} {n : Nat} (hI : sn_I f n) (h0 : ¬ kp 0 = 0 → ∃ n0, sn_I (fun j => g (57 * 0 + j)) n0) (h1 : ¬ kp 1 = 0 → ∃ n1, sn_I (fun j => g (57 * 1 + j)) n1) (x : Int32) : ∃ n', sn_I (sn_Fres f g kp x) n' := by
  unfold sn_Fres
  split
  · rename_i h
    obtain ⟨k, hk1, hk2, rfl⟩ := sn_rng (lo := 0) (hi := 1) h (by decide)
    rw [nI_clamp (by omega)]
    split
    · exact ⟨n, hI⟩
    · rename_i hz
      rcases (show k = 0 ∨ k = 1 by omega) with hk | hk
      · subst hk; exact h0 hz
      · subst hk; exact h1 hz
  · exact ⟨n, hI⟩
theorem sn_og_n0 (b0 b1 : Option (Nat → Nat)) : sn_og b0 b1 0 = none ↔ b0 = none := by
  cases b0 <;> simp [sn_og]
theorem sn_og_n1 (b0 b1 : Option (Nat → Nat)) : sn_og b0 b1 1 = none ↔ b1 = none := by
  cases b1 <;> simp [sn_og]
/-! ===== image and restore, whichever images are kept ===== -/
theorem ct_X3_image (l : Launch) (D : va_G) (cI cZ cR : ClassId) (o : Nat) (a bt : Nat → Nat) (im : Nat) (f : Nat → Int32) (nb : Int32) (tp ly g kp : Nat → Int32) (b0 b1 : Option (Nat → Nat)) (n : Nat) (hI : sn_I f n) (hk0 : b0 = none ↔ kp 0 = 0) (hk1 : b1 = none ↔ kp 1 = 0) (x : Int32) (sz : Nat) : sn_Up l yX3_image wsX3_image 3 7 63 [.ref o, .int x] D (sn_ty cI cZ cR) (sn_wX cI cZ cR o a bt im f nb tp ly g b0 b1) sz (fun u_ : (Nat → Int32) × Option (Nat → Nat) × Option (Nat → Nat) => u_.1 = sn_Gimg f g x ∧ (u_.2.1 = none ↔ sn_Kimg kp x 0 = 0) ∧ (u_.2.2 = none ↔ sn_Kimg kp x 1 = 0)) (fun _ => sn_Rimg x) (fun u_ => sn_wX cI cZ cR o a bt im f nb tp ly u_.1 u_.2.1 u_.2.2) := by
  cases b0 with
  | none =>
    cases b1 with
    | none => exact ct_X3_image_nn l D cI cZ cR o a bt im f nb tp ly g kp n hI hk0 hk1 x sz
    | some c1 => exact ct_X3_image_ns l D cI cZ cR o a bt im f nb tp ly g kp c1 n hI hk0 hk1 x sz
  | some c0 =>
    cases b1 with
    | none => exact ct_X3_image_sn l D cI cZ cR o a bt im f nb tp ly g kp c0 n hI hk0 hk1 x sz
    | some c1 => exact ct_X3_image_ss l D cI cZ cR o a bt im f nb tp ly g kp c0 c1 n hI hk0 hk1 x sz
theorem ct_X3_restore (l : Launch) (D : va_G) (cI cZ cR : ClassId) (o : Nat) (a bt : Nat → Nat) (im : Nat) (f : Nat → Int32) (nb : Int32) (tp ly g kp : Nat → Int32) (b0 b1 : Option (Nat → Nat)) (n : Nat) (hI : sn_I f n) (hk0 : b0 = none ↔ kp 0 = 0) (hk1 : b1 = none ↔ kp 1 = 0) (hg0 : ¬ kp 0 = 0 → ∃ n0, sn_I (fun j => g (57 * 0 + j)) n0) (hg1 : ¬ kp 1 = 0 → ∃ n1, sn_I (fun j => g (57 * 1 + j)) n1) (x : Int32) (sz : Nat) : sn_Up l yX3_restore wsX3_restore 3 0 0 [.ref o, .int x] D (sn_ty cI cZ cR) (sn_wX cI cZ cR o a bt im f nb tp ly g b0 b1) sz (fun u_ : Nat → Int32 => u_ = sn_Fres f g kp x) (fun _ => sn_Rres kp x) (fun u_ => sn_wX cI cZ cR o a bt im u_ nb tp ly g b0 b1) := by
  cases b0 with
  | none =>
    cases b1 with
    | none => exact ct_X3_restore_nn l D cI cZ cR o a bt im f nb tp ly g kp n hI hk0 hk1 x sz
    | some c1 =>
      obtain ⟨n1, hI1⟩ := hg1 (fun z => by cases hk1.mpr z)
      exact ct_X3_restore_ns l D cI cZ cR o a bt im f nb tp ly g kp c1 n hI hk0 hk1 n1 hI1 x sz
  | some c0 =>
    obtain ⟨n0, hI0⟩ := hg0 (fun z => by cases hk0.mpr z)
    cases b1 with
    | none => exact ct_X3_restore_sn l D cI cZ cR o a bt im f nb tp ly g kp c0 n hI hk0 hk1 n0 hI0 x sz
    | some c1 =>
      obtain ⟨n1, hI1⟩ := hg1 (fun z => by cases hk1.mpr z)
      exact ct_X3_restore_ss l D cI cZ cR o a bt im f nb tp ly g kp c0 c1 n hI hk0 hk1 n0 hI0 n1 hI1 x sz
/-! THE CLAIM OUT OF ONE WALK OF THE LAW'S BODY. Your part is whole_start (and what it stands on); all else here is the same for every law, but numbers. -/
def R_law : String := "SnowSlabsLaw"
def lw_P (b : Addr) (xs : List Int32) (args : Array Value) (s : State) : Prop := args = #[.ref b] ∧ s.IntsAt b xs ∧ xs.length ≤ 2560 ∧ (Jvm.Cond.and given_1 narrow_1).before args s = true
def lw_Q (_ : Array Value) (s : State) (o : Outcome) (t : State) : Prop := o = .returned (some (.int 1)) ∧ Framed s o t [] 600000 7302250
def lw_Z (below : List Frame) (a : Array Value) (s : State) : State → Prop := fun t => ∃ o, t.status = .running ∧ Ended t below o ∧ lw_Q a s o t
/-- the law's own end, with 1 on the stack, nothing written that was there before, its room as the claim has it -/
theorem lw_ret {p : Program} {l : Launch} {e : Env} {s : State} {m : MethodId} {below : List Frame} {meth : Method} {c : Code} {b : Nat} (hx : p.tables.exec = Jvm.exec) (hb : c.code = code) (hr : meth.sig.returnType = ret) (hlocks : meth.locks = false) {pc : Nat} {H : Heap} {ls : Array Slot} (hdg : decode code pc = .ok (.ireturn, 1)) : W p l e room_1 s m #[Value.ref b] below meth c H [] 600000 7302250 (lw_Z below #[Value.ref b] s) (F0 m pc ls [.int 1]) := by
  intro T hT X
  obtain ⟨fs, hret, hrun, hended, hW, hframe⟩ := X.leave (v := some (.int 1)) (hlocks := hlocks) (fun h => by rw [hr] at h; cases h)
  have hmeth' : T.vm.method? m = some meth := X.method'
  refine ⟨T.setFrames fs, ?_, .returned (some (.int 1)), hrun, hended, rfl, ⟨_, rfl⟩, hW, hframe⟩
  jvm_step X.here [X.here.top, hx, hb, hdg, hmeth', hr, ret, narrow_b1]
  (try refine ⟨rfl, ?_⟩); (try refine ⟨rfl, ?_⟩)
  first | (intro acts; rw [hret _ acts rfl rfl rfl]) | rw [hret _ _ rfl rfl rfl]
  exact Steps.refl _
/-- what holds at the law's entry: the machine, the code, the tables' words (any of lw_tbl by 'hts w (by decide +kernel)'), the script of L ints xs at the cell b, what the Statement gives of the start (any of its parts by flat_of_before) -/
def lw_At (p : Program) (s : State) (m : MethodId) (meth : Method) (c : Code) (b L : Nat) (xs : Nat → Int32) : Prop :=
  p.tables.exec = Jvm.exec ∧ c.code = code ∧ meth.sig.returnType = ret ∧ c.maxLocals = 4 ∧ s.vm.findClass R_law = some m.cls ∧ (∀ w ∈ lw_tbl, w.before #[Value.ref b] s = true) ∧ va_X b L xs s s.heap ∧ b < s.heap.size ∧ meth.locks = false ∧ (Jvm.Cond.and given_1 narrow_1).before #[Value.ref b] s = true
/-! ===== the law's world between calls ===== -/
abbrev sn_ah (s : State) : Nat → Prop := fun q : Nat => s.heap.size ≤ q
def sn_Wd (D : va_G) (cI cZ cR : ClassId) (A : Nat → Prop) (o q : Nat) (H : Heap) : Prop :=
  ∃ (a bt am : Nat → Nat) (im : Nat) (f g kp tp ly tp2 ly2 : Nat → Int32) (nb nb2 : Int32) (b0 b1 : Option (Nat → Nat)) (n : Nat), am 0 = q ∧ sn_I f n ∧ (b0 = none ↔ kp 0 = 0) ∧ (b1 = none ↔ kp 1 = 0) ∧ (¬ kp 0 = 0 → ∃ n0, sn_I (fun j => g (57 * 0 + j)) n0) ∧ (¬ kp 1 = 0 → ∃ n1, sn_I (fun j => g (57 * 1 + j)) n1) ∧
    va_P D vwCl (sn_wX cI cZ cR o a bt im f nb tp ly g b0 b1 ++ sn_wM cI cZ am f g kp tp2 ly2 nb2) H ∧ va_D A (sn_wX cI cZ cR o a bt im f nb tp ly g b0 b1 ++ sn_wM cI cZ am f g kp tp2 ly2 nb2)
theorem sn_Wd.mk {D : va_G} {cI cZ cR : ClassId} {A : Nat → Prop} {o : Nat} {H : Heap} {a bt am : Nat → Nat} {im : Nat} {f g kp tp ly tp2 ly2 : Nat → Int32} {nb nb2 : Int32} {b0 b1 : Option (Nat → Nat)} (hI : ∃ n, sn_I f n) (hk0 : b0 = none ↔ kp 0 = 0) (hk1 : b1 = none ↔ kp 1 = 0) (hg0 : ¬ kp 0 = 0 → ∃ n0, sn_I (fun j => g (57 * 0 + j)) n0) (hg1 : ¬ kp 1 = 0 → ∃ n1, sn_I (fun j => g (57 * 1 + j)) n1)
    (hP : va_P D vwCl (sn_wX cI cZ cR o a bt im f nb tp ly g b0 b1 ++ sn_wM cI cZ am f g kp tp2 ly2 nb2) H) (hD : va_D A (sn_wX cI cZ cR o a bt im f nb tp ly g b0 b1 ++ sn_wM cI cZ am f g kp tp2 ly2 nb2)) : sn_Wd D cI cZ cR A o (am 0) H := by
  obtain ⟨n, hI⟩ := hI
  exact ⟨a, bt, am, im, f, g, kp, tp, ly, tp2, ly2, nb, nb2, b0, b1, n, rfl, hI, hk0, hk1, hg0, hg1, hP, hD⟩
/-- the law at its loop's head, k calls done -/
def sn_Hd (p : Program) (l : Launch) (e : Env) (s : State) (m : MethodId) (below : List Frame) (meth : Method) (c : Code) (b : Nat) (D : va_G) (cI cZ cR : ClassId) (k : Nat) : Prop :=
  ∀ (o q : Nat) (H : Heap) (locs : List Loc), sn_Wd D cI cZ cR (sn_ah s) o q H → va_S (sn_ah s) s.heap H locs → ∀ ls : Array Slot, lv_has ls 4 [(0, .ref b), (1, .ref o), (2, .ref q), (3, .int (nI (5 * k)))] → W p l e room_1 s m #[Value.ref b] below meth c H locs (18 + 7 * k) (330 + 63 * k) (lw_Z below #[Value.ref b] s) (F0 m 18 ls [])
/-- behind a call: the counter, and the head again -/
theorem sn_tail {p : Program} {l : Launch} {e : Env} {s : State} {m : MethodId} {below : List Frame} {meth : Method} {c : Code} {b : Nat} {D : va_G} {cI cZ cR : ClassId} {k o q : Nat} {H : Heap} {locs : List Loc} {ls : Array Slot} {cells slots : Nat} (hx : p.tables.exec = Jvm.exec) (hb : c.code = code) (ih : sn_Hd p l e s m below meth c b D cI cZ cR (k + 1)) (hW : sn_Wd D cI cZ cR (sn_ah s) o q H) (hS : va_S (sn_ah s) s.heap H locs) (hl : lv_has ls 4 [(0, .ref b), (1, .ref o), (2, .ref q), (3, .int (nI (5 * k)))]) (hc : cells ≤ 18 + 7 * (k + 1)) (hs : slots ≤ 330 + 63 * (k + 1)) :
    W p l e room_1 s m #[Value.ref b] below meth c H locs cells slots (lw_Z below #[Value.ref b] s) (F0 m 755 ls []) := by
  refine W.widen hc hs ?_
  refine lv_iinc (v := nI (5 * (k + 1))) (lv' := [(3, .int (nI (5 * (k + 1)))), (0, .ref b), (1, .ref o), (2, .ref q)]) hx hb dL_law_755 hl (k := 3) rfl (nI_add (5 * k) 5) (by decide) rfl (fun ls hl => ?_)
  refine lv_goto (tgt := 18) hx hb dL_law_758 (by decide) ?_
  exact ih o q H locs hW hS ls (lv_sub hl [1, 2, 3, 0] rfl)
