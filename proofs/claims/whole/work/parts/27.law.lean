/-! ===== the law's loop ===== -/
theorem sn_len {L k : Nat} (hL : L ≤ 2560) (hk : 5 * k ≤ L) (c : ¬ nI L - 5 < nI (5 * k)) : 5 * k + 5 ≤ L := by
  rw [sn_lt, sn_sub_toInt (by rw [nI_toInt (by omega)]; show _ ≤ (L : Int) - 5; omega) (by rw [nI_toInt (by omega)]; show (L : Int) - 5 < _; omega), nI_toInt (by omega), nI_toInt (by omega)] at c
  have c1 : ¬ ((L : Int) - 5 < ((5 * k : Nat) : Int)) := c
  omega
set_option maxRecDepth 100000 in
set_option maxHeartbeats 4000000 in
theorem sn_loop {p : Program} {l : Launch} {e : Env} {s : State} {m : MethodId} {below : List Frame} {meth : Method} {c : Code} {b L : Nat} {xs : Nat → Int32} {D : va_G} {cI cZ cR : ClassId} (hL : L ≤ 2560) (C0 : lw_At p s m meth c b L xs) (hK : va_K D vwCl (sn_ty cI cZ cR) s) (hN : sn_N s) (hF0 : sn_F (sn_ah s) s s.heap) : ∀ fu k, 5 * k ≤ L → 513 - k < fu → sn_Hd p l e s m below meth c b D cI cZ cR k := by
  intro fu
  induction fu with
  | zero => exact fun k hk h => absurd h (Nat.not_lt_zero _)
  | succ fu ih =>
    intro k hk hfu o q H locs hW hS ls hl
    obtain ⟨hx, hb, hr, hml, hown, hts0, hX, hbl, hlocks, hgv⟩ := id C0
    have hbA : ¬ sn_ah s b := Nat.not_le.mpr hbl
    refine lv_iload_n hx hb dL_law_18 rfl (lv_at hl 3 rfl) ?_
    refine lv_aload_n hx hb dL_law_19 rfl (lv_at hl 0 rfl) ?_
    refine va_slen hx hb hX hbl hbA hS dL_law_20 ?_
    refine sn_top (y := nI L) rfl ?_
    refine lv_iconst (v := 5) hx hb dL_law_21 (by decide) ?_
    refine lv_isub hx hb dL_law_22 ?_
    refine lv_icmp_gt (tgt := 761) hx hb dL_law_23 (by decide) (fun c_ => ?_) (fun c_ => ?_)
    · refine lv_iconst (v := 1) hx hb dL_law_761 (by decide) ?_
      refine va_forget (fun q hq => hS.2.2 q hq) ?_
      refine W.widen (k := 600000) (n := 7302250) (by omega) (by omega) ?_
      exact lw_ret hx hb hr hlocks dL_law_762
    · have h5 : 5 * k + 5 ≤ L := sn_len hL hk c_
      refine lv_aload_n hx hb dL_law_26 rfl (lv_at hl 0 rfl) ?_
      refine lv_iload_n hx hb dL_law_27 rfl (lv_at hl 3 rfl) ?_
      refine va_sld hx hb hX hbl hbA hS (vp_in_nI (by omega) (by omega)) dL_law_28 ?_
      refine lv_bipush (v := 31) hx hb dL_law_29 (by decide) ?_
      refine lv_iand hx hb dL_law_31 ?_
      obtain ⟨j, hj, ej⟩ := pk_andE (xs (nI (5 * k)).toNatClampNeg) (m := 31) 5 rfl
      refine sn_top (y := nI j) ej ?_
      have ih1 := ih (k + 1) (by omega) (by omega)
      by_cases j0 : j = 0
      · subst j0
        refine lv_tableIn (off := 100) (tgt := 132) hx hb dL_law_32 (by decide) (by decide) (by decide +kernel) (by decide) ?_
        exact lc_storm hL C0 hK hN hF0 h5 ih1 hW hS hl
      by_cases j1 : j = 1
      · subst j1
        refine lv_tableIn (off := 153) (tgt := 185) hx hb dL_law_32 (by decide) (by decide) (by decide +kernel) (by decide) ?_
        exact lc_firm hL C0 hK hN hF0 h5 ih1 hW hS hl
      by_cases j2 : j = 2
      · subst j2
        refine lv_tableIn (off := 186) (tgt := 218) hx hb dL_law_32 (by decide) (by decide) (by decide +kernel) (by decide) ?_
        exact lc_layer hL C0 hK hN hF0 h5 ih1 hW hS hl
      by_cases j3 : j = 3
      · subst j3
        refine lv_tableIn (off := 219) (tgt := 251) hx hb dL_law_32 (by decide) (by decide) (by decide +kernel) (by decide) ?_
        exact lc_slope hL C0 hK hN hF0 h5 ih1 hW hS hl
      by_cases j4 : j = 4
      · subst j4
        refine lv_tableIn (off := 262) (tgt := 294) hx hb dL_law_32 (by decide) (by decide) (by decide +kernel) (by decide) ?_
        exact lc_weakest hL C0 hK hN hF0 h5 ih1 hW hS hl
      by_cases j5 : j = 5
      · subst j5
        refine lv_tableIn (off := 295) (tgt := 327) hx hb dL_law_32 (by decide) (by decide) (by decide +kernel) (by decide) ?_
        exact lc_blow hL C0 hK hN hF0 h5 ih1 hW hS hl
      by_cases j6 : j = 6
      · subst j6
        refine lv_tableIn (off := 318) (tgt := 350) hx hb dL_law_32 (by decide) (by decide) (by decide +kernel) (by decide) ?_
        exact lc_taps hL C0 hK hN hF0 h5 ih1 hW hS hl
      by_cases j7 : j = 7
      · subst j7
        refine lv_tableIn (off := 351) (tgt := 383) hx hb dL_law_32 (by decide) (by decide) (by decide +kernel) (by decide) ?_
        exact lc_need hL C0 hK hN hF0 h5 ih1 hW hS hl
      by_cases j8 : j = 8
      · subst j8
        refine lv_tableIn (off := 374) (tgt := 406) hx hb dL_law_32 (by decide) (by decide) (by decide +kernel) (by decide) ?_
        exact lc_goes hL C0 hK hN hF0 h5 ih1 hW hS hl
      by_cases j9 : j = 9
      · subst j9
        refine lv_tableIn (off := 417) (tgt := 449) hx hb dL_law_32 (by decide) (by decide) (by decide +kernel) (by decide) ?_
        exact lc_steep hL C0 hK hN hF0 h5 ih1 hW hS hl
      by_cases j10 : j = 10
      · subst j10
        refine lv_tableIn (off := 450) (tgt := 482) hx hb dL_law_32 (by decide) (by decide) (by decide +kernel) (by decide) ?_
        exact lc_pack hL C0 hK hN hF0 h5 ih1 hW hS hl
      by_cases j11 : j = 11
      · subst j11
        refine lv_tableIn (off := 473) (tgt := 505) hx hb dL_law_32 (by decide) (by decide) (by decide +kernel) (by decide) ?_
        exact lc_settle hL C0 hK hN hF0 h5 ih1 hW hS hl
      by_cases j12 : j = 12
      · subst j12
        refine lv_tableIn (off := 496) (tgt := 528) hx hb dL_law_32 (by decide) (by decide) (by decide +kernel) (by decide) ?_
        exact lc_melt hL C0 hK hN hF0 h5 ih1 hW hS hl
      by_cases j13 : j = 13
      · subst j13
        refine lv_tableIn (off := 519) (tgt := 551) hx hb dL_law_32 (by decide) (by decide) (by decide +kernel) (by decide) ?_
        exact lc_freeze hL C0 hK hN hF0 h5 ih1 hW hS hl
      by_cases j14 : j = 14
      · subst j14
        refine lv_tableIn (off := 532) (tgt := 564) hx hb dL_law_32 (by decide) (by decide) (by decide +kernel) (by decide) ?_
        exact lc_slide hL C0 hK hN hF0 h5 ih1 hW hS hl
      by_cases j15 : j = 15
      · subst j15
        refine lv_tableIn (off := 545) (tgt := 577) hx hb dL_law_32 (by decide) (by decide) (by decide +kernel) (by decide) ?_
        exact lc_heat hL C0 hK hN hF0 h5 ih1 hW hS hl
      by_cases j16 : j = 16
      · subst j16
        refine lv_tableIn (off := 588) (tgt := 620) hx hb dL_law_32 (by decide) (by decide) (by decide +kernel) (by decide) ?_
        exact lc_warm hL C0 hK hN hF0 h5 ih1 hW hS hl
      by_cases j17 : j = 17
      · subst j17
        refine lv_tableIn (off := 621) (tgt := 653) hx hb dL_law_32 (by decide) (by decide) (by decide +kernel) (by decide) ?_
        exact lc_order hL C0 hK hN hF0 h5 ih1 hW hS hl
      by_cases j18 : j = 18
      · subst j18
        refine lv_tableIn (off := 654) (tgt := 686) hx hb dL_law_32 (by decide) (by decide) (by decide +kernel) (by decide) ?_
        exact lc_image hL C0 hK hN hF0 h5 ih1 hW hS hl
      by_cases j19 : j = 19
      · subst j19
        refine lv_tableIn (off := 677) (tgt := 709) hx hb dL_law_32 (by decide) (by decide) (by decide +kernel) (by decide) ?_
        exact lc_restore hL C0 hK hN hF0 h5 ih1 hW hS hl
      by_cases j20 : j = 20
      · subst j20
        refine lv_tableIn (off := 700) (tgt := 732) hx hb dL_law_32 (by decide) (by decide) (by decide +kernel) (by decide) ?_
        exact lc_count hL C0 hK hN hF0 h5 ih1 hW hS hl
      refine lv_tableOut (tgt := 755) hx hb dL_law_32 (Or.inr (by rw [nI_toInt (by omega)]; omega)) (by decide) ?_
      exact sn_tail hx hb ih1 hW hS hl (by omega) (by omega)
/-! ===== the law's start ===== -/
theorem sn_elem {args : Array Value} {s : State} {tm : Term} {t : Nat} {cell : Cell} {j : Nat} {i v : Int32} (ht : tm.eval args s none [] s = some (.ref t)) (hat : s.arrayAt? t = some cell) (hi : i.toNatClampNeg = j) (h : (Cond.eq (.elem tm (.int i)) (.int v)).before args s = true) : cell.slots[j]? = some (.int v) := by
  obtain ⟨a, i2, cell2, h1, h2, h3, h4, h5⟩ := Term.elem_spec (va_eqt h)
  cases ht.symm.trans h1
  cases hat.symm.trans h3
  have e : (Term.int i).eval args s none [] s = some (.int i) := rfl
  cases h2.symm.trans e
  rw [hi] at h5
  exact h5
theorem sn_start_Tb {args : Array Value} {s : State} (hgv : (Jvm.Cond.and given_1 narrow_1).before args s = true) : ∃ t : Nat, (Term.static "SnowSlabs" "FIRST_FIRM" "[I").eval args s none [] s = some (.ref t) ∧ sn_Tb t (sn_ah s) s s.heap := by
  have hs := flat_of_before _ hgv
  have hlen := va_eqt (hs (.eq (.length (.static "SnowSlabs" "FIRST_FIRM" "[I")) (.int 5)) (by decide +kernel))
  obtain ⟨t, cell, ht, hat, hv⟩ := Term.length_spec hlen
  obtain ⟨hcell, hkn, hst, -⟩ := State.arrayAt?_spec hat
  have hsz : cell.slots.size < 2 ^ 31 := by
    simp only [Term.eval, hat, Option.bind_eq_bind] at hlen
    have ht2 := ht
    simp only [Term.eval, Option.bind_eq_bind] at ht2
    by_cases hlt : cell.slots.size < 2147483648
    · exact hlt
    · simp [ht2, hat, hlt] at hlen
  have hsz5 : cell.slots.size = 5 := by
    have h1 : nI 5 = nI cell.slots.size := Value.int.inj hv
    exact ((nI_eq (by decide) hsz).mp h1).symm
  obtain ⟨a, c, cell2, k, e1, e2, e3, e4, e5, e6, -⟩ := Cond.exactly_spec (hs (.exactly (.static "SnowSlabs" "FIRST_FIRM" "[I") "[I") (by decide +kernel))
  cases ht.symm.trans e1
  cases hcell.symm.trans e3
  have k0 := sn_elem (j := 0) ht hat rfl (hs (.eq (.elem (.static "SnowSlabs" "FIRST_FIRM" "[I") (.int 0)) (.int 8)) (by decide +kernel))
  have k1 := sn_elem (j := 1) ht hat rfl (hs (.eq (.elem (.static "SnowSlabs" "FIRST_FIRM" "[I") (.int 1)) (.int 20)) (by decide +kernel))
  have k2 := sn_elem (j := 2) ht hat rfl (hs (.eq (.elem (.static "SnowSlabs" "FIRST_FIRM" "[I") (.int 2)) (.int 6)) (by decide +kernel))
  have k3 := sn_elem (j := 3) ht hat rfl (hs (.eq (.elem (.static "SnowSlabs" "FIRST_FIRM" "[I") (.int 3)) (.int 3)) (by decide +kernel))
  have k4 := sn_elem (j := 4) ht hat rfl (hs (.eq (.elem (.static "SnowSlabs" "FIRST_FIRM" "[I") (.int 4)) (.int 40)) (by decide +kernel))
  refine ⟨t, ht, cell, hcell, (fun k hk => by rw [hk] at hst; cases hst), hkn, (by rw [e6]; exact e2), ?_, Nat.not_le.mpr (Array.getElem?_eq_some_iff.mp hcell).1⟩
  refine Array.ext (by rw [hsz5, Array.size_ofFn]) (fun i h1 h2 => ?_)
  rw [Array.getElem_ofFn]
  refine Option.some.inj ((Array.getElem?_eq_getElem h1).symm.trans ?_)
  rcases (show i = 0 ∨ i = 1 ∨ i = 2 ∨ i = 3 ∨ i = 4 by omega) with rfl | rfl | rfl | rfl | rfl
  · exact k0
  · exact k1
  · exact k2
  · exact k3
  · exact k4
theorem sn_start_F {args : Array Value} {s : State} (hts : ∀ w ∈ lw_tbl, w.before args s = true) (hgv : (Jvm.Cond.and given_1 narrow_1).before args s = true) : sn_F (sn_ah s) s s.heap := by
  obtain ⟨t, ht, hT⟩ := sn_start_Tb hgv
  exact ⟨⟨t, va_Zref (hts (.laysStatic "SnowSlabs" "FIRST_FIRM" "[I") (by decide +kernel)) (hts (.initialized "SnowSlabs") (by decide +kernel)) ht (fun a ha => Nat.not_le.mpr ha), hT⟩, va_AO.of (hts (.arrayOver (.object "SnowSlabs$Cover")) (by decide +kernel)), va_Nw.of rfl (hts (.castable "[I" "java/lang/Cloneable") (by decide +kernel)), va_Nw.of rfl (hts (.fieldLinkNest RX0 35 RX3 "FIRST_FIRM" "[I" RX3) (by decide +kernel))⟩
theorem sn_start_N {args : Array Value} {s : State} (hts : ∀ w ∈ lw_tbl, w.before args s = true) : sn_N s :=
  ⟨va_Nw.of rfl (hts (.methodLinkNest RX0 52 yX3_within RX3) (by decide +kernel)), va_Nw.of rfl (hts (.methodLinkNest RX0 63 yX3_cut RX3) (by decide +kernel)), va_Nw.of rfl (hts (.methodLinkNest RX1 9 yX3_within RX3) (by decide +kernel))⟩
theorem sn_start_K {args : Array Value} {s : State} (hts : ∀ w ∈ lw_tbl, w.before args s = true) : ∃ (D : va_G) (cI cZ cR : ClassId), va_K D vwCl (sn_ty cI cZ cR) s := by
  obtain ⟨c0, i0, k0⟩ := u_known (C := RX0) (T := TX0) (N := 8) (n := 8) hts inX0 (hts (.instantiable RX0 8) (by decide +kernel))
  obtain ⟨c1, i1, k1⟩ := u_known (C := RX2) (T := TX2) (N := 3) (n := 3) hts inX2 (hts (.instantiable RX2 3) (by decide +kernel))
  obtain ⟨c2, i2, k2⟩ := u_known (C := RX3) (T := TX3) (N := 3) (n := 3) hts inX3 (hts (.instantiable RX3 3) (by decide +kernel))
  obtain ⟨c3, i3, k3⟩ := u_known (C := RX4) (T := TX4) (N := 6) (n := 6) hts inX4 (hts (.instantiable RX4 6) (by decide +kernel))
  obtain ⟨cI, kI, compI, f1, f2, f3⟩ := Cond.arrayClass_spec (hts (.arrayClass .int) (by decide +kernel))
  obtain ⟨cZ, kZ, compZ, g1, g2, g3⟩ := Cond.arrayClass_spec (hts (.arrayClass .boolean) (by decide +kernel))
  obtain ⟨comp, cR, kR, r1, r2, r3, r4, r5⟩ := Cond.arrayOver_spec (hts (.arrayOver (.object "SnowSlabs$Cover")) (by decide +kernel))
  refine ⟨(fun k => if k = 0 then c0 else if k = 1 then c1 else if k = 2 then c2 else c3, fun k => if k = 0 then i0 else if k = 1 then i1 else if k = 2 then i2 else i3), cI, cZ, cR, ?_, ?_⟩
  · intro k q hq
    match k, hq with
    | 0, hq => cases hq; exact k0
    | 1, hq => cases hq; exact k1
    | 2, hq => cases hq; exact k2
    | 3, hq => cases hq; exact k3
    | k + 4, hq => simp [vwCl] at hq
  · intro k q hq
    match k, hq with
    | 0, hq => cases hq; exact ⟨fun n z => ⟨(fun k h => by cases h), kI, f2, compI, f3⟩, f1⟩
    | 1, hq => cases hq; exact ⟨fun n z => ⟨(fun k h => by cases h), kZ, g2, compZ, g3⟩, g1⟩
    | 2, hq => cases hq; exact ⟨fun n z => ⟨(fun k h => by cases h), kR, r3, comp, r4⟩, kR, comp, r3, r4, r1, r5⟩
    | k + 3, hq => simp [sn_ty] at hq
set_option maxRecDepth 100000 in
set_option maxHeartbeats 4000000 in
/-- from the entry, for every script of at most 2560 ints, the law comes to its end with true -/
theorem whole_start {p : Program} {e : Env} {s : State} {m : MethodId} {below : List Frame} {meth : Method} {c : Code} (l : Launch) (hflags : l.flags = flags0) {b L : Nat} {xs : Nat → Int32} (hL : L ≤ 2560) (C0 : lw_At p s m meth c b L xs) : W p l e room_1 s m #[Value.ref b] below meth c s.heap [] 0 0 (lw_Z below #[Value.ref b] s) (entryFrame m ([Value.ref b] : List Value).toArray 4) := by
  obtain ⟨hx, hb, hr, hml, hown, hts0, hX, hbl, hlocks, hgv⟩ := id C0
  have hts : ∀ w ∈ wsL_law, w.before #[Value.ref b] s = true := fun w h => hts0 w (wsL_law_in w h)
  have hA : ∀ q : Nat, s.heap.size ≤ q → sn_ah s q := fun _ h => h
  have hC : CallFix p m c code 4 s #[Value.ref b] wsL_law RL := ⟨hx, hb, hml, hown, hts⟩
  have hF0 := sn_start_F hts0 hgv
  have hN := sn_start_N hts0
  obtain ⟨D, cI, cZ, cR, hK⟩ := sn_start_K hts0
  have hS : va_S (sn_ah s) s.heap s.heap [] := va_S.rf
  have hP : va_P D vwCl [] s.heap := fun k q h => by simp at h
  have hD : va_D (sn_ah s) [] := ⟨fun i j p q h => by simp at h, fun k q h => by simp at h⟩
  have hl := lv_entry ([.ref b]) (n := 4) (Nat.le_of_ble_eq_true rfl)
  rw [lg_entry_eq]
  generalize (lg_sl ([.ref b]) ++ List.replicate (4 - (lg_sl ([.ref b])).length) Slot.unset).toArray = ls at hl ⊢
  have hl : lv_has ls 4 [(0, .ref b)] := hl
  refine va_new (ci := 2) (fs := [.null, .null, .null]) (C := RX3) (T := TX3) (N := 3) hx hb hts inlX3 tyX3 tyX3_ok hown (hts (.classLink RL 7 RX3) (by decide +kernel)) (hts (.instantiable RX3 3) (by decide +kernel)) (hts (.initialized RX3) (by decide +kernel)) hK hP hD hS hA rfl (fun j hj => by rcases (show j = 0 ∨ j = 1 ∨ j = 2 by omega) with rfl | rfl | rfl <;> rfl) (Nat.le_of_ble_eq_true rfl) (Nat.le_of_ble_eq_true rfl) dL_law_0 (fun o H hP hD hS => ?_)
  have hP : va_P D vwCl ([] ++ ([(o, .inr (2, [.null, .null, .null]))] ++ [])) H := hP
  have hD : va_D (sn_ah s) ([] ++ ([(o, .inr (2, [.null, .null, .null]))] ++ [])) := hD
  refine lv_dup hx hb dL_law_3 rfl ?_
  refine sn_vI (w0 := []) (w := [(o, .inr (2, [.null, .null, .null]))]) (wr := []) 0 hC hl (ct_X3_init l D cI cZ cR o (fun _ => 0) _) gL_law_X3_init rfl (hts (.initialized RX3) (by decide +kernel)) (hts (.methodLink RL 9 yX3_init) (by decide +kernel)) (hts (.instanceMethod yX3_init) (by decide +kernel)) rfl (by decide +kernel) rfl ⟨Nat.le_of_ble_eq_true rfl, Nat.le_of_ble_eq_true rfl⟩ ⟨Nat.le_of_ble_eq_true rfl, Nat.le_of_ble_eq_true rfl⟩ hP hD hS hA hF0 hK hN rfl (Nat.le_of_ble_eq_true rfl) dL_law_4 (fun u H locs _ hP hD hS => ?_)
  obtain ⟨a, bt, im⟩ := u
  have hP : va_P D vwCl (sn_wX cI cZ cR o a bt im sn_f0 0 (fun _ => 0) (fun _ => 0) (fun _ => 0) none none) H := by simpa only [List.nil_append, List.append_nil] using hP
  have hD : va_D (sn_ah s) (sn_wX cI cZ cR o a bt im sn_f0 0 (fun _ => 0) (fun _ => 0) (fun _ => 0) none none) := by simpa only [List.nil_append, List.append_nil] using hD
  refine lv_astore_n (lv' := [(1, .ref o), (0, .ref b)]) hx hb dL_law_7 rfl hl (by decide) rfl (fun ls hl => ?_)
  refine va_new (ci := 3) (fs := [.null, .null, .null, .null, .null, .int 0]) (C := RX4) (T := TX4) (N := 6) hx hb hts inlX4 tyX4 tyX4_ok hown (hts (.classLink RL 10 RX4) (by decide +kernel)) (hts (.instantiable RX4 6) (by decide +kernel)) (hts (.initialized RX4) (by decide +kernel)) hK hP hD hS hA rfl (fun j hj => by rcases (show j = 0 ∨ j = 1 ∨ j = 2 ∨ j = 3 ∨ j = 4 ∨ j = 5 by omega) with rfl | rfl | rfl | rfl | rfl | rfl <;> rfl) (Nat.le_of_ble_eq_true rfl) (Nat.le_of_ble_eq_true rfl) dL_law_8 (fun q H hP hD hS => ?_)
  refine lv_dup hx hb dL_law_11 rfl ?_
  refine sn_vI (w0 := sn_wX cI cZ cR o a bt im sn_f0 0 (fun _ => 0) (fun _ => 0) (fun _ => 0) none none) (w := [(q, .inr (3, [.null, .null, .null, .null, .null, .int 0]))]) (wr := []) 0 hC hl (ct_X4_init l D cI cZ cR q _) gL_law_X4_init rfl (hts (.initialized RX4) (by decide +kernel)) (hts (.methodLink RL 12 yX4_init) (by decide +kernel)) (hts (.instanceMethod yX4_init) (by decide +kernel)) rfl (by decide +kernel) rfl ⟨Nat.le_of_ble_eq_true rfl, Nat.le_of_ble_eq_true rfl⟩ ⟨Nat.le_of_ble_eq_true rfl, Nat.le_of_ble_eq_true rfl⟩ hP hD hS hA hF0 hK hN rfl (Nat.le_of_ble_eq_true rfl) dL_law_12 (fun am H locs ham hP hD hS => ?_)
  have hP : va_P D vwCl (sn_wX cI cZ cR o a bt im sn_f0 0 (fun _ => 0) (fun _ => 0) (fun _ => 0) none none ++ sn_wM cI cZ am sn_f0 (fun _ => 0) (fun _ => 0) (fun _ => 0) (fun _ => 0) 0) H := hP
  have hD : va_D (sn_ah s) (sn_wX cI cZ cR o a bt im sn_f0 0 (fun _ => 0) (fun _ => 0) (fun _ => 0) none none ++ sn_wM cI cZ am sn_f0 (fun _ => 0) (fun _ => 0) (fun _ => 0) (fun _ => 0) 0) := hD
  have hW : sn_Wd D cI cZ cR (sn_ah s) o (am 0) H := sn_Wd.mk ⟨0, sn_I_0⟩ ⟨fun _ => rfl, fun _ => rfl⟩ ⟨fun _ => rfl, fun _ => rfl⟩ (fun z => absurd rfl z) (fun z => absurd rfl z) hP hD
  rw [ham] at hW
  refine lv_astore_n (lv' := [(2, .ref q), (1, .ref o), (0, .ref b)]) hx hb dL_law_15 rfl hl (by decide) rfl (fun ls hl => ?_)
  refine lv_iconst (v := 0) hx hb dL_law_16 (by decide) ?_
  refine lv_istore_n (lv' := [(3, .int 0), (2, .ref q), (1, .ref o), (0, .ref b)]) hx hb dL_law_17 rfl hl (by decide) rfl (fun ls hl => ?_)
  refine W.widen (k := 18 + 7 * 0) (n := 330 + 63 * 0) (by decide) (by decide) ?_
  exact sn_loop hL C0 hK hN hF0 514 0 (Nat.zero_le L) (by decide) o q H locs hW hS ls (lv_sub hl [3, 2, 1, 0] rfl)
set_option maxHeartbeats 4000000 in
theorem lw_walk (l : Launch) (hflags : l.flags = flags0) (b : Addr) (xs : List Int32) : MetFree l x (headSpec (Jvm.Cond.code x code maxLocals ret :: tables_1) room_1) (lw_P b xs) (fun _ _ _ _ _ => True) lw_Q := by
  refine MetFree.of_bodyS (code := code) (maxLocals := maxLocals) (ret := ret) (by decide) ?_ ?_
  · intro args s m h hn
    obtain ⟨meth, c, h1, h2, h3, h4, h5, h6, -, -⟩ := Cond.code_spec hn (atoms_spec (ws := Jvm.Cond.code x code maxLocals ret :: tables_1) h _ List.mem_cons_self)
    exact ⟨meth, c, h1, h2, h3, h4, h5, h6⟩
  · intro p e s m args below meth c s₁ B hml0 hP _
    obtain ⟨rfl, hx, hbd, hgv⟩ := hP
    obtain ⟨scr, harrAt, hlist, hof, hsmall⟩ := hx
    obtain ⟨hcb, hkn, -, -⟩ := State.arrayAt?_spec harrAt
    have hown : s.vm.findClass R_law = some m.cls := findClass_of_methodNamed B.named
    have hts0 : ∀ c ∈ (Jvm.Cond.code x code maxLocals ret :: tables_1), c.before #[Value.ref b] s = true := atoms_spec (ws := Jvm.Cond.code x code maxLocals ret :: tables_1) B.pre
    have hts : ∀ w ∈ lw_tbl, w.before #[Value.ref b] s = true := k2_hts_sels lw_privs (fun w hw => hts0 w (List.mem_cons_of_mem _ hw)) lw_privs_ok
    have hml : c.maxLocals = 4 := B.maxLocals_eq (hts0 _ List.mem_cons_self)
    have X₀ : Stand p l e room_1 s m #[Value.ref b] below meth c s₁ [] 0 0 := Stand.of_body B
    have hh0 : s₁.heap = s.heap := by rw [B.state]; rfl
    have hsz : scr.slots.size = xs.length := by rw [← Array.length_toList, hlist, List.length_map]
    have hval : ∀ j : Nat, j < xs.length → scr.slots[j]? = some (.int (xs.getD j 0)) := fun j hj => by
      rw [← Array.getElem?_toList, hlist]
      simp [hj]
    have hbl : b < s.heap.size := (Array.getElem?_eq_some_iff.mp hcb).1
    have hX : va_X b xs.length (fun j => xs.getD j 0) s s.heap := ⟨scr, hcb, hof, hkn, hsz, hval⟩
    have K : W p l e room_1 s m #[Value.ref b] below meth c s₁.heap [] 0 0 (lw_Z below #[Value.ref b] s) (entryFrame m ([Value.ref b] : List Value).toArray 4) := by
      rw [hh0]
      exact whole_start l hflags hbd ⟨B.exec, B.bytes, B.returns, hml, hown, hts, hX, hbl, B.notSynchronized, hgv⟩
    obtain ⟨t, a1, o, b1, b2, b3⟩ := K s₁ rfl X₀
    exact ⟨t, o, a1, b1, b2, b3⟩
theorem lw_pre_spec {args : Array Value} {s : State} (h : (Jvm.Cond.and given_1 narrow_1).before args s = true) (hr : rest_1_c.before args s = true) : ∃ (b : Addr) (xs : List Int32), lw_P b xs args s := by
  have hs := flat_of_before _ h
  have hq := flat_of_before _ hr
  have hc : (Cond.count 1).before args s = true := hs _ (by decide +kernel)
  have harr : (Cond.arrayOf (.arg 0) .int).before args s = true := hs _ (by decide +kernel)
  have hle : (Cond.le (.length (.arg 0)) (.int 2560)).before args s = true := hs _ (by decide +kernel)
  have hlen : (Cond.isInt (.length (.arg 0))).before args s = true := hq _ (by decide +kernel)
  have hall : (Cond.all (.arg 0) (.isInt (.elem (.arg 0) (.index 0)))).before args s = true := hq _ (by decide +kernel)
  obtain ⟨b, xs, hb, hx⟩ := State.ints_of_pre rfl harr hlen hall
  have hsm : xs.length < 2 ^ 31 := hx.choose_spec.2.2.2
  have hev : (Term.length (.arg 0)).eval args s none [] s = some (.int xs.length.toInt32) := hx.length_eval hb
  have hv := Cond.le_ints hev (show (Term.int 2560).eval args s none [] s = some (.int 2560) from rfl)
  have hd : xs.length.toInt32 ≤ 2560 := by
    simpa [Cond.before, Cond.holds, hv] using hle
  have hN : xs.length ≤ 2560 := (Int32.ofNat_le_ofNat hsm (by decide)).mp (show Int32.ofNat xs.length ≤ Int32.ofNat 2560 from hd)
  exact ⟨b, xs, Cond.one_arg hc (show args[0]? = some (.ref b) from hb), hx, hN, h⟩
theorem lw_comes (l : Launch) (hflags : l.flags = flags0) : Comes l x (Jvm.Cond.code x code maxLocals ret :: tables_1) room_1 (fun tb e args s => Calls_1 tb e args s ∧ rest_1 tb e args s ∧ Pre_1 tb e args s)
    (fun _ _ args s o t => lw_Q args s o t) := by
  intro p e ha hc hk s m args below hf hfit hheap happ hpre
  obtain ⟨b, xs, hP⟩ := lw_pre_spec hpre.2.2 hpre.2.1
  obtain ⟨k, o, h1, h2, h3, hQ⟩ := lw_walk l hflags b xs p e ha hc hk s m args below hf ((Spec.applies_iff_loose hf).mp happ).1 hP trivial
  exact ⟨k, o, h1, h2, h3, hQ⟩
theorem lw_frame {s t : State} {o : Outcome} {args : Array Value} (h : Framed s o t [] 600000 7302250) :
    Framed s o t (fieldLocs frame_1_writes args s ++ arrayLocs frame_1_arrays args s ++ staticLocs frame_1_statics s) 600000 7302250 := h
theorem lw_limb (L : Cond) (hL : ∀ (args : Array Value) (s t : State), L.after args s (.returned (some (.int 1))) t = true) :
    ArmFor flags0 classFile x code maxLocals ret World_1 tables_1 room_1 Calls_1 rest_1 Pre_1
      (fun tb e a s o t => postC L tb e a s o t ∧ Framed s o t (fieldLocs frame_1_writes a s ++ arrayLocs frame_1_arrays a s ++ staticLocs frame_1_statics s) 600000 7302250) := by
  intro l hflags _ _ p e ha hc hk s m args below hf hfit hheap happ hpre
  obtain ⟨k, o, h1, h2, h3, rfl, hF⟩ := lw_comes l hflags p e ha hc hk s m args below hf hfit hheap happ hpre
  exact ⟨k, _, h1, h2, h3, hL args s _, lw_frame hF⟩
theorem i_vc : Claimed_1_1 ∧ Claimed_1_2 := ⟨lw_limb limb_1_1 (fun args s t => by simp [limb_1_1, Cond.after, Cond.holds, Cond.value]), lw_limb limb_1_2 (fun args s t => Cond.after_iff.mpr (by
  first | (rw [show limb_1_2 = Cond.eq .result (.int 1) from rfl, Cond.eq_ints (x := 1) (y := 1) rfl rfl]; simp; done) | (simp [limb_1_2, Cond.value, Term.eval]; done)))⟩
