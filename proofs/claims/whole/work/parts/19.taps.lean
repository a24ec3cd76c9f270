set_option maxRecDepth 100000 in
set_option maxHeartbeats 4000000 in
theorem ct_X2_isClean (l : Launch) (D : va_G) (cI cZ cR : ClassId) (bt a : Nat → Nat) (nb : Int32) (tp ly f : Nat → Int32) (n : Nat) (hI : sn_I f n) (i k : Nat) (hi : i < 10) (hk : ly i = nI k) (hk1 : k + 1 < n) : sn_Rd l yX2_isClean wsX2_isClean 1 [.ref (bt 0), .ref (a 0), .int (nI i)] D (sn_ty cI cZ cR) (sn_wT cI bt nb tp ly ++ sn_wC cI cZ a f) (sn_b (sn_cle f k)) := by
  refine sn_rd (cc := cX2_isClean) (maxL := 4) (ret := (some .boolean)) (by decide) rfl (Nat.le_of_ble_eq_true rfl) ?_
  intro p e s m below meth c hx hb hml hr hlk hts hown hP hK hN ls hl
  have hC : CallFix p m c cX2_isClean 4 s [.ref (bt 0), .ref (a 0), .int (nI i)].toArray wsX2_isClean RX2 := ⟨hx, hb, hml, hown, hts⟩
  have hl : lv_has ls 4 [(0, .ref (bt 0)), (1, .ref (a 0)), (2, .int (nI i))] := hl
  have huX0 : ∀ w ∈ wsX00, w ∈ wsX2_isClean := by decide +kernel
  have huX2 : ∀ w ∈ wsX20, w ∈ wsX2_isClean := by decide +kernel
  have hn10 := hI.2.1
  have hdf := sn_hdif hI (i := k) (by omega)
  refine lv_aload_n hx hb dX2_isClean_0 rfl (lv_at hl 0 rfl) ?_
  refine va_get (D := D) (ci := 1) (v := .ref (bt 2)) (C := RX2) (T := TX2) (N := 3) hx hb hts huX2 hown hK hP 0 rfl rfl 2 (by decide) (hts (.fieldLink RX2 19 "SnowSlabs$TapTest" "layerOf" "[I") (by decide +kernel)) (fun _ h9 => h9) rfl dX2_isClean_1 ?_
  refine lv_iload_n hx hb dX2_isClean_4 rfl (lv_at hl 2 rfl) ?_
  refine sn_ild (k := i) (v := ly i) 2 0 hx hb hK hP rfl rfl (by omega) (by decide) rfl (rfl) dX2_isClean_5 ?_
  refine sn_top (y := nI k) (hk) ?_
  refine lv_istore_n (lv' := [(3, .int (nI k)), (0, .ref (bt 0)), (1, .ref (a 0)), (2, .int (nI i))]) hx hb dX2_isClean_6 rfl hl (by decide) rfl (fun ls hl => ?_)
  refine lv_aload_n hx hb dX2_isClean_7 rfl (lv_at hl 2 rfl) ?_
  refine va_get (D := D) (ci := 0) (v := .ref (a 4)) (C := RX0) (T := TX0) (N := 8) hx hb hts huX0 hown hK hP 3 rfl rfl 5 (by decide) (hts (.fieldLink RX2 37 "SnowSlabs$Cover" "hard" "[I") (by decide +kernel)) (fun _ h9 => h9) rfl dX2_isClean_8 ?_
  refine lv_iload_n hx hb dX2_isClean_11 rfl (lv_at hl 0 rfl) ?_
  refine lv_iconst (v := 1) hx hb dX2_isClean_12 (by decide) ?_
  refine lv_iadd hx hb dX2_isClean_13 ?_
  refine sn_top (sn_nadd (a := k) (b := 1) rfl rfl) ?_
  refine sn_ild (k := k + 1) (v := f (10 + 5 * (k + 1))) 7 0 hx hb hK hP rfl rfl (by omega) (by decide) rfl (rfl) dX2_isClean_14 ?_
  refine lv_aload_n hx hb dX2_isClean_15 rfl (lv_at hl 2 rfl) ?_
  refine va_get (D := D) (ci := 0) (v := .ref (a 4)) (C := RX0) (T := TX0) (N := 8) hx hb hts huX0 hown hK hP 3 rfl rfl 5 (by decide) (hts (.fieldLink RX2 37 "SnowSlabs$Cover" "hard" "[I") (by decide +kernel)) (fun _ h9 => h9) rfl dX2_isClean_16 ?_
  refine lv_iload_n hx hb dX2_isClean_19 rfl (lv_at hl 0 rfl) ?_
  refine sn_ild (k := k) (v := f (10 + 5 * k)) 7 0 hx hb hK hP rfl rfl (by omega) (by decide) rfl (rfl) dX2_isClean_20 ?_
  refine lv_isub hx hb dX2_isClean_21 ?_
  refine va_mabs hx hb (hml.trans hl.1.symm) hown (hts (.methodLink RX2 40 Lib.Math.abs.name) (by decide +kernel)) (hts (.static Lib.Math.abs.name) (by decide +kernel)) (hts (.initialized "java/lang/Math") (by decide +kernel)) (hts (.code Lib.Math.abs.name Lib.Math.abs.code 1 (some .int)) (by decide +kernel)) (Nat.le_of_ble_eq_true rfl) (Nat.le_of_ble_eq_true rfl) (Nat.zero_le _) (Nat.zero_le _) dX2_isClean_22 ?_
  refine lv_iconst (v := 2) hx hb dX2_isClean_25 (by decide) ?_
  refine lv_icmp_lt (tgt := 33) hx hb dX2_isClean_26 (by decide) (fun c_1 => ?_) (fun c_1 => ?_)
  · refine lv_iconst (v := 0) hx hb dX2_isClean_33 (by decide) ?_
    exact sn_zret hx hb hr hlk dX2_isClean_34 (by decide) (sn_b_f ((sn_abs2 hdf.1 hdf.2).mp c_1))
  · refine lv_iconst (v := 1) hx hb dX2_isClean_29 (by decide) ?_
    refine lv_goto (tgt := 34) hx hb dX2_isClean_30 (by decide) ?_
    exact sn_zret hx hb hr hlk dX2_isClean_34 (by decide) (sn_b_t (Decidable.of_not_not (fun z => c_1 ((sn_abs2 hdf.1 hdf.2).mpr z))))
set_option maxRecDepth 100000 in
set_option maxHeartbeats 4000000 in
theorem ct_X2_run (l : Launch) (D : va_G) (cI cZ cR : ClassId) (bt a : Nat → Nat) (nb : Int32) (tp ly f : Nat → Int32) (n : Nat) (hI : sn_I f n) (sz : Nat) : sn_Uv l yX2_run wsX2_run 4 0 0 [.ref (bt 0), .ref (a 0)] D (sn_ty cI cZ cR) (sn_wT cI bt nb tp ly ++ sn_wC cI cZ a f) sz (fun u_ : (Nat → Int32) × (Nat → Int32) => sn_tH f n (f 1) 30 u_.1 u_.2) (fun u_ => sn_wT cI bt (nI (sn_tC f n (f 1) 30)) u_.1 u_.2 ++ sn_wC cI cZ a f) := by
  refine sn_uv (cc := cX2_run) (maxL := 5) (ret := none) (by decide) rfl (Nat.le_of_ble_eq_true rfl) ?_
  intro p e s m below meth c A hx hb hml hr hlk hin hts hown hA hF0 hK hN H locs hP hD hS ls hl
  have hC : CallFix p m c cX2_run 5 s [.ref (bt 0), .ref (a 0)].toArray wsX2_run RX2 := ⟨hx, hb, hml, hown, hts⟩
  have hl : lv_has ls 5 [(0, .ref (bt 0)), (1, .ref (a 0))] := hl
  have huX0 : ∀ w ∈ wsX00, w ∈ wsX2_run := by decide +kernel
  have huX2 : ∀ w ∈ wsX20, w ∈ wsX2_run := by decide +kernel
  have hn10 := hI.2.1
  refine lv_aload_n hx hb dX2_run_0 rfl (lv_at hl 0 rfl) ?_
  refine lv_iconst (v := 0) hx hb dX2_run_1 (by decide) ?_
  refine va_put (D := D) (ci := 1) (v := .int 0) (ty := .int) (C := RX2) (T := TX2) (N := 3) hx hb hts huX2 tyX2 tyX2_ok nmX2 hown hK hP hD hS 0 rfl rfl 0 (by decide) (hts (.fieldLink RX2 9 "SnowSlabs$TapTest" "breaks" "I") (by decide +kernel)) (fun _ h9 => h9) rfl (by decide +kernel) rfl rfl (Nat.le_of_ble_eq_true rfl) dX2_run_2 (fun H locs hP hD hS => ?_)
  have hP : va_P D vwCl ([(bt 0, .inr (1, [.int 0, .ref (bt 1), .ref (bt 2)])), (bt 1, .inl (cI, 10, .inl tp)), (bt 2, .inl (cI, 10, .inl ly)), (a 0, .inr (0, [.int (f 0), .int (f 1), .ref (a 1), .ref (a 2), .ref (a 3), .ref (a 4), .ref (a 5), .ref (a 6)])), (a 1, .inl (cI, 10, .inl (fun z_ => f (7 + 5 * z_)))), (a 2, .inl (cI, 10, .inl (fun z_ => f (8 + 5 * z_)))), (a 3, .inl (cI, 10, .inl (fun z_ => f (9 + 5 * z_)))), (a 4, .inl (cI, 10, .inl (fun z_ => f (10 + 5 * z_)))), (a 5, .inl (cZ, 10, .inl (fun z_ => f (11 + 5 * z_)))), (a 6, .inl (cI, 5, .inl (fun z_ => f (2 + z_))))]) H := hP
  have hD : va_D A ([(bt 0, .inr (1, [.int 0, .ref (bt 1), .ref (bt 2)])), (bt 1, .inl (cI, 10, .inl tp)), (bt 2, .inl (cI, 10, .inl ly)), (a 0, .inr (0, [.int (f 0), .int (f 1), .ref (a 1), .ref (a 2), .ref (a 3), .ref (a 4), .ref (a 5), .ref (a 6)])), (a 1, .inl (cI, 10, .inl (fun z_ => f (7 + 5 * z_)))), (a 2, .inl (cI, 10, .inl (fun z_ => f (8 + 5 * z_)))), (a 3, .inl (cI, 10, .inl (fun z_ => f (9 + 5 * z_)))), (a 4, .inl (cI, 10, .inl (fun z_ => f (10 + 5 * z_)))), (a 5, .inl (cZ, 10, .inl (fun z_ => f (11 + 5 * z_)))), (a 6, .inl (cI, 5, .inl (fun z_ => f (2 + z_))))]) := hD
  refine lv_aload_n hx hb dX2_run_5 rfl (lv_at hl 1 rfl) ?_
  refine va_get (D := D) (ci := 0) (v := .int (f 0)) (C := RX0) (T := TX0) (N := 8) hx hb hts huX0 hown hK hP 3 rfl rfl 0 (by decide) (hts (.fieldLink RX2 22 "SnowSlabs$Cover" "size" "I") (by decide +kernel)) (fun _ h9 => h9) rfl dX2_run_6 ?_
  refine sn_top (hI.1) ?_
  refine lv_istore_n (lv' := [(2, .int (nI n)), (0, .ref (bt 0)), (1, .ref (a 0))]) hx hb dX2_run_9 rfl hl (by decide) rfl (fun ls hl => ?_)
  refine lv_iconst (v := 1) hx hb dX2_run_10 (by decide) ?_
  refine lv_istore_n (lv' := [(3, .int 1), (2, .int (nI n)), (0, .ref (bt 0)), (1, .ref (a 0))]) hx hb dX2_run_11 rfl hl (by decide) rfl (fun ls hl => ?_)
  have loop : ∀ (fu : Nat) (t : Nat) (tq : Nat → Int32) (lq : Nat → Int32), (t ≤ 30) → (sn_tH f n (f 1) t tq lq) → 30 - t < fu → ∀ (H : Heap) (locs : List Loc), va_P D vwCl ([(bt 0, .inr (1, [.int (nI (sn_tC f n (f 1) t)), .ref (bt 1), .ref (bt 2)])), (bt 1, .inl (cI, 10, .inl tq)), (bt 2, .inl (cI, 10, .inl lq)), (a 0, .inr (0, [.int (f 0), .int (f 1), .ref (a 1), .ref (a 2), .ref (a 3), .ref (a 4), .ref (a 5), .ref (a 6)])), (a 1, .inl (cI, 10, .inl (fun z_ => f (7 + 5 * z_)))), (a 2, .inl (cI, 10, .inl (fun z_ => f (8 + 5 * z_)))), (a 3, .inl (cI, 10, .inl (fun z_ => f (9 + 5 * z_)))), (a 4, .inl (cI, 10, .inl (fun z_ => f (10 + 5 * z_)))), (a 5, .inl (cZ, 10, .inl (fun z_ => f (11 + 5 * z_)))), (a 6, .inl (cI, 5, .inl (fun z_ => f (2 + z_))))]) H → va_D A ([(bt 0, .inr (1, [.int (nI (sn_tC f n (f 1) t)), .ref (bt 1), .ref (bt 2)])), (bt 1, .inl (cI, 10, .inl tq)), (bt 2, .inl (cI, 10, .inl lq)), (a 0, .inr (0, [.int (f 0), .int (f 1), .ref (a 1), .ref (a 2), .ref (a 3), .ref (a 4), .ref (a 5), .ref (a 6)])), (a 1, .inl (cI, 10, .inl (fun z_ => f (7 + 5 * z_)))), (a 2, .inl (cI, 10, .inl (fun z_ => f (8 + 5 * z_)))), (a 3, .inl (cI, 10, .inl (fun z_ => f (9 + 5 * z_)))), (a 4, .inl (cI, 10, .inl (fun z_ => f (10 + 5 * z_)))), (a 5, .inl (cZ, 10, .inl (fun z_ => f (11 + 5 * z_)))), (a 6, .inl (cI, 5, .inl (fun z_ => f (2 + z_))))]) → va_S A s.heap H locs → ∀ ls : Array Slot, lv_has ls 5 [(0, .ref (bt 0)), (1, .ref (a 0)), (2, .int (nI (sn_tE f n (f 1) t))), (3, .int (nI (t + 1)))] → W p l e (sn_rm 4 0 0) s m [.ref (bt 0), .ref (a 0)].toArray below meth c H locs 0 0 (MQ below (va_Qv (fun u_ : (Nat → Int32) × (Nat → Int32) => sn_tH f n (f 1) 30 u_.1 u_.2) (fun u_ t_ => va_P D vwCl (sn_wT cI bt (nI (sn_tC f n (f 1) 30)) u_.1 u_.2 ++ sn_wC cI cZ a f) t_.heap ∧ va_D A (sn_wT cI bt (nI (sn_tC f n (f 1) 30)) u_.1 u_.2 ++ sn_wC cI cZ a f)) A) [.ref (bt 0), .ref (a 0)].toArray s 0 0 A) (F0 m 12 ls []) := by
    intro fu
    induction fu with
    | zero => intro t tq lq ht hv hm; exact absurd hm (Nat.not_lt_zero _)
    | succ fu ih_loop =>
      intro t tq lq ht hv hm H locs hP hD hS ls hl
      refine lv_iload_n hx hb dX2_run_12 rfl (lv_at hl 3 rfl) ?_
      refine lv_bipush (v := 30) hx hb dX2_run_13 (by decide) ?_
      refine lv_icmp_gt (tgt := 91) hx hb dX2_run_15 (by decide) (fun c_1 => ?_) (fun c_1 => ?_)
      · have c_1 := (sn_cgtj (a := t + 1) (b := 30) rfl rfl (by omega) (by omega)).mp c_1
        have htN : t = 30 := by omega
        subst htN
        exact sn_vret ((tq, lq)) hx hb hr hlk dX2_run_91 hP hD hS (hv) (Nat.le_of_ble_eq_true rfl) (Nat.le_of_ble_eq_true rfl)
      · have c_1 := (sn_cgtf (a := t + 1) (b := 30) rfl rfl (by omega) (by omega)).mp c_1
        have hCE := sn_tCE f n (f 1) t
        refine lv_aload_n hx hb dX2_run_18 rfl (lv_at hl 1 rfl) ?_
        refine lv_iload_n hx hb dX2_run_19 rfl (lv_at hl 2 rfl) ?_
        refine lv_iload_n hx hb dX2_run_20 rfl (lv_at hl 3 rfl) ?_
        refine lv_aload_n hx hb dX2_run_21 rfl (lv_at hl 1 rfl) ?_
        refine va_get (D := D) (ci := 0) (v := .int (f 1)) (C := RX0) (T := TX0) (N := 8) hx hb hts huX0 hown hK hP 3 rfl rfl 1 (by decide) (hts (.fieldLink RX2 27 "SnowSlabs$Cover" "blowWeight" "I") (by decide +kernel)) (fun _ h9 => h9) rfl dX2_run_22 ?_
        refine sn_cS 2 hC hl (ct_X2_weightOf l D _ [] (t + 1) (by omega) (f 1)) gX2_run_X2_weightOf rfl (by decide +kernel) rfl ⟨Nat.le_of_ble_eq_true rfl, Nat.le_of_ble_eq_true rfl⟩ ⟨Nat.zero_le _, Nat.zero_le _⟩ (fun _ _ h => by simp at h) hK hN rfl (Nat.le_of_ble_eq_true rfl) dX2_run_25 ?_
        refine sn_cV 2 0 hC hl (ct_X0_breaking l D cI cZ cR a f n hI (sn_tE f n (f 1) t) (by first | exact hI.2.1 | omega) (sn_wt (t + 1) (f 1))) gX2_run_X0_breaking rfl (by decide +kernel) rfl ⟨Nat.le_of_ble_eq_true rfl, Nat.le_of_ble_eq_true rfl⟩ ⟨Nat.zero_le _, Nat.zero_le _⟩ (hP.sub (ws' := sn_wC cI cZ a f) [3, 4, 5, 6, 7, 8, 9] rfl) hK hN rfl rfl rfl (Nat.le_of_ble_eq_true rfl) dX2_run_28 ?_
        refine lv_istore (lv' := [(4, .int (sn_en (sn_bk f (sn_tE f n (f 1) t) (sn_wt (t + 1) (f 1))))), (0, .ref (bt 0)), (1, .ref (a 0)), (2, .int (nI (sn_tE f n (f 1) t))), (3, .int (nI (t + 1)))]) hx hb dX2_run_31 hl (by decide) rfl (fun ls hl => ?_)
        have hbl := sn_bk_le f (sn_tE f n (f 1) t) (sn_wt (t + 1) (f 1))
        refine lv_iload hx hb dX2_run_33 (lv_at hl 0 rfl) ?_
        refine lv_bipush (v := (-6)) hx hb dX2_run_35 (by decide) ?_
        refine lv_icmp_eq (tgt := 85) hx hb dX2_run_37 (by decide) (fun c_2 => ?_) (fun c_2 => ?_)
        · have c_2 : sn_bk f (sn_tE f n (f 1) t) (sn_wt (t + 1) (f 1)) = 0 := (sn_en_none (by omega)).mp c_2
          refine lv_iinc (v := nI (t + 1 + 1)) (lv' := [(3, .int (nI (t + 1 + 1))), (4, .int (sn_en (sn_bk f (sn_tE f n (f 1) t) (sn_wt (t + 1) (f 1))))), (0, .ref (bt 0)), (1, .ref (a 0)), (2, .int (nI (sn_tE f n (f 1) t)))]) hx hb dX2_run_85 hl (k := 4) rfl (sn_inc _) (by decide) rfl (fun ls hl => ?_)
          refine lv_goto (tgt := 12) hx hb dX2_run_88 (by decide) ?_
          have hte : sn_tE f n (f 1) t = sn_tE f n (f 1) (t + 1) := (sn_tE_z c_2).symm
          rw [hte] at hl
          have hE : sn_eW ([(bt 0, .inr (1, [.int (nI (sn_tC f n (f 1) t)), .ref (bt 1), .ref (bt 2)])), (bt 1, .inl (cI, 10, .inl tq)), (bt 2, .inl (cI, 10, .inl lq)), (a 0, .inr (0, [.int (f 0), .int (f 1), .ref (a 1), .ref (a 2), .ref (a 3), .ref (a 4), .ref (a 5), .ref (a 6)])), (a 1, .inl (cI, 10, .inl (fun z_ => f (7 + 5 * z_)))), (a 2, .inl (cI, 10, .inl (fun z_ => f (8 + 5 * z_)))), (a 3, .inl (cI, 10, .inl (fun z_ => f (9 + 5 * z_)))), (a 4, .inl (cI, 10, .inl (fun z_ => f (10 + 5 * z_)))), (a 5, .inl (cZ, 10, .inl (fun z_ => f (11 + 5 * z_)))), (a 6, .inl (cI, 5, .inl (fun z_ => f (2 + z_))))]) ([(bt 0, .inr (1, [.int (nI (sn_tC f n (f 1) (t + 1))), .ref (bt 1), .ref (bt 2)])), (bt 1, .inl (cI, 10, .inl tq)), (bt 2, .inl (cI, 10, .inl lq)), (a 0, .inr (0, [.int (f 0), .int (f 1), .ref (a 1), .ref (a 2), .ref (a 3), .ref (a 4), .ref (a 5), .ref (a 6)])), (a 1, .inl (cI, 10, .inl (fun z_ => f (7 + 5 * z_)))), (a 2, .inl (cI, 10, .inl (fun z_ => f (8 + 5 * z_)))), (a 3, .inl (cI, 10, .inl (fun z_ => f (9 + 5 * z_)))), (a 4, .inl (cI, 10, .inl (fun z_ => f (10 + 5 * z_)))), (a 5, .inl (cZ, 10, .inl (fun z_ => f (11 + 5 * z_)))), (a 6, .inl (cI, 5, .inl (fun z_ => f (2 + z_))))]) := sn_eC (sn_eO (by rw [sn_tC_z c_2])) (sn_eC (sn_eQ _) (sn_eC (sn_eQ _) (sn_eC (sn_eQ _) (sn_eC (sn_eQ _) (sn_eC (sn_eQ _) (sn_eC (sn_eQ _) (sn_eC (sn_eQ _) (sn_eC (sn_eQ _) (sn_eC (sn_eQ _) (sn_eN))))))))))
          exact ih_loop (t + 1) tq lq (by omega) (sn_tH_z hv c_2) (by omega) _ _ (hE.P hP) (hE.D hD) hS ls (lv_sub hl [2, 3, 4, 0] rfl)
        · have c_2 : ¬ sn_bk f (sn_tE f n (f 1) t) (sn_wt (t + 1) (f 1)) = 0 := fun z => c_2 ((sn_en_none (by omega)).mpr z)
          refine lv_aload_n hx hb dX2_run_40 rfl (lv_at hl 1 rfl) ?_
          refine va_get (D := D) (ci := 1) (v := .int (nI (sn_tC f n (f 1) t))) (C := RX2) (T := TX2) (N := 3) hx hb hts huX2 hown hK hP 0 rfl rfl 0 (by decide) (hts (.fieldLink RX2 9 "SnowSlabs$TapTest" "breaks" "I") (by decide +kernel)) (fun _ h9 => h9) rfl dX2_run_41 ?_
          refine lv_bipush (v := 10) hx hb dX2_run_44 (by decide) ?_
          refine lv_icmp_ge (tgt := 85) hx hb dX2_run_46 (by decide) (fun c_3 => ?_) (fun c_3 => ?_)
          · have c_3 := (sn_cgej (a := sn_tC f n (f 1) t) (b := 10) rfl rfl (by omega) (by omega)).mp c_3
            exact absurd c_3 (by omega)
          · have c_3 := (sn_cgef (a := sn_tC f n (f 1) t) (b := 10) rfl rfl (by omega) (by omega)).mp c_3
            refine lv_aload_n hx hb dX2_run_49 rfl (lv_at hl 1 rfl) ?_
            refine va_get (D := D) (ci := 1) (v := .ref (bt 1)) (C := RX2) (T := TX2) (N := 3) hx hb hts huX2 hown hK hP 0 rfl rfl 1 (by decide) (hts (.fieldLink RX2 15 "SnowSlabs$TapTest" "tapOf" "[I") (by decide +kernel)) (fun _ h9 => h9) rfl dX2_run_50 ?_
            refine lv_aload_n hx hb dX2_run_53 rfl (lv_at hl 1 rfl) ?_
            refine va_get (D := D) (ci := 1) (v := .int (nI (sn_tC f n (f 1) t))) (C := RX2) (T := TX2) (N := 3) hx hb hts huX2 hown hK hP 0 rfl rfl 0 (by decide) (hts (.fieldLink RX2 9 "SnowSlabs$TapTest" "breaks" "I") (by decide +kernel)) (fun _ h9 => h9) rfl dX2_run_54 ?_
            refine lv_iload_n hx hb dX2_run_57 rfl (lv_at hl 4 rfl) ?_
            refine sn_ist (k := sn_tC f n (f 1) t) 1 0 hx hb hK hP hD hS rfl rfl (by omega) (by decide) rfl dX2_run_58 (fun H locs hP hD hS => ?_)
            have hP : va_P D vwCl ([(bt 0, .inr (1, [.int (nI (sn_tC f n (f 1) t)), .ref (bt 1), .ref (bt 2)])), (bt 1, .inl (cI, 10, .inl (upd tq (sn_tC f n (f 1) t) (nI (t + 1))))), (bt 2, .inl (cI, 10, .inl lq)), (a 0, .inr (0, [.int (f 0), .int (f 1), .ref (a 1), .ref (a 2), .ref (a 3), .ref (a 4), .ref (a 5), .ref (a 6)])), (a 1, .inl (cI, 10, .inl (fun z_ => f (7 + 5 * z_)))), (a 2, .inl (cI, 10, .inl (fun z_ => f (8 + 5 * z_)))), (a 3, .inl (cI, 10, .inl (fun z_ => f (9 + 5 * z_)))), (a 4, .inl (cI, 10, .inl (fun z_ => f (10 + 5 * z_)))), (a 5, .inl (cZ, 10, .inl (fun z_ => f (11 + 5 * z_)))), (a 6, .inl (cI, 5, .inl (fun z_ => f (2 + z_))))]) H := hP
            have hD : va_D A ([(bt 0, .inr (1, [.int (nI (sn_tC f n (f 1) t)), .ref (bt 1), .ref (bt 2)])), (bt 1, .inl (cI, 10, .inl (upd tq (sn_tC f n (f 1) t) (nI (t + 1))))), (bt 2, .inl (cI, 10, .inl lq)), (a 0, .inr (0, [.int (f 0), .int (f 1), .ref (a 1), .ref (a 2), .ref (a 3), .ref (a 4), .ref (a 5), .ref (a 6)])), (a 1, .inl (cI, 10, .inl (fun z_ => f (7 + 5 * z_)))), (a 2, .inl (cI, 10, .inl (fun z_ => f (8 + 5 * z_)))), (a 3, .inl (cI, 10, .inl (fun z_ => f (9 + 5 * z_)))), (a 4, .inl (cI, 10, .inl (fun z_ => f (10 + 5 * z_)))), (a 5, .inl (cZ, 10, .inl (fun z_ => f (11 + 5 * z_)))), (a 6, .inl (cI, 5, .inl (fun z_ => f (2 + z_))))]) := hD
            refine lv_aload_n hx hb dX2_run_59 rfl (lv_at hl 1 rfl) ?_
            refine va_get (D := D) (ci := 1) (v := .ref (bt 2)) (C := RX2) (T := TX2) (N := 3) hx hb hts huX2 hown hK hP 0 rfl rfl 2 (by decide) (hts (.fieldLink RX2 19 "SnowSlabs$TapTest" "layerOf" "[I") (by decide +kernel)) (fun _ h9 => h9) rfl dX2_run_60 ?_
            refine lv_aload_n hx hb dX2_run_63 rfl (lv_at hl 1 rfl) ?_
            refine va_get (D := D) (ci := 1) (v := .int (nI (sn_tC f n (f 1) t))) (C := RX2) (T := TX2) (N := 3) hx hb hts huX2 hown hK hP 0 rfl rfl 0 (by decide) (hts (.fieldLink RX2 9 "SnowSlabs$TapTest" "breaks" "I") (by decide +kernel)) (fun _ h9 => h9) rfl dX2_run_64 ?_
            refine lv_iload hx hb dX2_run_67 (lv_at hl 0 rfl) ?_
            refine sn_top (y := nI (sn_bk f (sn_tE f n (f 1) t) (sn_wt (t + 1) (f 1)) - 1)) (sn_en_pos c_2) ?_
            refine sn_ist (k := sn_tC f n (f 1) t) 2 0 hx hb hK hP hD hS rfl rfl (by omega) (by decide) rfl dX2_run_69 (fun H locs hP hD hS => ?_)
            have hP : va_P D vwCl ([(bt 0, .inr (1, [.int (nI (sn_tC f n (f 1) t)), .ref (bt 1), .ref (bt 2)])), (bt 1, .inl (cI, 10, .inl (upd tq (sn_tC f n (f 1) t) (nI (t + 1))))), (bt 2, .inl (cI, 10, .inl (upd lq (sn_tC f n (f 1) t) (nI (sn_bk f (sn_tE f n (f 1) t) (sn_wt (t + 1) (f 1)) - 1))))), (a 0, .inr (0, [.int (f 0), .int (f 1), .ref (a 1), .ref (a 2), .ref (a 3), .ref (a 4), .ref (a 5), .ref (a 6)])), (a 1, .inl (cI, 10, .inl (fun z_ => f (7 + 5 * z_)))), (a 2, .inl (cI, 10, .inl (fun z_ => f (8 + 5 * z_)))), (a 3, .inl (cI, 10, .inl (fun z_ => f (9 + 5 * z_)))), (a 4, .inl (cI, 10, .inl (fun z_ => f (10 + 5 * z_)))), (a 5, .inl (cZ, 10, .inl (fun z_ => f (11 + 5 * z_)))), (a 6, .inl (cI, 5, .inl (fun z_ => f (2 + z_))))]) H := hP
            have hD : va_D A ([(bt 0, .inr (1, [.int (nI (sn_tC f n (f 1) t)), .ref (bt 1), .ref (bt 2)])), (bt 1, .inl (cI, 10, .inl (upd tq (sn_tC f n (f 1) t) (nI (t + 1))))), (bt 2, .inl (cI, 10, .inl (upd lq (sn_tC f n (f 1) t) (nI (sn_bk f (sn_tE f n (f 1) t) (sn_wt (t + 1) (f 1)) - 1))))), (a 0, .inr (0, [.int (f 0), .int (f 1), .ref (a 1), .ref (a 2), .ref (a 3), .ref (a 4), .ref (a 5), .ref (a 6)])), (a 1, .inl (cI, 10, .inl (fun z_ => f (7 + 5 * z_)))), (a 2, .inl (cI, 10, .inl (fun z_ => f (8 + 5 * z_)))), (a 3, .inl (cI, 10, .inl (fun z_ => f (9 + 5 * z_)))), (a 4, .inl (cI, 10, .inl (fun z_ => f (10 + 5 * z_)))), (a 5, .inl (cZ, 10, .inl (fun z_ => f (11 + 5 * z_)))), (a 6, .inl (cI, 5, .inl (fun z_ => f (2 + z_))))]) := hD
            refine lv_aload_n hx hb dX2_run_70 rfl (lv_at hl 1 rfl) ?_
            refine lv_dup hx hb dX2_run_71 rfl ?_
            refine va_get (D := D) (ci := 1) (v := .int (nI (sn_tC f n (f 1) t))) (C := RX2) (T := TX2) (N := 3) hx hb hts huX2 hown hK hP 0 rfl rfl 0 (by decide) (hts (.fieldLink RX2 9 "SnowSlabs$TapTest" "breaks" "I") (by decide +kernel)) (fun _ h9 => h9) rfl dX2_run_72 ?_
            refine lv_iconst (v := 1) hx hb dX2_run_75 (by decide) ?_
            refine lv_iadd hx hb dX2_run_76 ?_
            refine sn_top (sn_nadd (a := sn_tC f n (f 1) t) (b := 1) rfl rfl) ?_
            refine va_put (D := D) (ci := 1) (v := .int (nI (sn_tC f n (f 1) t + 1))) (ty := .int) (C := RX2) (T := TX2) (N := 3) hx hb hts huX2 tyX2 tyX2_ok nmX2 hown hK hP hD hS 0 rfl rfl 0 (by decide) (hts (.fieldLink RX2 9 "SnowSlabs$TapTest" "breaks" "I") (by decide +kernel)) (fun _ h9 => h9) rfl (by decide +kernel) rfl rfl (Nat.le_of_ble_eq_true rfl) dX2_run_77 (fun H locs hP hD hS => ?_)
            have hP : va_P D vwCl ([(bt 0, .inr (1, [.int (nI (sn_tC f n (f 1) t + 1)), .ref (bt 1), .ref (bt 2)])), (bt 1, .inl (cI, 10, .inl (upd tq (sn_tC f n (f 1) t) (nI (t + 1))))), (bt 2, .inl (cI, 10, .inl (upd lq (sn_tC f n (f 1) t) (nI (sn_bk f (sn_tE f n (f 1) t) (sn_wt (t + 1) (f 1)) - 1))))), (a 0, .inr (0, [.int (f 0), .int (f 1), .ref (a 1), .ref (a 2), .ref (a 3), .ref (a 4), .ref (a 5), .ref (a 6)])), (a 1, .inl (cI, 10, .inl (fun z_ => f (7 + 5 * z_)))), (a 2, .inl (cI, 10, .inl (fun z_ => f (8 + 5 * z_)))), (a 3, .inl (cI, 10, .inl (fun z_ => f (9 + 5 * z_)))), (a 4, .inl (cI, 10, .inl (fun z_ => f (10 + 5 * z_)))), (a 5, .inl (cZ, 10, .inl (fun z_ => f (11 + 5 * z_)))), (a 6, .inl (cI, 5, .inl (fun z_ => f (2 + z_))))]) H := hP
            have hD : va_D A ([(bt 0, .inr (1, [.int (nI (sn_tC f n (f 1) t + 1)), .ref (bt 1), .ref (bt 2)])), (bt 1, .inl (cI, 10, .inl (upd tq (sn_tC f n (f 1) t) (nI (t + 1))))), (bt 2, .inl (cI, 10, .inl (upd lq (sn_tC f n (f 1) t) (nI (sn_bk f (sn_tE f n (f 1) t) (sn_wt (t + 1) (f 1)) - 1))))), (a 0, .inr (0, [.int (f 0), .int (f 1), .ref (a 1), .ref (a 2), .ref (a 3), .ref (a 4), .ref (a 5), .ref (a 6)])), (a 1, .inl (cI, 10, .inl (fun z_ => f (7 + 5 * z_)))), (a 2, .inl (cI, 10, .inl (fun z_ => f (8 + 5 * z_)))), (a 3, .inl (cI, 10, .inl (fun z_ => f (9 + 5 * z_)))), (a 4, .inl (cI, 10, .inl (fun z_ => f (10 + 5 * z_)))), (a 5, .inl (cZ, 10, .inl (fun z_ => f (11 + 5 * z_)))), (a 6, .inl (cI, 5, .inl (fun z_ => f (2 + z_))))]) := hD
            refine lv_iload hx hb dX2_run_80 (lv_at hl 0 rfl) ?_
            refine sn_top (y := nI (sn_bk f (sn_tE f n (f 1) t) (sn_wt (t + 1) (f 1)) - 1)) (sn_en_pos c_2) ?_
            refine lv_iconst (v := 1) hx hb dX2_run_82 (by decide) ?_
            refine lv_iadd hx hb dX2_run_83 ?_
            refine sn_top (sn_nadd (a := sn_bk f (sn_tE f n (f 1) t) (sn_wt (t + 1) (f 1)) - 1) (b := 1) rfl rfl) ?_
            refine sn_top (y := nI (sn_tE f n (f 1) (t + 1))) (congrArg nI (by rw [sn_tE_p c_2]; omega)) ?_
            refine lv_istore_n (lv' := [(2, .int (nI (sn_tE f n (f 1) (t + 1)))), (4, .int (sn_en (sn_bk f (sn_tE f n (f 1) t) (sn_wt (t + 1) (f 1))))), (0, .ref (bt 0)), (1, .ref (a 0)), (3, .int (nI (t + 1)))]) hx hb dX2_run_84 rfl hl (by decide) rfl (fun ls hl => ?_)
            refine lv_iinc (v := nI (t + 1 + 1)) (lv' := [(3, .int (nI (t + 1 + 1))), (2, .int (nI (sn_tE f n (f 1) (t + 1)))), (4, .int (sn_en (sn_bk f (sn_tE f n (f 1) t) (sn_wt (t + 1) (f 1))))), (0, .ref (bt 0)), (1, .ref (a 0))]) hx hb dX2_run_85 hl (k := 4) rfl (sn_inc _) (by decide) rfl (fun ls hl => ?_)
            refine lv_goto (tgt := 12) hx hb dX2_run_88 (by decide) ?_
            have hE : sn_eW ([(bt 0, .inr (1, [.int (nI (sn_tC f n (f 1) t + 1)), .ref (bt 1), .ref (bt 2)])), (bt 1, .inl (cI, 10, .inl (upd tq (sn_tC f n (f 1) t) (nI (t + 1))))), (bt 2, .inl (cI, 10, .inl (upd lq (sn_tC f n (f 1) t) (nI (sn_bk f (sn_tE f n (f 1) t) (sn_wt (t + 1) (f 1)) - 1))))), (a 0, .inr (0, [.int (f 0), .int (f 1), .ref (a 1), .ref (a 2), .ref (a 3), .ref (a 4), .ref (a 5), .ref (a 6)])), (a 1, .inl (cI, 10, .inl (fun z_ => f (7 + 5 * z_)))), (a 2, .inl (cI, 10, .inl (fun z_ => f (8 + 5 * z_)))), (a 3, .inl (cI, 10, .inl (fun z_ => f (9 + 5 * z_)))), (a 4, .inl (cI, 10, .inl (fun z_ => f (10 + 5 * z_)))), (a 5, .inl (cZ, 10, .inl (fun z_ => f (11 + 5 * z_)))), (a 6, .inl (cI, 5, .inl (fun z_ => f (2 + z_))))]) ([(bt 0, .inr (1, [.int (nI (sn_tC f n (f 1) (t + 1))), .ref (bt 1), .ref (bt 2)])), (bt 1, .inl (cI, 10, .inl (upd tq (sn_tC f n (f 1) t) (nI (t + 1))))), (bt 2, .inl (cI, 10, .inl (upd lq (sn_tC f n (f 1) t) (nI (sn_bk f (sn_tE f n (f 1) t) (sn_wt (t + 1) (f 1)) - 1))))), (a 0, .inr (0, [.int (f 0), .int (f 1), .ref (a 1), .ref (a 2), .ref (a 3), .ref (a 4), .ref (a 5), .ref (a 6)])), (a 1, .inl (cI, 10, .inl (fun z_ => f (7 + 5 * z_)))), (a 2, .inl (cI, 10, .inl (fun z_ => f (8 + 5 * z_)))), (a 3, .inl (cI, 10, .inl (fun z_ => f (9 + 5 * z_)))), (a 4, .inl (cI, 10, .inl (fun z_ => f (10 + 5 * z_)))), (a 5, .inl (cZ, 10, .inl (fun z_ => f (11 + 5 * z_)))), (a 6, .inl (cI, 5, .inl (fun z_ => f (2 + z_))))]) := sn_eC (sn_eO (by rw [sn_tC_p c_2])) (sn_eC (sn_eQ _) (sn_eC (sn_eQ _) (sn_eC (sn_eQ _) (sn_eC (sn_eQ _) (sn_eC (sn_eQ _) (sn_eC (sn_eQ _) (sn_eC (sn_eQ _) (sn_eC (sn_eQ _) (sn_eC (sn_eQ _) (sn_eN))))))))))
            exact ih_loop (t + 1) (upd tq (sn_tC f n (f 1) t) (nI (t + 1))) (upd lq (sn_tC f n (f 1) t) (nI (sn_bk f (sn_tE f n (f 1) t) (sn_wt (t + 1) (f 1)) - 1))) (by omega) (sn_tH_p hv c_2) (by omega) _ _ (hE.P hP) (hE.D hD) hS ls (lv_sub hl [3, 4, 1, 0] rfl)
  exact loop ((30 - 0) + 1) 0 tp ly (Nat.zero_le _) (sn_tH_0 f n (f 1) tp ly) (by omega) _ _ hP hD hS ls (lv_sub hl [2, 3, 1, 0] rfl)
set_option maxRecDepth 100000 in
set_option maxHeartbeats 4000000 in
theorem ct_X4_tapAll (l : Launch) (D : va_G) (cI cZ cR : ClassId) (a : Nat → Nat) (f g kp tp ly : Nat → Int32) (nb : Int32) (n : Nat) (hI : sn_I f n) (v : Int32) (nt : Nat) (hN : nt ≤ 30) (sz : Nat) : sn_Uv l yX4_tapAll wsX4_tapAll 4 0 0 [.ref (a 0), .int v, .int (nI nt)] D (sn_ty cI cZ cR) (sn_wM cI cZ a f g kp tp ly nb) sz (fun u_ : (Nat → Int32) × (Nat → Int32) => sn_tH f n v nt u_.1 u_.2) (fun u_ => sn_wM cI cZ a f g kp u_.1 u_.2 (nI (sn_tC f n v nt))) := by
  refine sn_uv (cc := cX4_tapAll) (maxL := 6) (ret := none) (by decide) rfl (Nat.le_of_ble_eq_true rfl) ?_
  intro p e s m below meth c A hx hb hml hr hlk hin hts hown hA hF0 hK hN H locs hP hD hS ls hl
  have hC : CallFix p m c cX4_tapAll 6 s [.ref (a 0), .int v, .int (nI nt)].toArray wsX4_tapAll RX4 := ⟨hx, hb, hml, hown, hts⟩
  have hl : lv_has ls 6 [(0, .ref (a 0)), (1, .int v), (2, .int (nI nt))] := hl
  have huX4 : ∀ w ∈ wsX40, w ∈ wsX4_tapAll := by decide +kernel
  have hn10 := hI.2.1
  refine lv_aload_n hx hb dX4_tapAll_0 rfl (lv_at hl 0 rfl) ?_
  refine lv_iconst (v := 0) hx hb dX4_tapAll_1 (by decide) ?_
  refine va_put (D := D) (ci := 3) (v := .int 0) (ty := .int) (C := RX4) (T := TX4) (N := 6) hx hb hts huX4 tyX4 tyX4_ok nmX4 hown hK hP hD hS 0 rfl rfl 5 (by decide) (hts (.fieldLink RX4 65 "SnowSlabsModel" "breaks" "I") (by decide +kernel)) (fun _ h9 => h9) rfl (by decide +kernel) rfl rfl (Nat.le_of_ble_eq_true rfl) dX4_tapAll_2 (fun H locs hP hD hS => ?_)
  have hP : va_P D vwCl ([(a 0, .inr (3, [.ref (a 1), .ref (a 2), .ref (a 3), .ref (a 4), .ref (a 5), .int 0])), (a 1, .inl (cI, 57, .inl f)), (a 2, .inl (cI, 114, .inl g)), (a 3, .inl (cZ, 2, .inl kp)), (a 4, .inl (cI, 30, .inl tp)), (a 5, .inl (cI, 30, .inl ly))]) H := hP
  have hD : va_D A ([(a 0, .inr (3, [.ref (a 1), .ref (a 2), .ref (a 3), .ref (a 4), .ref (a 5), .int 0])), (a 1, .inl (cI, 57, .inl f)), (a 2, .inl (cI, 114, .inl g)), (a 3, .inl (cZ, 2, .inl kp)), (a 4, .inl (cI, 30, .inl tp)), (a 5, .inl (cI, 30, .inl ly))]) := hD
  refine lv_aload_n hx hb dX4_tapAll_5 rfl (lv_at hl 0 rfl) ?_
  refine va_get (D := D) (ci := 3) (v := .ref (a 1)) (C := RX4) (T := TX4) (N := 6) hx hb hts huX4 hown hK hP 0 rfl rfl 0 (by decide) (hts (.fieldLink RX4 7 "SnowSlabsModel" "state" "[I") (by decide +kernel)) (fun _ h9 => h9) rfl dX4_tapAll_6 ?_
  refine lv_iconst (v := 0) hx hb dX4_tapAll_9 (by decide) ?_
  refine sn_ild (k := 0) (v := f 0) 1 0 hx hb hK hP rfl rfl (by omega) (by decide) rfl (rfl) dX4_tapAll_10 ?_
  refine sn_top (hI.1) ?_
  refine lv_istore_n (lv' := [(3, .int (nI n)), (0, .ref (a 0)), (1, .int v), (2, .int (nI nt))]) hx hb dX4_tapAll_11 rfl hl (by decide) rfl (fun ls hl => ?_)
  refine lv_iconst (v := 1) hx hb dX4_tapAll_12 (by decide) ?_
  refine lv_istore (lv' := [(4, .int 1), (3, .int (nI n)), (0, .ref (a 0)), (1, .int v), (2, .int (nI nt))]) hx hb dX4_tapAll_13 hl (by decide) rfl (fun ls hl => ?_)
  have loop : ∀ (fu : Nat) (t : Nat) (tq : Nat → Int32) (lq : Nat → Int32), (t ≤ nt) → (sn_tH f n v t tq lq) → nt - t < fu → ∀ (H : Heap) (locs : List Loc), va_P D vwCl ([(a 0, .inr (3, [.ref (a 1), .ref (a 2), .ref (a 3), .ref (a 4), .ref (a 5), .int (nI (sn_tC f n v t))])), (a 1, .inl (cI, 57, .inl f)), (a 2, .inl (cI, 114, .inl g)), (a 3, .inl (cZ, 2, .inl kp)), (a 4, .inl (cI, 30, .inl tq)), (a 5, .inl (cI, 30, .inl lq))]) H → va_D A ([(a 0, .inr (3, [.ref (a 1), .ref (a 2), .ref (a 3), .ref (a 4), .ref (a 5), .int (nI (sn_tC f n v t))])), (a 1, .inl (cI, 57, .inl f)), (a 2, .inl (cI, 114, .inl g)), (a 3, .inl (cZ, 2, .inl kp)), (a 4, .inl (cI, 30, .inl tq)), (a 5, .inl (cI, 30, .inl lq))]) → va_S A s.heap H locs → ∀ ls : Array Slot, lv_has ls 6 [(0, .ref (a 0)), (1, .int v), (2, .int (nI nt)), (3, .int (nI (sn_tE f n v t))), (4, .int (nI (t + 1)))] → W p l e (sn_rm 4 0 0) s m [.ref (a 0), .int v, .int (nI nt)].toArray below meth c H locs 0 0 (MQ below (va_Qv (fun u_ : (Nat → Int32) × (Nat → Int32) => sn_tH f n v nt u_.1 u_.2) (fun u_ t_ => va_P D vwCl (sn_wM cI cZ a f g kp u_.1 u_.2 (nI (sn_tC f n v nt))) t_.heap ∧ va_D A (sn_wM cI cZ a f g kp u_.1 u_.2 (nI (sn_tC f n v nt)))) A) [.ref (a 0), .int v, .int (nI nt)].toArray s 0 0 A) (F0 m 15 ls []) := by
    intro fu
    induction fu with
    | zero => intro t tq lq ht hv hm; exact absurd hm (Nat.not_lt_zero _)
    | succ fu ih_loop =>
      intro t tq lq ht hv hm H locs hP hD hS ls hl
      refine lv_iload hx hb dX4_tapAll_15 (lv_at hl 4 rfl) ?_
      refine lv_iload_n hx hb dX4_tapAll_17 rfl (lv_at hl 2 rfl) ?_
      refine lv_icmp_gt (tgt := 82) hx hb dX4_tapAll_18 (by decide) (fun c_1 => ?_) (fun c_1 => ?_)
      · have c_1 := (sn_cgtj (a := t + 1) (b := nt) rfl rfl (by omega) (by omega)).mp c_1
        have htN : t = nt := by omega
        subst htN
        exact sn_vret ((tq, lq)) hx hb hr hlk dX4_tapAll_82 hP hD hS (hv) (Nat.le_of_ble_eq_true rfl) (Nat.le_of_ble_eq_true rfl)
      · have c_1 := (sn_cgtf (a := t + 1) (b := nt) rfl rfl (by omega) (by omega)).mp c_1
        have hCE := sn_tCE f n v t
        refine lv_aload_n hx hb dX4_tapAll_21 rfl (lv_at hl 0 rfl) ?_
        refine lv_iload_n hx hb dX4_tapAll_22 rfl (lv_at hl 3 rfl) ?_
        refine lv_iload hx hb dX4_tapAll_23 (lv_at hl 4 rfl) ?_
        refine lv_iload_n hx hb dX4_tapAll_25 rfl (lv_at hl 1 rfl) ?_
        refine sn_cS 2 hC hl (ct_X4_weightOf l D _ [] (t + 1) (by omega) v) gX4_tapAll_X4_weightOf rfl (by decide +kernel) rfl ⟨Nat.le_of_ble_eq_true rfl, Nat.le_of_ble_eq_true rfl⟩ ⟨Nat.zero_le _, Nat.zero_le _⟩ (fun _ _ h => by simp at h) hK hN rfl (Nat.le_of_ble_eq_true rfl) dX4_tapAll_26 ?_
        refine sn_cV 2 0 hC hl (ct_X4_broken l D cI cZ cR a f g kp tq lq (nI (sn_tC f n v t)) n hI (sn_tE f n v t) (by first | exact hI.2.1 | omega) (sn_wt (t + 1) v)) gX4_tapAll_X4_broken rfl (by decide +kernel) rfl ⟨Nat.le_of_ble_eq_true rfl, Nat.le_of_ble_eq_true rfl⟩ ⟨Nat.zero_le _, Nat.zero_le _⟩ hP hK hN rfl rfl rfl (Nat.le_of_ble_eq_true rfl) dX4_tapAll_29 ?_
        refine lv_istore (lv' := [(5, .int (sn_en (sn_bk f (sn_tE f n v t) (sn_wt (t + 1) v)))), (0, .ref (a 0)), (1, .int v), (2, .int (nI nt)), (3, .int (nI (sn_tE f n v t))), (4, .int (nI (t + 1)))]) hx hb dX4_tapAll_32 hl (by decide) rfl (fun ls hl => ?_)
        have hbl := sn_bk_le f (sn_tE f n v t) (sn_wt (t + 1) v)
        refine lv_iload hx hb dX4_tapAll_34 (lv_at hl 0 rfl) ?_
        refine lv_if_lt (tgt := 76) hx hb dX4_tapAll_36 (by decide) (fun c_2 => ?_) (fun c_2 => ?_)
        · have c_2 : sn_bk f (sn_tE f n v t) (sn_wt (t + 1) v) = 0 := (sn_en_neg (by omega)).mp c_2
          refine lv_iinc (v := nI (t + 1 + 1)) (lv' := [(4, .int (nI (t + 1 + 1))), (5, .int (sn_en (sn_bk f (sn_tE f n v t) (sn_wt (t + 1) v)))), (0, .ref (a 0)), (1, .int v), (2, .int (nI nt)), (3, .int (nI (sn_tE f n v t)))]) hx hb dX4_tapAll_76 hl (k := 5) rfl (sn_inc _) (by decide) rfl (fun ls hl => ?_)
          refine lv_goto (tgt := 15) hx hb dX4_tapAll_79 (by decide) ?_
          have hte : sn_tE f n v t = sn_tE f n v (t + 1) := (sn_tE_z c_2).symm
          rw [hte] at hl
          have hE : sn_eW ([(a 0, .inr (3, [.ref (a 1), .ref (a 2), .ref (a 3), .ref (a 4), .ref (a 5), .int (nI (sn_tC f n v t))])), (a 1, .inl (cI, 57, .inl f)), (a 2, .inl (cI, 114, .inl g)), (a 3, .inl (cZ, 2, .inl kp)), (a 4, .inl (cI, 30, .inl tq)), (a 5, .inl (cI, 30, .inl lq))]) ([(a 0, .inr (3, [.ref (a 1), .ref (a 2), .ref (a 3), .ref (a 4), .ref (a 5), .int (nI (sn_tC f n v (t + 1)))])), (a 1, .inl (cI, 57, .inl f)), (a 2, .inl (cI, 114, .inl g)), (a 3, .inl (cZ, 2, .inl kp)), (a 4, .inl (cI, 30, .inl tq)), (a 5, .inl (cI, 30, .inl lq))]) := sn_eC (sn_eO (by rw [sn_tC_z c_2])) (sn_eC (sn_eQ _) (sn_eC (sn_eQ _) (sn_eC (sn_eQ _) (sn_eC (sn_eQ _) (sn_eC (sn_eQ _) (sn_eN))))))
          exact ih_loop (t + 1) tq lq (by omega) (sn_tH_z hv c_2) (by omega) _ _ (hE.P hP) (hE.D hD) hS ls (lv_sub hl [2, 3, 4, 5, 0] rfl)
        · have c_2 : ¬ sn_bk f (sn_tE f n v t) (sn_wt (t + 1) v) = 0 := fun z => c_2 ((sn_en_neg (by omega)).mpr z)
          refine lv_aload_n hx hb dX4_tapAll_39 rfl (lv_at hl 1 rfl) ?_
          refine va_get (D := D) (ci := 3) (v := .ref (a 4)) (C := RX4) (T := TX4) (N := 6) hx hb hts huX4 hown hK hP 0 rfl rfl 3 (by decide) (hts (.fieldLink RX4 20 "SnowSlabsModel" "breakTap" "[I") (by decide +kernel)) (fun _ h9 => h9) rfl dX4_tapAll_40 ?_
          refine lv_aload_n hx hb dX4_tapAll_43 rfl (lv_at hl 1 rfl) ?_
          refine va_get (D := D) (ci := 3) (v := .int (nI (sn_tC f n v t))) (C := RX4) (T := TX4) (N := 6) hx hb hts huX4 hown hK hP 0 rfl rfl 5 (by decide) (hts (.fieldLink RX4 65 "SnowSlabsModel" "breaks" "I") (by decide +kernel)) (fun _ h9 => h9) rfl dX4_tapAll_44 ?_
          refine lv_iload hx hb dX4_tapAll_47 (lv_at hl 5 rfl) ?_
          refine sn_ist (k := sn_tC f n v t) 4 0 hx hb hK hP hD hS rfl rfl (by omega) (by decide) rfl dX4_tapAll_49 (fun H locs hP hD hS => ?_)
          have hP : va_P D vwCl ([(a 0, .inr (3, [.ref (a 1), .ref (a 2), .ref (a 3), .ref (a 4), .ref (a 5), .int (nI (sn_tC f n v t))])), (a 1, .inl (cI, 57, .inl f)), (a 2, .inl (cI, 114, .inl g)), (a 3, .inl (cZ, 2, .inl kp)), (a 4, .inl (cI, 30, .inl (upd tq (sn_tC f n v t) (nI (t + 1))))), (a 5, .inl (cI, 30, .inl lq))]) H := hP
          have hD : va_D A ([(a 0, .inr (3, [.ref (a 1), .ref (a 2), .ref (a 3), .ref (a 4), .ref (a 5), .int (nI (sn_tC f n v t))])), (a 1, .inl (cI, 57, .inl f)), (a 2, .inl (cI, 114, .inl g)), (a 3, .inl (cZ, 2, .inl kp)), (a 4, .inl (cI, 30, .inl (upd tq (sn_tC f n v t) (nI (t + 1))))), (a 5, .inl (cI, 30, .inl lq))]) := hD
          refine lv_aload_n hx hb dX4_tapAll_50 rfl (lv_at hl 1 rfl) ?_
          refine va_get (D := D) (ci := 3) (v := .ref (a 5)) (C := RX4) (T := TX4) (N := 6) hx hb hts huX4 hown hK hP 0 rfl rfl 4 (by decide) (hts (.fieldLink RX4 23 "SnowSlabsModel" "breakLayer" "[I") (by decide +kernel)) (fun _ h9 => h9) rfl dX4_tapAll_51 ?_
          refine lv_aload_n hx hb dX4_tapAll_54 rfl (lv_at hl 1 rfl) ?_
          refine va_get (D := D) (ci := 3) (v := .int (nI (sn_tC f n v t))) (C := RX4) (T := TX4) (N := 6) hx hb hts huX4 hown hK hP 0 rfl rfl 5 (by decide) (hts (.fieldLink RX4 65 "SnowSlabsModel" "breaks" "I") (by decide +kernel)) (fun _ h9 => h9) rfl dX4_tapAll_55 ?_
          refine lv_iload hx hb dX4_tapAll_58 (lv_at hl 0 rfl) ?_
          refine sn_top (y := nI (sn_bk f (sn_tE f n v t) (sn_wt (t + 1) v) - 1)) (sn_en_pos c_2) ?_
          refine sn_ist (k := sn_tC f n v t) 5 0 hx hb hK hP hD hS rfl rfl (by omega) (by decide) rfl dX4_tapAll_60 (fun H locs hP hD hS => ?_)
          have hP : va_P D vwCl ([(a 0, .inr (3, [.ref (a 1), .ref (a 2), .ref (a 3), .ref (a 4), .ref (a 5), .int (nI (sn_tC f n v t))])), (a 1, .inl (cI, 57, .inl f)), (a 2, .inl (cI, 114, .inl g)), (a 3, .inl (cZ, 2, .inl kp)), (a 4, .inl (cI, 30, .inl (upd tq (sn_tC f n v t) (nI (t + 1))))), (a 5, .inl (cI, 30, .inl (upd lq (sn_tC f n v t) (nI (sn_bk f (sn_tE f n v t) (sn_wt (t + 1) v) - 1)))))]) H := hP
          have hD : va_D A ([(a 0, .inr (3, [.ref (a 1), .ref (a 2), .ref (a 3), .ref (a 4), .ref (a 5), .int (nI (sn_tC f n v t))])), (a 1, .inl (cI, 57, .inl f)), (a 2, .inl (cI, 114, .inl g)), (a 3, .inl (cZ, 2, .inl kp)), (a 4, .inl (cI, 30, .inl (upd tq (sn_tC f n v t) (nI (t + 1))))), (a 5, .inl (cI, 30, .inl (upd lq (sn_tC f n v t) (nI (sn_bk f (sn_tE f n v t) (sn_wt (t + 1) v) - 1)))))]) := hD
          refine lv_aload_n hx hb dX4_tapAll_61 rfl (lv_at hl 1 rfl) ?_
          refine lv_dup hx hb dX4_tapAll_62 rfl ?_
          refine va_get (D := D) (ci := 3) (v := .int (nI (sn_tC f n v t))) (C := RX4) (T := TX4) (N := 6) hx hb hts huX4 hown hK hP 0 rfl rfl 5 (by decide) (hts (.fieldLink RX4 65 "SnowSlabsModel" "breaks" "I") (by decide +kernel)) (fun _ h9 => h9) rfl dX4_tapAll_63 ?_
          refine lv_iconst (v := 1) hx hb dX4_tapAll_66 (by decide) ?_
          refine lv_iadd hx hb dX4_tapAll_67 ?_
          refine sn_top (sn_nadd (a := sn_tC f n v t) (b := 1) rfl rfl) ?_
          refine va_put (D := D) (ci := 3) (v := .int (nI (sn_tC f n v t + 1))) (ty := .int) (C := RX4) (T := TX4) (N := 6) hx hb hts huX4 tyX4 tyX4_ok nmX4 hown hK hP hD hS 0 rfl rfl 5 (by decide) (hts (.fieldLink RX4 65 "SnowSlabsModel" "breaks" "I") (by decide +kernel)) (fun _ h9 => h9) rfl (by decide +kernel) rfl rfl (Nat.le_of_ble_eq_true rfl) dX4_tapAll_68 (fun H locs hP hD hS => ?_)
          have hP : va_P D vwCl ([(a 0, .inr (3, [.ref (a 1), .ref (a 2), .ref (a 3), .ref (a 4), .ref (a 5), .int (nI (sn_tC f n v t + 1))])), (a 1, .inl (cI, 57, .inl f)), (a 2, .inl (cI, 114, .inl g)), (a 3, .inl (cZ, 2, .inl kp)), (a 4, .inl (cI, 30, .inl (upd tq (sn_tC f n v t) (nI (t + 1))))), (a 5, .inl (cI, 30, .inl (upd lq (sn_tC f n v t) (nI (sn_bk f (sn_tE f n v t) (sn_wt (t + 1) v) - 1)))))]) H := hP
          have hD : va_D A ([(a 0, .inr (3, [.ref (a 1), .ref (a 2), .ref (a 3), .ref (a 4), .ref (a 5), .int (nI (sn_tC f n v t + 1))])), (a 1, .inl (cI, 57, .inl f)), (a 2, .inl (cI, 114, .inl g)), (a 3, .inl (cZ, 2, .inl kp)), (a 4, .inl (cI, 30, .inl (upd tq (sn_tC f n v t) (nI (t + 1))))), (a 5, .inl (cI, 30, .inl (upd lq (sn_tC f n v t) (nI (sn_bk f (sn_tE f n v t) (sn_wt (t + 1) v) - 1)))))]) := hD
          refine lv_iload hx hb dX4_tapAll_71 (lv_at hl 0 rfl) ?_
          refine sn_top (y := nI (sn_bk f (sn_tE f n v t) (sn_wt (t + 1) v) - 1)) (sn_en_pos c_2) ?_
          refine lv_iconst (v := 1) hx hb dX4_tapAll_73 (by decide) ?_
          refine lv_iadd hx hb dX4_tapAll_74 ?_
          refine sn_top (sn_nadd (a := sn_bk f (sn_tE f n v t) (sn_wt (t + 1) v) - 1) (b := 1) rfl rfl) ?_
          refine sn_top (y := nI (sn_tE f n v (t + 1))) (congrArg nI (by rw [sn_tE_p c_2]; omega)) ?_
          refine lv_istore_n (lv' := [(3, .int (nI (sn_tE f n v (t + 1)))), (5, .int (sn_en (sn_bk f (sn_tE f n v t) (sn_wt (t + 1) v)))), (0, .ref (a 0)), (1, .int v), (2, .int (nI nt)), (4, .int (nI (t + 1)))]) hx hb dX4_tapAll_75 rfl hl (by decide) rfl (fun ls hl => ?_)
          refine lv_iinc (v := nI (t + 1 + 1)) (lv' := [(4, .int (nI (t + 1 + 1))), (3, .int (nI (sn_tE f n v (t + 1)))), (5, .int (sn_en (sn_bk f (sn_tE f n v t) (sn_wt (t + 1) v)))), (0, .ref (a 0)), (1, .int v), (2, .int (nI nt))]) hx hb dX4_tapAll_76 hl (k := 5) rfl (sn_inc _) (by decide) rfl (fun ls hl => ?_)
          refine lv_goto (tgt := 15) hx hb dX4_tapAll_79 (by decide) ?_
          have hE : sn_eW ([(a 0, .inr (3, [.ref (a 1), .ref (a 2), .ref (a 3), .ref (a 4), .ref (a 5), .int (nI (sn_tC f n v t + 1))])), (a 1, .inl (cI, 57, .inl f)), (a 2, .inl (cI, 114, .inl g)), (a 3, .inl (cZ, 2, .inl kp)), (a 4, .inl (cI, 30, .inl (upd tq (sn_tC f n v t) (nI (t + 1))))), (a 5, .inl (cI, 30, .inl (upd lq (sn_tC f n v t) (nI (sn_bk f (sn_tE f n v t) (sn_wt (t + 1) v) - 1)))))]) ([(a 0, .inr (3, [.ref (a 1), .ref (a 2), .ref (a 3), .ref (a 4), .ref (a 5), .int (nI (sn_tC f n v (t + 1)))])), (a 1, .inl (cI, 57, .inl f)), (a 2, .inl (cI, 114, .inl g)), (a 3, .inl (cZ, 2, .inl kp)), (a 4, .inl (cI, 30, .inl (upd tq (sn_tC f n v t) (nI (t + 1))))), (a 5, .inl (cI, 30, .inl (upd lq (sn_tC f n v t) (nI (sn_bk f (sn_tE f n v t) (sn_wt (t + 1) v) - 1)))))]) := sn_eC (sn_eO (by rw [sn_tC_p c_2])) (sn_eC (sn_eQ _) (sn_eC (sn_eQ _) (sn_eC (sn_eQ _) (sn_eC (sn_eQ _) (sn_eC (sn_eQ _) (sn_eN))))))
          exact ih_loop (t + 1) (upd tq (sn_tC f n v t) (nI (t + 1))) (upd lq (sn_tC f n v t) (nI (sn_bk f (sn_tE f n v t) (sn_wt (t + 1) v) - 1))) (by omega) (sn_tH_p hv c_2) (by omega) _ _ (hE.P hP) (hE.D hD) hS ls (lv_sub hl [3, 4, 5, 1, 0] rfl)
  exact loop ((nt - 0) + 1) 0 tp ly (Nat.zero_le _) (sn_tH_0 f n v tp ly) (by omega) _ _ hP hD hS ls (lv_sub hl [2, 3, 4, 1, 0] rfl)
