set_option maxRecDepth 100000 in
set_option maxHeartbeats 4000000 in
theorem ct_X4_at (l : Launch) (D : va_G) (tys : List (ClassId × FieldType)) (w : va_W) (i k : Nat) : sn_Rd l yX4_at wsX4_at 0 [.int (nI i), .int (nI k)] D tys (w) (nI (7 + 5 * i + k)) := by
  refine sn_rd (cc := cX4_at) (maxL := 2) (ret := (some .int)) (by decide) rfl (Nat.le_of_ble_eq_true rfl) ?_
  intro p e s m below meth c hx hb hml hr hlk hts hown hP hK hN ls hl
  have hC : CallFix p m c cX4_at 2 s [.int (nI i), .int (nI k)].toArray wsX4_at RX4 := ⟨hx, hb, hml, hown, hts⟩
  have hl : lv_has ls 2 [(0, .int (nI i)), (1, .int (nI k))] := hl
  refine lv_bipush (v := 7) hx hb dX4_at_0 (by decide) ?_
  refine lv_iconst (v := 5) hx hb dX4_at_2 (by decide) ?_
  refine lv_iload_n hx hb dX4_at_3 rfl (lv_at hl 0 rfl) ?_
  refine lv_imul hx hb dX4_at_4 ?_
  refine sn_top (sn_nmul (a := 5) (b := i) rfl rfl) ?_
  refine lv_iadd hx hb dX4_at_5 ?_
  refine sn_top (sn_nadd (a := 7) (b := 5 * i) rfl rfl) ?_
  refine lv_iload_n hx hb dX4_at_6 rfl (lv_at hl 1 rfl) ?_
  refine lv_iadd hx hb dX4_at_7 ?_
  refine sn_top (sn_nadd (a := 7 + (5 * i)) (b := k) rfl rfl) ?_
  exact sn_ret hx hb hr hlk dX4_at_8 (rfl)
set_option maxRecDepth 100000 in
set_option maxHeartbeats 4000000 in
theorem ct_X4_isLayer (l : Launch) (D : va_G) (cI cZ cR : ClassId) (a : Nat → Nat) (f g kp tp ly : Nat → Int32) (nb : Int32) (n : Nat) (hI : sn_I f n) (x : Int32) : sn_Rd l yX4_isLayer wsX4_isLayer 1 [.ref (a 0), .int x] D (sn_ty cI cZ cR) (sn_wM cI cZ a f g kp tp ly nb) (sn_b (0 ≤ x ∧ x ≤ nI n - 1)) := by
  refine sn_rd (cc := cX4_isLayer) (maxL := 2) (ret := (some .boolean)) (by decide) rfl (Nat.le_of_ble_eq_true rfl) ?_
  intro p e s m below meth c hx hb hml hr hlk hts hown hP hK hN ls hl
  have hC : CallFix p m c cX4_isLayer 2 s [.ref (a 0), .int x].toArray wsX4_isLayer RX4 := ⟨hx, hb, hml, hown, hts⟩
  have hl : lv_has ls 2 [(0, .ref (a 0)), (1, .int x)] := hl
  have huX4 : ∀ w ∈ wsX40, w ∈ wsX4_isLayer := by decide +kernel
  refine lv_iload_n hx hb dX4_isLayer_0 rfl (lv_at hl 1 rfl) ?_
  refine lv_iconst (v := 0) hx hb dX4_isLayer_1 (by decide) ?_
  refine lv_aload_n hx hb dX4_isLayer_2 rfl (lv_at hl 0 rfl) ?_
  refine va_get (D := D) (ci := 3) (v := .ref (a 1)) (C := RX4) (T := TX4) (N := 6) hx hb hts huX4 hown hK hP 0 rfl rfl 0 (by decide) (hts (.fieldLink RX4 7 "SnowSlabsModel" "state" "[I") (by decide +kernel)) (fun _ h9 => h9) rfl dX4_isLayer_3 ?_
  refine lv_iconst (v := 0) hx hb dX4_isLayer_6 (by decide) ?_
  refine sn_ild (k := 0) (v := f 0) 1 0 hx hb hK hP rfl rfl (by omega) (by decide) rfl (rfl) dX4_isLayer_7 ?_
  refine sn_top (hI.1) ?_
  refine lv_iconst (v := 1) hx hb dX4_isLayer_8 (by decide) ?_
  refine lv_isub hx hb dX4_isLayer_9 ?_
  refine sn_cS 3 hC hl (ct_X4_in l D _ [] x 0 ((nI n) - 1)) gX4_isLayer_X4_in rfl (by decide +kernel) rfl ⟨Nat.le_of_ble_eq_true rfl, Nat.le_of_ble_eq_true rfl⟩ ⟨Nat.zero_le _, Nat.zero_le _⟩ (fun _ _ h => by simp at h) hK hN rfl (Nat.le_of_ble_eq_true rfl) dX4_isLayer_10 ?_
  exact sn_zret hx hb hr hlk dX4_isLayer_13 (sn_b_01 _) (rfl)
set_option maxRecDepth 100000 in
set_option maxHeartbeats 4000000 in
theorem ct_X4_top (l : Launch) (D : va_G) (cI cZ cR : ClassId) (a : Nat → Nat) (f g kp tp ly : Nat → Int32) (nb : Int32) (n : Nat) (hn : f 0 = nI n) : sn_Rd l yX4_top wsX4_top 0 [.ref (a 0)] D (sn_ty cI cZ cR) (sn_wM cI cZ a f g kp tp ly nb) (nI n - 1) := by
  refine sn_rd (cc := cX4_top) (maxL := 1) (ret := (some .int)) (by decide) rfl (Nat.le_of_ble_eq_true rfl) ?_
  intro p e s m below meth c hx hb hml hr hlk hts hown hP hK hN ls hl
  have hC : CallFix p m c cX4_top 1 s [.ref (a 0)].toArray wsX4_top RX4 := ⟨hx, hb, hml, hown, hts⟩
  have hl : lv_has ls 1 [(0, .ref (a 0))] := hl
  have huX4 : ∀ w ∈ wsX40, w ∈ wsX4_top := by decide +kernel
  refine lv_aload_n hx hb dX4_top_0 rfl (lv_at hl 0 rfl) ?_
  refine va_get (D := D) (ci := 3) (v := .ref (a 1)) (C := RX4) (T := TX4) (N := 6) hx hb hts huX4 hown hK hP 0 rfl rfl 0 (by decide) (hts (.fieldLink RX4 7 "SnowSlabsModel" "state" "[I") (by decide +kernel)) (fun _ h9 => h9) rfl dX4_top_1 ?_
  refine lv_iconst (v := 0) hx hb dX4_top_4 (by decide) ?_
  refine sn_ild (k := 0) (v := f 0) 1 0 hx hb hK hP rfl rfl (by omega) (by decide) rfl (rfl) dX4_top_5 ?_
  refine sn_top (hn) ?_
  refine lv_iconst (v := 1) hx hb dX4_top_6 (by decide) ?_
  refine lv_isub hx hb dX4_top_7 ?_
  exact sn_ret hx hb hr hlk dX4_top_8 (rfl)
set_option maxRecDepth 100000 in
set_option maxHeartbeats 4000000 in
theorem ct_X4_strength (l : Launch) (D : va_G) (cI cZ cR : ClassId) (a : Nat → Nat) (f g kp tp ly : Nat → Int32) (nb : Int32) (n : Nat) (hI : sn_I f n) (i : Nat) (hi : i < 10) : sn_Rd l yX4_strength wsX4_strength 1 [.ref (a 0), .int (nI i)] D (sn_ty cI cZ cR) (sn_wM cI cZ a f g kp tp ly nb) (sn_str f i) := by
  refine sn_rd (cc := cX4_strength) (maxL := 3) (ret := (some .int)) (by decide) rfl (Nat.le_of_ble_eq_true rfl) ?_
  intro p e s m below meth c hx hb hml hr hlk hts hown hP hK hN ls hl
  have hC : CallFix p m c cX4_strength 3 s [.ref (a 0), .int (nI i)].toArray wsX4_strength RX4 := ⟨hx, hb, hml, hown, hts⟩
  have hl : lv_has ls 3 [(0, .ref (a 0)), (1, .int (nI i))] := hl
  have huX4 : ∀ w ∈ wsX40, w ∈ wsX4_strength := by decide +kernel
  refine lv_aload_n hx hb dX4_strength_0 rfl (lv_at hl 0 rfl) ?_
  refine va_get (D := D) (ci := 3) (v := .ref (a 1)) (C := RX4) (T := TX4) (N := 6) hx hb hts huX4 hown hK hP 0 rfl rfl 0 (by decide) (hts (.fieldLink RX4 7 "SnowSlabsModel" "state" "[I") (by decide +kernel)) (fun _ h9 => h9) rfl dX4_strength_1 ?_
  refine lv_iconst (v := 2) hx hb dX4_strength_4 (by decide) ?_
  refine lv_aload_n hx hb dX4_strength_5 rfl (lv_at hl 0 rfl) ?_
  refine va_get (D := D) (ci := 3) (v := .ref (a 1)) (C := RX4) (T := TX4) (N := 6) hx hb hts huX4 hown hK hP 0 rfl rfl 0 (by decide) (hts (.fieldLink RX4 7 "SnowSlabsModel" "state" "[I") (by decide +kernel)) (fun _ h9 => h9) rfl dX4_strength_6 ?_
  refine lv_iload_n hx hb dX4_strength_9 rfl (lv_at hl 1 rfl) ?_
  refine lv_iconst (v := 2) hx hb dX4_strength_10 (by decide) ?_
  refine sn_cS 2 hC hl (ct_X4_at l D _ [] i 2) gX4_strength_X4_at rfl (by decide +kernel) rfl ⟨Nat.le_of_ble_eq_true rfl, Nat.le_of_ble_eq_true rfl⟩ ⟨Nat.zero_le _, Nat.zero_le _⟩ (fun _ _ h => by simp at h) hK hN rfl (Nat.le_of_ble_eq_true rfl) dX4_strength_11 ?_
  refine sn_top (y := nI (9 + 5 * i)) (congrArg nI (show _ = 9 + 5 * i by omega)) ?_
  refine sn_ild (k := 9 + 5 * i) (v := f (9 + 5 * i)) 1 0 hx hb hK hP rfl rfl (by omega) (by decide) rfl (rfl) dX4_strength_14 ?_
  refine lv_iadd hx hb dX4_strength_15 ?_
  refine va_iald hx hb hK hP 1 0 rfl rfl (sn_2in (hI.2.2.2 i hi).2.2.1) dX4_strength_16 ?_
  refine sn_top (y := f (2 + (f (9 + 5 * i)).toNatClampNeg)) (congrArg f (sn_2cl (hI.2.2.2 i hi).2.2.1)) ?_
  refine lv_aload_n hx hb dX4_strength_17 rfl (lv_at hl 0 rfl) ?_
  refine va_get (D := D) (ci := 3) (v := .ref (a 1)) (C := RX4) (T := TX4) (N := 6) hx hb hts huX4 hown hK hP 0 rfl rfl 0 (by decide) (hts (.fieldLink RX4 7 "SnowSlabsModel" "state" "[I") (by decide +kernel)) (fun _ h9 => h9) rfl dX4_strength_18 ?_
  refine lv_iload_n hx hb dX4_strength_21 rfl (lv_at hl 1 rfl) ?_
  refine lv_iconst (v := 3) hx hb dX4_strength_22 (by decide) ?_
  refine sn_cS 2 hC hl (ct_X4_at l D _ [] i 3) gX4_strength_X4_at rfl (by decide +kernel) rfl ⟨Nat.le_of_ble_eq_true rfl, Nat.le_of_ble_eq_true rfl⟩ ⟨Nat.zero_le _, Nat.zero_le _⟩ (fun _ _ h => by simp at h) hK hN rfl (Nat.le_of_ble_eq_true rfl) dX4_strength_23 ?_
  refine sn_top (y := nI (10 + 5 * i)) (congrArg nI (show _ = 10 + 5 * i by omega)) ?_
  refine sn_ild (k := 10 + 5 * i) (v := f (10 + 5 * i)) 1 0 hx hb hK hP rfl rfl (by omega) (by decide) rfl (rfl) dX4_strength_26 ?_
  refine lv_imul hx hb dX4_strength_27 ?_
  refine lv_aload_n hx hb dX4_strength_28 rfl (lv_at hl 0 rfl) ?_
  refine va_get (D := D) (ci := 3) (v := .ref (a 1)) (C := RX4) (T := TX4) (N := 6) hx hb hts huX4 hown hK hP 0 rfl rfl 0 (by decide) (hts (.fieldLink RX4 7 "SnowSlabsModel" "state" "[I") (by decide +kernel)) (fun _ h9 => h9) rfl dX4_strength_29 ?_
  refine lv_iload_n hx hb dX4_strength_32 rfl (lv_at hl 1 rfl) ?_
  refine lv_iconst (v := 1) hx hb dX4_strength_33 (by decide) ?_
  refine sn_cS 2 hC hl (ct_X4_at l D _ [] i 1) gX4_strength_X4_at rfl (by decide +kernel) rfl ⟨Nat.le_of_ble_eq_true rfl, Nat.le_of_ble_eq_true rfl⟩ ⟨Nat.zero_le _, Nat.zero_le _⟩ (fun _ _ h => by simp at h) hK hN rfl (Nat.le_of_ble_eq_true rfl) dX4_strength_34 ?_
  refine sn_top (y := nI (8 + 5 * i)) (congrArg nI (show _ = 8 + 5 * i by omega)) ?_
  refine sn_ild (k := 8 + 5 * i) (v := f (8 + 5 * i)) 1 0 hx hb hK hP rfl rfl (by omega) (by decide) rfl (rfl) dX4_strength_37 ?_
  refine lv_imul hx hb dX4_strength_38 ?_
  refine lv_bipush (v := 100) hx hb dX4_strength_39 (by decide) ?_
  refine lv_idiv hx hb dX4_strength_41 (by decide) ?_
  refine lv_istore_n (lv' := [(2, .int ((((f (2 + (f (9 + 5 * i)).toNatClampNeg)) * (f (10 + 5 * i))) * (f (8 + 5 * i))) / 100)), (0, .ref (a 0)), (1, .int (nI i))]) hx hb dX4_strength_42 rfl hl (by decide) rfl (fun ls hl => ?_)
  refine lv_aload_n hx hb dX4_strength_43 rfl (lv_at hl 1 rfl) ?_
  refine va_get (D := D) (ci := 3) (v := .ref (a 1)) (C := RX4) (T := TX4) (N := 6) hx hb hts huX4 hown hK hP 0 rfl rfl 0 (by decide) (hts (.fieldLink RX4 7 "SnowSlabsModel" "state" "[I") (by decide +kernel)) (fun _ h9 => h9) rfl dX4_strength_44 ?_
  refine lv_iload_n hx hb dX4_strength_47 rfl (lv_at hl 2 rfl) ?_
  refine lv_iconst (v := 4) hx hb dX4_strength_48 (by decide) ?_
  refine sn_cS 2 hC hl (ct_X4_at l D _ [] i 4) gX4_strength_X4_at rfl (by decide +kernel) rfl ⟨Nat.le_of_ble_eq_true rfl, Nat.le_of_ble_eq_true rfl⟩ ⟨Nat.zero_le _, Nat.zero_le _⟩ (fun _ _ h => by simp at h) hK hN rfl (Nat.le_of_ble_eq_true rfl) dX4_strength_49 ?_
  refine sn_top (y := nI (11 + 5 * i)) (congrArg nI (show _ = 11 + 5 * i by omega)) ?_
  refine sn_ild (k := 11 + 5 * i) (v := f (11 + 5 * i)) 1 0 hx hb hK hP rfl rfl (by omega) (by decide) rfl (rfl) dX4_strength_52 ?_
  refine lv_iconst (v := 1) hx hb dX4_strength_53 (by decide) ?_
  refine lv_icmp_ne (tgt := 63) hx hb dX4_strength_54 (by decide) (fun c_1 => ?_) (fun c_1 => ?_)
  · refine lv_iload_n hx hb dX4_strength_63 rfl (lv_at hl 0 rfl) ?_
    exact sn_ret hx hb hr hlk dX4_strength_64 ((if_pos ((hI.2.2.2 i hi).2.2.2.2.resolve_right c_1)).symm)
  · refine lv_iload_n hx hb dX4_strength_57 rfl (lv_at hl 0 rfl) ?_
    refine lv_iconst (v := 2) hx hb dX4_strength_58 (by decide) ?_
    refine lv_idiv hx hb dX4_strength_59 (by decide) ?_
    refine lv_goto (tgt := 64) hx hb dX4_strength_60 (by decide) ?_
    exact sn_ret hx hb hr hlk dX4_strength_64 ((if_neg (by rw [c_1]; decide)).symm)
set_option maxRecDepth 100000 in
set_option maxHeartbeats 4000000 in
theorem ct_X4_depth (l : Launch) (D : va_G) (cI cZ cR : ClassId) (a : Nat → Nat) (f g kp tp ly : Nat → Int32) (nb : Int32) (x : Int32) (i b : Nat) (hx1 : x + 1 = nI i) (hib : i ≤ b) (hb10 : b ≤ 10) : sn_Rd l yX4_depth wsX4_depth 1 [.ref (a 0), .int x, .int (nI b)] D (sn_ty cI cZ cR) (sn_wM cI cZ a f g kp tp ly nb) (sn_dep f i b) := by
  refine sn_rd (cc := cX4_depth) (maxL := 5) (ret := (some .int)) (by decide) rfl (Nat.le_of_ble_eq_true rfl) ?_
  intro p e s m below meth c hx hb hml hr hlk hts hown hP hK hN ls hl
  have hC : CallFix p m c cX4_depth 5 s [.ref (a 0), .int x, .int (nI b)].toArray wsX4_depth RX4 := ⟨hx, hb, hml, hown, hts⟩
  have hl : lv_has ls 5 [(0, .ref (a 0)), (1, .int x), (2, .int (nI b))] := hl
  have huX4 : ∀ w ∈ wsX40, w ∈ wsX4_depth := by decide +kernel
  refine lv_iconst (v := 0) hx hb dX4_depth_0 (by decide) ?_
  refine sn_top (y := sn_dep f i i) ((sn_dep_self f i).symm) ?_
  refine lv_istore_n (lv' := [(3, .int (sn_dep f i i)), (0, .ref (a 0)), (1, .int x), (2, .int (nI b))]) hx hb dX4_depth_1 rfl hl (by decide) rfl (fun ls hl => ?_)
  refine lv_iload_n hx hb dX4_depth_2 rfl (lv_at hl 2 rfl) ?_
  refine lv_iconst (v := 1) hx hb dX4_depth_3 (by decide) ?_
  refine lv_iadd hx hb dX4_depth_4 ?_
  refine sn_top (y := nI i) (hx1) ?_
  refine lv_istore (lv' := [(4, .int (nI i)), (3, .int (sn_dep f i i)), (0, .ref (a 0)), (1, .int x), (2, .int (nI b))]) hx hb dX4_depth_5 hl (by decide) rfl (fun ls hl => ?_)
  have loop : ∀ (fu : Nat) (k : Nat), (i ≤ k) → (k ≤ b) → b - k < fu → ∀ ls : Array Slot, lv_has ls 5 [(0, .ref (a 0)), (1, .int x), (2, .int (nI b)), (3, .int (sn_dep f i k)), (4, .int (nI k))] → W p l e (sn_rm 1 0 0) s m [.ref (a 0), .int x, .int (nI b)].toArray below meth c s.heap [] 0 0 (MQ below (vp_Si (fun r_ => r_ = (sn_dep f i b))) [.ref (a 0), .int x, .int (nI b)].toArray s 0 0 (fun _ => False)) (F0 m 7 ls []) := by
    intro fu
    induction fu with
    | zero => intro k h1 h2 hm; exact absurd hm (Nat.not_lt_zero _)
    | succ fu ih_loop =>
      intro k h1 h2 hm ls hl
      refine lv_iload hx hb dX4_depth_7 (lv_at hl 4 rfl) ?_
      refine lv_iload_n hx hb dX4_depth_9 rfl (lv_at hl 2 rfl) ?_
      refine lv_icmp_ge (tgt := 33) hx hb dX4_depth_10 (by decide) (fun c_1 => ?_) (fun c_1 => ?_)
      · have c_1 := (sn_cgej (a := k) (b := b) rfl rfl (by omega) (by omega)).mp c_1
        refine lv_iload_n hx hb dX4_depth_33 rfl (lv_at hl 3 rfl) ?_
        exact sn_ret hx hb hr hlk dX4_depth_34 (by rw [show k = b by omega])
      · have c_1 := (sn_cgef (a := k) (b := b) rfl rfl (by omega) (by omega)).mp c_1
        refine lv_iload_n hx hb dX4_depth_13 rfl (lv_at hl 3 rfl) ?_
        refine lv_aload_n hx hb dX4_depth_14 rfl (lv_at hl 0 rfl) ?_
        refine va_get (D := D) (ci := 3) (v := .ref (a 1)) (C := RX4) (T := TX4) (N := 6) hx hb hts huX4 hown hK hP 0 rfl rfl 0 (by decide) (hts (.fieldLink RX4 7 "SnowSlabsModel" "state" "[I") (by decide +kernel)) (fun _ h9 => h9) rfl dX4_depth_15 ?_
        refine lv_iload hx hb dX4_depth_18 (lv_at hl 4 rfl) ?_
        refine lv_iconst (v := 0) hx hb dX4_depth_20 (by decide) ?_
        refine sn_cS 2 hC hl (ct_X4_at l D _ [] k 0) gX4_depth_X4_at rfl (by decide +kernel) rfl ⟨Nat.le_of_ble_eq_true rfl, Nat.le_of_ble_eq_true rfl⟩ ⟨Nat.zero_le _, Nat.zero_le _⟩ (fun _ _ h => by simp at h) hK hN rfl (Nat.le_of_ble_eq_true rfl) dX4_depth_21 ?_
        refine sn_top (y := nI (7 + 5 * k)) (congrArg nI (show _ = 7 + 5 * k by omega)) ?_
        refine sn_ild (k := 7 + 5 * k) (v := f (7 + 5 * k)) 1 0 hx hb hK hP rfl rfl (by omega) (by decide) rfl (rfl) dX4_depth_24 ?_
        refine lv_iadd hx hb dX4_depth_25 ?_
        refine sn_top (y := sn_dep f i (k + 1)) (sn_dep_s h1) ?_
        refine lv_istore_n (lv' := [(3, .int (sn_dep f i (k + 1))), (0, .ref (a 0)), (1, .int x), (2, .int (nI b)), (4, .int (nI k))]) hx hb dX4_depth_26 rfl hl (by decide) rfl (fun ls hl => ?_)
        refine lv_iinc (v := nI (k + 1)) (lv' := [(4, .int (nI (k + 1))), (3, .int (sn_dep f i (k + 1))), (0, .ref (a 0)), (1, .int x), (2, .int (nI b))]) hx hb dX4_depth_27 hl (k := 4) rfl (sn_inc _) (by decide) rfl (fun ls hl => ?_)
        refine lv_goto (tgt := 7) hx hb dX4_depth_30 (by decide) ?_
        exact ih_loop (k + 1) (by omega) (by omega) (by omega) ls (lv_sub hl [2, 3, 4, 1, 0] rfl)
  exact loop ((b - i) + 1) i (Nat.le_refl _) hib (by omega) ls (lv_sub hl [2, 3, 4, 1, 0] rfl)
set_option maxRecDepth 100000 in
set_option maxHeartbeats 4000000 in
theorem ct_X4_load (l : Launch) (D : va_G) (cI cZ cR : ClassId) (a : Nat → Nat) (f g kp tp ly : Nat → Int32) (nb : Int32) (i b : Nat) (hib : i + 1 ≤ b) (hb10 : b ≤ 10) : sn_Rd l yX4_load wsX4_load 1 [.ref (a 0), .int (nI i), .int (nI b)] D (sn_ty cI cZ cR) (sn_wM cI cZ a f g kp tp ly nb) (sn_lod f i b) := by
  refine sn_rd (cc := cX4_load) (maxL := 5) (ret := (some .int)) (by decide) rfl (Nat.le_of_ble_eq_true rfl) ?_
  intro p e s m below meth c hx hb hml hr hlk hts hown hP hK hN ls hl
  have hC : CallFix p m c cX4_load 5 s [.ref (a 0), .int (nI i), .int (nI b)].toArray wsX4_load RX4 := ⟨hx, hb, hml, hown, hts⟩
  have hl : lv_has ls 5 [(0, .ref (a 0)), (1, .int (nI i)), (2, .int (nI b))] := hl
  have huX4 : ∀ w ∈ wsX40, w ∈ wsX4_load := by decide +kernel
  refine lv_iconst (v := 0) hx hb dX4_load_0 (by decide) ?_
  refine sn_top (y := sn_mas f (i + 1) (i + 1)) ((sn_mas_self f (i + 1)).symm) ?_
  refine lv_istore_n (lv' := [(3, .int (sn_mas f (i + 1) (i + 1))), (0, .ref (a 0)), (1, .int (nI i)), (2, .int (nI b))]) hx hb dX4_load_1 rfl hl (by decide) rfl (fun ls hl => ?_)
  refine lv_iload_n hx hb dX4_load_2 rfl (lv_at hl 2 rfl) ?_
  refine lv_iconst (v := 1) hx hb dX4_load_3 (by decide) ?_
  refine lv_iadd hx hb dX4_load_4 ?_
  refine sn_top (sn_nadd (a := i) (b := 1) rfl rfl) ?_
  refine lv_istore (lv' := [(4, .int (nI (i + 1))), (3, .int (sn_mas f (i + 1) (i + 1))), (0, .ref (a 0)), (1, .int (nI i)), (2, .int (nI b))]) hx hb dX4_load_5 hl (by decide) rfl (fun ls hl => ?_)
  have loop : ∀ (fu : Nat) (k : Nat), (i + 1 ≤ k) → (k ≤ b) → b - k < fu → ∀ ls : Array Slot, lv_has ls 5 [(0, .ref (a 0)), (1, .int (nI i)), (2, .int (nI b)), (3, .int (sn_mas f (i + 1) k)), (4, .int (nI k))] → W p l e (sn_rm 1 0 0) s m [.ref (a 0), .int (nI i), .int (nI b)].toArray below meth c s.heap [] 0 0 (MQ below (vp_Si (fun r_ => r_ = (sn_lod f i b))) [.ref (a 0), .int (nI i), .int (nI b)].toArray s 0 0 (fun _ => False)) (F0 m 7 ls []) := by
    intro fu
    induction fu with
    | zero => intro k h1 h2 hm; exact absurd hm (Nat.not_lt_zero _)
    | succ fu ih_loop =>
      intro k h1 h2 hm ls hl
      refine lv_iload hx hb dX4_load_7 (lv_at hl 4 rfl) ?_
      refine lv_iload_n hx hb dX4_load_9 rfl (lv_at hl 2 rfl) ?_
      refine lv_icmp_ge (tgt := 45) hx hb dX4_load_10 (by decide) (fun c_1 => ?_) (fun c_1 => ?_)
      · have c_1 := (sn_cgej (a := k) (b := b) rfl rfl (by omega) (by omega)).mp c_1
        refine lv_iload_n hx hb dX4_load_45 rfl (lv_at hl 3 rfl) ?_
        refine lv_bipush (v := 100) hx hb dX4_load_46 (by decide) ?_
        refine lv_idiv hx hb dX4_load_48 (by decide) ?_
        exact sn_ret hx hb hr hlk dX4_load_49 (by rw [show k = b by omega]; rfl)
      · have c_1 := (sn_cgef (a := k) (b := b) rfl rfl (by omega) (by omega)).mp c_1
        refine lv_iload_n hx hb dX4_load_13 rfl (lv_at hl 3 rfl) ?_
        refine lv_aload_n hx hb dX4_load_14 rfl (lv_at hl 0 rfl) ?_
        refine va_get (D := D) (ci := 3) (v := .ref (a 1)) (C := RX4) (T := TX4) (N := 6) hx hb hts huX4 hown hK hP 0 rfl rfl 0 (by decide) (hts (.fieldLink RX4 7 "SnowSlabsModel" "state" "[I") (by decide +kernel)) (fun _ h9 => h9) rfl dX4_load_15 ?_
        refine lv_iload hx hb dX4_load_18 (lv_at hl 4 rfl) ?_
        refine lv_iconst (v := 0) hx hb dX4_load_20 (by decide) ?_
        refine sn_cS 2 hC hl (ct_X4_at l D _ [] k 0) gX4_load_X4_at rfl (by decide +kernel) rfl ⟨Nat.le_of_ble_eq_true rfl, Nat.le_of_ble_eq_true rfl⟩ ⟨Nat.zero_le _, Nat.zero_le _⟩ (fun _ _ h => by simp at h) hK hN rfl (Nat.le_of_ble_eq_true rfl) dX4_load_21 ?_
        refine sn_top (y := nI (7 + 5 * k)) (congrArg nI (show _ = 7 + 5 * k by omega)) ?_
        refine sn_ild (k := 7 + 5 * k) (v := f (7 + 5 * k)) 1 0 hx hb hK hP rfl rfl (by omega) (by decide) rfl (rfl) dX4_load_24 ?_
        refine lv_aload_n hx hb dX4_load_25 rfl (lv_at hl 0 rfl) ?_
        refine va_get (D := D) (ci := 3) (v := .ref (a 1)) (C := RX4) (T := TX4) (N := 6) hx hb hts huX4 hown hK hP 0 rfl rfl 0 (by decide) (hts (.fieldLink RX4 7 "SnowSlabsModel" "state" "[I") (by decide +kernel)) (fun _ h9 => h9) rfl dX4_load_26 ?_
        refine lv_iload hx hb dX4_load_29 (lv_at hl 4 rfl) ?_
        refine lv_iconst (v := 1) hx hb dX4_load_31 (by decide) ?_
        refine sn_cS 2 hC hl (ct_X4_at l D _ [] k 1) gX4_load_X4_at rfl (by decide +kernel) rfl ⟨Nat.le_of_ble_eq_true rfl, Nat.le_of_ble_eq_true rfl⟩ ⟨Nat.zero_le _, Nat.zero_le _⟩ (fun _ _ h => by simp at h) hK hN rfl (Nat.le_of_ble_eq_true rfl) dX4_load_32 ?_
        refine sn_top (y := nI (8 + 5 * k)) (congrArg nI (show _ = 8 + 5 * k by omega)) ?_
        refine sn_ild (k := 8 + 5 * k) (v := f (8 + 5 * k)) 1 0 hx hb hK hP rfl rfl (by omega) (by decide) rfl (rfl) dX4_load_35 ?_
        refine lv_imul hx hb dX4_load_36 ?_
        refine lv_iadd hx hb dX4_load_37 ?_
        refine sn_top (y := sn_mas f (i + 1) (k + 1)) (sn_mas_s h1) ?_
        refine lv_istore_n (lv' := [(3, .int (sn_mas f (i + 1) (k + 1))), (0, .ref (a 0)), (1, .int (nI i)), (2, .int (nI b)), (4, .int (nI k))]) hx hb dX4_load_38 rfl hl (by decide) rfl (fun ls hl => ?_)
        refine lv_iinc (v := nI (k + 1)) (lv' := [(4, .int (nI (k + 1))), (3, .int (sn_mas f (i + 1) (k + 1))), (0, .ref (a 0)), (1, .int (nI i)), (2, .int (nI b))]) hx hb dX4_load_39 hl (k := 4) rfl (sn_inc _) (by decide) rfl (fun ls hl => ?_)
        refine lv_goto (tgt := 7) hx hb dX4_load_42 (by decide) ?_
        exact ih_loop (k + 1) (by omega) (by omega) (by omega) ls (lv_sub hl [2, 3, 4, 1, 0] rfl)
  exact loop ((b - (i + 1)) + 1) (i + 1) (Nat.le_refl _) hib (by omega) ls (lv_sub hl [2, 3, 4, 1, 0] rfl)
set_option maxRecDepth 100000 in
set_option maxHeartbeats 4000000 in
theorem ct_X4_shear (l : Launch) (D : va_G) (cI cZ cR : ClassId) (a : Nat → Nat) (f g kp tp ly : Nat → Int32) (nb : Int32) (n : Nat) (hI : sn_I f n) (i : Nat) (hi : i < n) (st : Int32) : sn_Rd l yX4_shear wsX4_shear 2 [.ref (a 0), .int (nI i), .int st] D (sn_ty cI cZ cR) (sn_wM cI cZ a f g kp tp ly nb) (sn_she f i n st) := by
  refine sn_rd (cc := cX4_shear) (maxL := 3) (ret := (some .int)) (by decide) rfl (Nat.le_of_ble_eq_true rfl) ?_
  intro p e s m below meth c hx hb hml hr hlk hts hown hP hK hN ls hl
  have hC : CallFix p m c cX4_shear 3 s [.ref (a 0), .int (nI i), .int st].toArray wsX4_shear RX4 := ⟨hx, hb, hml, hown, hts⟩
  have hl : lv_has ls 3 [(0, .ref (a 0)), (1, .int (nI i)), (2, .int st)] := hl
  have huX4 : ∀ w ∈ wsX40, w ∈ wsX4_shear := by decide +kernel
  refine lv_aload_n hx hb dX4_shear_0 rfl (lv_at hl 0 rfl) ?_
  refine lv_iload_n hx hb dX4_shear_1 rfl (lv_at hl 1 rfl) ?_
  refine lv_aload_n hx hb dX4_shear_2 rfl (lv_at hl 0 rfl) ?_
  refine va_get (D := D) (ci := 3) (v := .ref (a 1)) (C := RX4) (T := TX4) (N := 6) hx hb hts huX4 hown hK hP 0 rfl rfl 0 (by decide) (hts (.fieldLink RX4 7 "SnowSlabsModel" "state" "[I") (by decide +kernel)) (fun _ h9 => h9) rfl dX4_shear_3 ?_
  refine lv_iconst (v := 0) hx hb dX4_shear_6 (by decide) ?_
  refine sn_ild (k := 0) (v := f 0) 1 0 hx hb hK hP rfl rfl (by omega) (by decide) rfl (rfl) dX4_shear_7 ?_
  refine sn_top (hI.1) ?_
  refine sn_cV 2 0 hC hl (ct_X4_load l D cI cZ cR a f g kp tp ly nb i n (by omega) (by first | exact hI.2.1 | omega)) gX4_shear_X4_load rfl (by decide +kernel) rfl ⟨Nat.le_of_ble_eq_true rfl, Nat.le_of_ble_eq_true rfl⟩ ⟨Nat.zero_le _, Nat.zero_le _⟩ hP hK hN rfl rfl rfl (Nat.le_of_ble_eq_true rfl) dX4_shear_8 ?_
  refine lv_iload_n hx hb dX4_shear_11 rfl (lv_at hl 2 rfl) ?_
  refine lv_imul hx hb dX4_shear_12 ?_
  refine lv_bipush (v := 100) hx hb dX4_shear_13 (by decide) ?_
  refine lv_idiv hx hb dX4_shear_15 (by decide) ?_
  exact sn_ret hx hb hr hlk dX4_shear_16 (rfl)
set_option maxRecDepth 100000 in
set_option maxHeartbeats 4000000 in
theorem ct_X4_margin (l : Launch) (D : va_G) (cI cZ cR : ClassId) (a : Nat → Nat) (f g kp tp ly : Nat → Int32) (nb : Int32) (n : Nat) (hI : sn_I f n) (i : Nat) (hi : i < n) (st : Int32) : sn_Rd l yX4_margin wsX4_margin 3 [.ref (a 0), .int (nI i), .int st] D (sn_ty cI cZ cR) (sn_wM cI cZ a f g kp tp ly nb) (sn_mar f i n st) := by
  refine sn_rd (cc := cX4_margin) (maxL := 4) (ret := (some .int)) (by decide) rfl (Nat.le_of_ble_eq_true rfl) ?_
  intro p e s m below meth c hx hb hml hr hlk hts hown hP hK hN ls hl
  have hC : CallFix p m c cX4_margin 4 s [.ref (a 0), .int (nI i), .int st].toArray wsX4_margin RX4 := ⟨hx, hb, hml, hown, hts⟩
  have hl : lv_has ls 4 [(0, .ref (a 0)), (1, .int (nI i)), (2, .int st)] := hl
  refine lv_aload_n hx hb dX4_margin_0 rfl (lv_at hl 0 rfl) ?_
  refine lv_iload_n hx hb dX4_margin_1 rfl (lv_at hl 1 rfl) ?_
  refine lv_iload_n hx hb dX4_margin_2 rfl (lv_at hl 2 rfl) ?_
  refine sn_cV 2 0 hC hl (ct_X4_shear l D cI cZ cR a f g kp tp ly nb n hI i (by omega) st) gX4_margin_X4_shear rfl (by decide +kernel) rfl ⟨Nat.le_of_ble_eq_true rfl, Nat.le_of_ble_eq_true rfl⟩ ⟨Nat.zero_le _, Nat.zero_le _⟩ hP hK hN rfl rfl rfl (Nat.le_of_ble_eq_true rfl) dX4_margin_3 ?_
  refine lv_istore_n (lv' := [(3, .int (sn_she f i n st)), (0, .ref (a 0)), (1, .int (nI i)), (2, .int st)]) hx hb dX4_margin_6 rfl hl (by decide) rfl (fun ls hl => ?_)
  refine lv_iload_n hx hb dX4_margin_7 rfl (lv_at hl 0 rfl) ?_
  refine lv_if_ne (tgt := 17) hx hb dX4_margin_8 (by decide) (fun c_1 => ?_) (fun c_1 => ?_)
  · refine lv_bipush (v := 100) hx hb dX4_margin_17 (by decide) ?_
    refine lv_aload_n hx hb dX4_margin_19 rfl (lv_at hl 1 rfl) ?_
    refine lv_iload_n hx hb dX4_margin_20 rfl (lv_at hl 2 rfl) ?_
    refine sn_cV 1 0 hC hl (ct_X4_strength l D cI cZ cR a f g kp tp ly nb n hI i (by have := hI.2.1; omega)) gX4_margin_X4_strength rfl (by decide +kernel) rfl ⟨Nat.le_of_ble_eq_true rfl, Nat.le_of_ble_eq_true rfl⟩ ⟨Nat.zero_le _, Nat.zero_le _⟩ hP hK hN rfl rfl rfl (Nat.le_of_ble_eq_true rfl) dX4_margin_21 ?_
    refine lv_imul hx hb dX4_margin_24 ?_
    refine lv_iload_n hx hb dX4_margin_25 rfl (lv_at hl 0 rfl) ?_
    refine lv_idiv hx hb dX4_margin_26 c_1 ?_
    exact sn_ret hx hb hr hlk dX4_margin_27 ((if_neg c_1).symm)
  · refine lv_sipush (v := 9999) hx hb dX4_margin_11 (by decide) ?_
    refine lv_goto (tgt := 27) hx hb dX4_margin_14 (by decide) ?_
    exact sn_ret hx hb hr hlk dX4_margin_27 ((if_pos c_1).symm)
set_option maxRecDepth 100000 in
set_option maxHeartbeats 4000000 in
theorem ct_X4_press (l : Launch) (D : va_G) (cI cZ cR : ClassId) (a : Nat → Nat) (f g kp tp ly : Nat → Int32) (nb : Int32) (n : Nat) (hI : sn_I f n) (i b : Nat) (hib : i + 1 ≤ b) (hb10 : b ≤ 10) (wt : Int32) : sn_Rd l yX4_press wsX4_press 2 [.ref (a 0), .int (nI i), .int (nI b), .int wt] D (sn_ty cI cZ cR) (sn_wM cI cZ a f g kp tp ly nb) (sn_prs f i b wt) := by
  refine sn_rd (cc := cX4_press) (maxL := 4) (ret := (some .int)) (by decide) rfl (Nat.le_of_ble_eq_true rfl) ?_
  intro p e s m below meth c hx hb hml hr hlk hts hown hP hK hN ls hl
  have hC : CallFix p m c cX4_press 4 s [.ref (a 0), .int (nI i), .int (nI b), .int wt].toArray wsX4_press RX4 := ⟨hx, hb, hml, hown, hts⟩
  have hl : lv_has ls 4 [(0, .ref (a 0)), (1, .int (nI i)), (2, .int (nI b)), (3, .int wt)] := hl
  refine lv_bipush (v := 100) hx hb dX4_press_0 (by decide) ?_
  refine lv_iload_n hx hb dX4_press_2 rfl (lv_at hl 3 rfl) ?_
  refine lv_imul hx hb dX4_press_3 ?_
  refine lv_aload_n hx hb dX4_press_4 rfl (lv_at hl 0 rfl) ?_
  refine lv_iload_n hx hb dX4_press_5 rfl (lv_at hl 1 rfl) ?_
  refine lv_iload_n hx hb dX4_press_6 rfl (lv_at hl 2 rfl) ?_
  refine sn_cV 2 0 hC hl (ct_X4_depth l D cI cZ cR a f g kp tp ly nb (nI i) (i + 1) b (nI_1 _) (by omega) (by first | exact hI.2.1 | omega)) gX4_press_X4_depth rfl (by decide +kernel) rfl ⟨Nat.le_of_ble_eq_true rfl, Nat.le_of_ble_eq_true rfl⟩ ⟨Nat.zero_le _, Nat.zero_le _⟩ hP hK hN rfl rfl rfl (Nat.le_of_ble_eq_true rfl) dX4_press_7 ?_
  refine lv_bipush (v := 10) hx hb dX4_press_10 (by decide) ?_
  refine lv_iadd hx hb dX4_press_12 ?_
  refine lv_idiv hx hb dX4_press_13 (sn_dep_ne hI (i + 1) b hb10) ?_
  exact sn_ret hx hb hr hlk dX4_press_14 (rfl)
set_option maxRecDepth 100000 in
set_option maxHeartbeats 4000000 in
theorem ct_X4_layer (l : Launch) (D : va_G) (cI cZ cR : ClassId) (a : Nat → Nat) (f g kp tp ly : Nat → Int32) (nb : Int32) (n : Nat) (hI : sn_I f n) (x y : Int32) : sn_Rd l yX4_layer wsX4_layer 2 [.ref (a 0), .int x, .int y] D (sn_ty cI cZ cR) (sn_wM cI cZ a f g kp tp ly nb) (sn_Rlayer f n x y) := by
  refine sn_rd (cc := cX4_layer) (maxL := 3) (ret := (some .int)) (by decide) rfl (Nat.le_of_ble_eq_true rfl) ?_
  intro p e s m below meth c hx hb hml hr hlk hts hown hP hK hN ls hl
  have hC : CallFix p m c cX4_layer 3 s [.ref (a 0), .int x, .int y].toArray wsX4_layer RX4 := ⟨hx, hb, hml, hown, hts⟩
  have hl : lv_has ls 3 [(0, .ref (a 0)), (1, .int x), (2, .int y)] := hl
  have huX4 : ∀ w ∈ wsX40, w ∈ wsX4_layer := by decide +kernel
  have hn10 := hI.2.1
  refine lv_aload_n hx hb dX4_layer_0 rfl (lv_at hl 0 rfl) ?_
  refine lv_iload_n hx hb dX4_layer_1 rfl (lv_at hl 1 rfl) ?_
  refine sn_cV 1 0 hC hl (ct_X4_isLayer l D cI cZ cR a f g kp tp ly nb n hI x) gX4_layer_X4_isLayer rfl (by decide +kernel) rfl ⟨Nat.le_of_ble_eq_true rfl, Nat.le_of_ble_eq_true rfl⟩ ⟨Nat.zero_le _, Nat.zero_le _⟩ hP hK hN rfl rfl rfl (Nat.le_of_ble_eq_true rfl) dX4_layer_2 ?_
  refine lv_if_ne (tgt := 10) hx hb dX4_layer_5 (by decide) (fun c_1 => ?_) (fun c_1 => ?_)
  · have c_1 : 0 ≤ x ∧ x ≤ nI n - 1 := sn_b_nz.mp c_1
    obtain ⟨i, hi, hie⟩ := sn_isL hn10 c_1
    subst hie
    refine lv_iload_n hx hb dX4_layer_10 rfl (lv_at hl 2 rfl) ?_
    by_cases t_0 : y = 0
    · subst t_0
      refine lv_tableIn (tgt := 56) hx hb dX4_layer_11 (by decide) (by decide) (by decide +kernel : _ = some (45 : Int)) (by decide) ?_
      refine lv_aload_n hx hb dX4_layer_56 rfl (lv_at hl 0 rfl) ?_
      refine va_get (D := D) (ci := 3) (v := .ref (a 1)) (C := RX4) (T := TX4) (N := 6) hx hb hts huX4 hown hK hP 0 rfl rfl 0 (by decide) (hts (.fieldLink RX4 7 "SnowSlabsModel" "state" "[I") (by decide +kernel)) (fun _ h9 => h9) rfl dX4_layer_57 ?_
      refine lv_iload_n hx hb dX4_layer_60 rfl (lv_at hl 1 rfl) ?_
      refine lv_iload_n hx hb dX4_layer_61 rfl (lv_at hl 2 rfl) ?_
      refine sn_cS 2 hC hl (ct_X4_at l D _ [] i 0) gX4_layer_X4_at rfl (by decide +kernel) rfl ⟨Nat.le_of_ble_eq_true rfl, Nat.le_of_ble_eq_true rfl⟩ ⟨Nat.zero_le _, Nat.zero_le _⟩ (fun _ _ h => by simp at h) hK hN rfl (Nat.le_of_ble_eq_true rfl) dX4_layer_62 ?_
      refine sn_top (y := nI (7 + 5 * i)) (congrArg nI (show _ = 7 + 5 * i by omega)) ?_
      refine sn_ild (k := 7 + 5 * i) (v := f (7 + 5 * i)) 1 0 hx hb hK hP rfl rfl (by omega) (by decide) rfl (rfl) dX4_layer_65 ?_
      exact sn_ret hx hb hr hlk dX4_layer_66 (((if_pos c_1).trans ((congrArg (fun z => sn_RlayerN f n z 0) (nI_clamp (by omega))).trans (rfl))).symm)
    · skip
      by_cases t_1 : y = 1
      · subst t_1
        refine lv_tableIn (tgt := 56) hx hb dX4_layer_11 (by decide) (by decide) (by decide +kernel : _ = some (45 : Int)) (by decide) ?_
        refine lv_aload_n hx hb dX4_layer_56 rfl (lv_at hl 0 rfl) ?_
        refine va_get (D := D) (ci := 3) (v := .ref (a 1)) (C := RX4) (T := TX4) (N := 6) hx hb hts huX4 hown hK hP 0 rfl rfl 0 (by decide) (hts (.fieldLink RX4 7 "SnowSlabsModel" "state" "[I") (by decide +kernel)) (fun _ h9 => h9) rfl dX4_layer_57 ?_
        refine lv_iload_n hx hb dX4_layer_60 rfl (lv_at hl 1 rfl) ?_
        refine lv_iload_n hx hb dX4_layer_61 rfl (lv_at hl 2 rfl) ?_
        refine sn_cS 2 hC hl (ct_X4_at l D _ [] i 1) gX4_layer_X4_at rfl (by decide +kernel) rfl ⟨Nat.le_of_ble_eq_true rfl, Nat.le_of_ble_eq_true rfl⟩ ⟨Nat.zero_le _, Nat.zero_le _⟩ (fun _ _ h => by simp at h) hK hN rfl (Nat.le_of_ble_eq_true rfl) dX4_layer_62 ?_
        refine sn_top (y := nI (8 + 5 * i)) (congrArg nI (show _ = 8 + 5 * i by omega)) ?_
        refine sn_ild (k := 8 + 5 * i) (v := f (8 + 5 * i)) 1 0 hx hb hK hP rfl rfl (by omega) (by decide) rfl (rfl) dX4_layer_65 ?_
        exact sn_ret hx hb hr hlk dX4_layer_66 (((if_pos c_1).trans ((congrArg (fun z => sn_RlayerN f n z 1) (nI_clamp (by omega))).trans (rfl))).symm)
      · skip
        by_cases t_2 : y = 2
        · subst t_2
          refine lv_tableIn (tgt := 56) hx hb dX4_layer_11 (by decide) (by decide) (by decide +kernel : _ = some (45 : Int)) (by decide) ?_
          refine lv_aload_n hx hb dX4_layer_56 rfl (lv_at hl 0 rfl) ?_
          refine va_get (D := D) (ci := 3) (v := .ref (a 1)) (C := RX4) (T := TX4) (N := 6) hx hb hts huX4 hown hK hP 0 rfl rfl 0 (by decide) (hts (.fieldLink RX4 7 "SnowSlabsModel" "state" "[I") (by decide +kernel)) (fun _ h9 => h9) rfl dX4_layer_57 ?_
          refine lv_iload_n hx hb dX4_layer_60 rfl (lv_at hl 1 rfl) ?_
          refine lv_iload_n hx hb dX4_layer_61 rfl (lv_at hl 2 rfl) ?_
          refine sn_cS 2 hC hl (ct_X4_at l D _ [] i 2) gX4_layer_X4_at rfl (by decide +kernel) rfl ⟨Nat.le_of_ble_eq_true rfl, Nat.le_of_ble_eq_true rfl⟩ ⟨Nat.zero_le _, Nat.zero_le _⟩ (fun _ _ h => by simp at h) hK hN rfl (Nat.le_of_ble_eq_true rfl) dX4_layer_62 ?_
          refine sn_top (y := nI (9 + 5 * i)) (congrArg nI (show _ = 9 + 5 * i by omega)) ?_
          refine sn_ild (k := 9 + 5 * i) (v := f (9 + 5 * i)) 1 0 hx hb hK hP rfl rfl (by omega) (by decide) rfl (rfl) dX4_layer_65 ?_
          exact sn_ret hx hb hr hlk dX4_layer_66 (((if_pos c_1).trans ((congrArg (fun z => sn_RlayerN f n z 2) (nI_clamp (by omega))).trans (rfl))).symm)
        · skip
          by_cases t_3 : y = 3
          · subst t_3
            refine lv_tableIn (tgt := 56) hx hb dX4_layer_11 (by decide) (by decide) (by decide +kernel : _ = some (45 : Int)) (by decide) ?_
            refine lv_aload_n hx hb dX4_layer_56 rfl (lv_at hl 0 rfl) ?_
            refine va_get (D := D) (ci := 3) (v := .ref (a 1)) (C := RX4) (T := TX4) (N := 6) hx hb hts huX4 hown hK hP 0 rfl rfl 0 (by decide) (hts (.fieldLink RX4 7 "SnowSlabsModel" "state" "[I") (by decide +kernel)) (fun _ h9 => h9) rfl dX4_layer_57 ?_
            refine lv_iload_n hx hb dX4_layer_60 rfl (lv_at hl 1 rfl) ?_
            refine lv_iload_n hx hb dX4_layer_61 rfl (lv_at hl 2 rfl) ?_
            refine sn_cS 2 hC hl (ct_X4_at l D _ [] i 3) gX4_layer_X4_at rfl (by decide +kernel) rfl ⟨Nat.le_of_ble_eq_true rfl, Nat.le_of_ble_eq_true rfl⟩ ⟨Nat.zero_le _, Nat.zero_le _⟩ (fun _ _ h => by simp at h) hK hN rfl (Nat.le_of_ble_eq_true rfl) dX4_layer_62 ?_
            refine sn_top (y := nI (10 + 5 * i)) (congrArg nI (show _ = 10 + 5 * i by omega)) ?_
            refine sn_ild (k := 10 + 5 * i) (v := f (10 + 5 * i)) 1 0 hx hb hK hP rfl rfl (by omega) (by decide) rfl (rfl) dX4_layer_65 ?_
            exact sn_ret hx hb hr hlk dX4_layer_66 (((if_pos c_1).trans ((congrArg (fun z => sn_RlayerN f n z 3) (nI_clamp (by omega))).trans (rfl))).symm)
          · skip
            by_cases t_4 : y = 4
            · subst t_4
              refine lv_tableIn (tgt := 56) hx hb dX4_layer_11 (by decide) (by decide) (by decide +kernel : _ = some (45 : Int)) (by decide) ?_
              refine lv_aload_n hx hb dX4_layer_56 rfl (lv_at hl 0 rfl) ?_
              refine va_get (D := D) (ci := 3) (v := .ref (a 1)) (C := RX4) (T := TX4) (N := 6) hx hb hts huX4 hown hK hP 0 rfl rfl 0 (by decide) (hts (.fieldLink RX4 7 "SnowSlabsModel" "state" "[I") (by decide +kernel)) (fun _ h9 => h9) rfl dX4_layer_57 ?_
              refine lv_iload_n hx hb dX4_layer_60 rfl (lv_at hl 1 rfl) ?_
              refine lv_iload_n hx hb dX4_layer_61 rfl (lv_at hl 2 rfl) ?_
              refine sn_cS 2 hC hl (ct_X4_at l D _ [] i 4) gX4_layer_X4_at rfl (by decide +kernel) rfl ⟨Nat.le_of_ble_eq_true rfl, Nat.le_of_ble_eq_true rfl⟩ ⟨Nat.zero_le _, Nat.zero_le _⟩ (fun _ _ h => by simp at h) hK hN rfl (Nat.le_of_ble_eq_true rfl) dX4_layer_62 ?_
              refine sn_top (y := nI (11 + 5 * i)) (congrArg nI (show _ = 11 + 5 * i by omega)) ?_
              refine sn_ild (k := 11 + 5 * i) (v := f (11 + 5 * i)) 1 0 hx hb hK hP rfl rfl (by omega) (by decide) rfl (rfl) dX4_layer_65 ?_
              exact sn_ret hx hb hr hlk dX4_layer_66 (((if_pos c_1).trans ((congrArg (fun z => sn_RlayerN f n z 4) (nI_clamp (by omega))).trans (rfl))).symm)
            · skip
              by_cases t_5 : y = 5
              · subst t_5
                refine lv_tableIn (tgt := 67) hx hb dX4_layer_11 (by decide) (by decide) (by decide +kernel : _ = some (56 : Int)) (by decide) ?_
                refine lv_aload_n hx hb dX4_layer_67 rfl (lv_at hl 0 rfl) ?_
                refine lv_iload_n hx hb dX4_layer_68 rfl (lv_at hl 1 rfl) ?_
                refine sn_cV 1 0 hC hl (ct_X4_strength l D cI cZ cR a f g kp tp ly nb n hI i (by have := hI.2.1; omega)) gX4_layer_X4_strength rfl (by decide +kernel) rfl ⟨Nat.le_of_ble_eq_true rfl, Nat.le_of_ble_eq_true rfl⟩ ⟨Nat.zero_le _, Nat.zero_le _⟩ hP hK hN rfl rfl rfl (Nat.le_of_ble_eq_true rfl) dX4_layer_69 ?_
                exact sn_ret hx hb hr hlk dX4_layer_72 (((if_pos c_1).trans ((congrArg (fun z => sn_RlayerN f n z 5) (nI_clamp (by omega))).trans (rfl))).symm)
              · skip
                by_cases t_6 : y = 6
                · subst t_6
                  refine lv_tableIn (tgt := 73) hx hb dX4_layer_11 (by decide) (by decide) (by decide +kernel : _ = some (62 : Int)) (by decide) ?_
                  refine lv_aload_n hx hb dX4_layer_73 rfl (lv_at hl 0 rfl) ?_
                  refine lv_iload_n hx hb dX4_layer_74 rfl (lv_at hl 1 rfl) ?_
                  refine lv_aload_n hx hb dX4_layer_75 rfl (lv_at hl 0 rfl) ?_
                  refine va_get (D := D) (ci := 3) (v := .ref (a 1)) (C := RX4) (T := TX4) (N := 6) hx hb hts huX4 hown hK hP 0 rfl rfl 0 (by decide) (hts (.fieldLink RX4 7 "SnowSlabsModel" "state" "[I") (by decide +kernel)) (fun _ h9 => h9) rfl dX4_layer_76 ?_
                  refine lv_iconst (v := 0) hx hb dX4_layer_79 (by decide) ?_
                  refine sn_ild (k := 0) (v := f 0) 1 0 hx hb hK hP rfl rfl (by omega) (by decide) rfl (rfl) dX4_layer_80 ?_
                  refine sn_top (hI.1) ?_
                  refine sn_cV 2 0 hC hl (ct_X4_depth l D cI cZ cR a f g kp tp ly nb (nI i) (i + 1) n (nI_1 _) (by omega) (by first | exact hI.2.1 | omega)) gX4_layer_X4_depth rfl (by decide +kernel) rfl ⟨Nat.le_of_ble_eq_true rfl, Nat.le_of_ble_eq_true rfl⟩ ⟨Nat.zero_le _, Nat.zero_le _⟩ hP hK hN rfl rfl rfl (Nat.le_of_ble_eq_true rfl) dX4_layer_81 ?_
                  exact sn_ret hx hb hr hlk dX4_layer_84 (((if_pos c_1).trans ((congrArg (fun z => sn_RlayerN f n z 6) (nI_clamp (by omega))).trans (rfl))).symm)
                · skip
                  by_cases t_7 : y = 7
                  · subst t_7
                    refine lv_tableIn (tgt := 85) hx hb dX4_layer_11 (by decide) (by decide) (by decide +kernel : _ = some (74 : Int)) (by decide) ?_
                    refine lv_aload_n hx hb dX4_layer_85 rfl (lv_at hl 0 rfl) ?_
                    refine lv_iload_n hx hb dX4_layer_86 rfl (lv_at hl 1 rfl) ?_
                    refine lv_aload_n hx hb dX4_layer_87 rfl (lv_at hl 0 rfl) ?_
                    refine va_get (D := D) (ci := 3) (v := .ref (a 1)) (C := RX4) (T := TX4) (N := 6) hx hb hts huX4 hown hK hP 0 rfl rfl 0 (by decide) (hts (.fieldLink RX4 7 "SnowSlabsModel" "state" "[I") (by decide +kernel)) (fun _ h9 => h9) rfl dX4_layer_88 ?_
                    refine lv_iconst (v := 0) hx hb dX4_layer_91 (by decide) ?_
                    refine sn_ild (k := 0) (v := f 0) 1 0 hx hb hK hP rfl rfl (by omega) (by decide) rfl (rfl) dX4_layer_92 ?_
                    refine sn_top (hI.1) ?_
                    refine sn_cV 2 0 hC hl (ct_X4_load l D cI cZ cR a f g kp tp ly nb i n (by omega) (by first | exact hI.2.1 | omega)) gX4_layer_X4_load rfl (by decide +kernel) rfl ⟨Nat.le_of_ble_eq_true rfl, Nat.le_of_ble_eq_true rfl⟩ ⟨Nat.zero_le _, Nat.zero_le _⟩ hP hK hN rfl rfl rfl (Nat.le_of_ble_eq_true rfl) dX4_layer_93 ?_
                    exact sn_ret hx hb hr hlk dX4_layer_96 (((if_pos c_1).trans ((congrArg (fun z => sn_RlayerN f n z 7) (nI_clamp (by omega))).trans (rfl))).symm)
                  · refine lv_tableOut (tgt := 97) hx hb dX4_layer_11 (by have e0 := lv_neT t_0 (a := 0) rfl; have e1 := lv_neT t_1 (a := 1) rfl; have e2 := lv_neT t_2 (a := 2) rfl; have e3 := lv_neT t_3 (a := 3) rfl; have e4 := lv_neT t_4 (a := 4) rfl; have e5 := lv_neT t_5 (a := 5) rfl; have e6 := lv_neT t_6 (a := 6) rfl; have e7 := lv_neT t_7 (a := 7) rfl; omega) (by decide) ?_
                    refine lv_bipush (v := (-2)) hx hb dX4_layer_97 (by decide) ?_
                    exact sn_ret hx hb hr hlk dX4_layer_99 (((if_pos c_1).trans (show sn_RlayerN f n _ y = -2 from (((if_neg t_0).trans ((if_neg t_1).trans ((if_neg t_2).trans ((if_neg t_3).trans ((if_neg t_4).trans ((if_neg t_5).trans ((if_neg t_6).trans ((if_neg t_7).trans (rfl))))))))).symm).symm)).symm)
  · have c_1 : ¬ (0 ≤ x ∧ x ≤ nI n - 1) := sn_b_z.mp c_1
    refine lv_iconst (v := (-1)) hx hb dX4_layer_8 (by decide) ?_
    exact sn_ret hx hb hr hlk dX4_layer_9 ((if_neg c_1).symm)
set_option maxRecDepth 100000 in
set_option maxHeartbeats 4000000 in
theorem ct_X4_isSteep (l : Launch) (D : va_G) (tys : List (ClassId × FieldType)) (w : va_W) (x : Int32) : sn_Rd l yX4_isSteep wsX4_isSteep 1 [.int x] D tys (w) (sn_b (0 ≤ x ∧ x ≤ 100)) := by
  refine sn_rd (cc := cX4_isSteep) (maxL := 1) (ret := (some .boolean)) (by decide) rfl (Nat.le_of_ble_eq_true rfl) ?_
  intro p e s m below meth c hx hb hml hr hlk hts hown hP hK hN ls hl
  have hC : CallFix p m c cX4_isSteep 1 s [.int x].toArray wsX4_isSteep RX4 := ⟨hx, hb, hml, hown, hts⟩
  have hl : lv_has ls 1 [(0, .int x)] := hl
  refine lv_iload_n hx hb dX4_isSteep_0 rfl (lv_at hl 0 rfl) ?_
  refine lv_iconst (v := 0) hx hb dX4_isSteep_1 (by decide) ?_
  refine lv_bipush (v := 100) hx hb dX4_isSteep_2 (by decide) ?_
  refine sn_cS 3 hC hl (ct_X4_in l D _ [] x 0 100) gX4_isSteep_X4_in rfl (by decide +kernel) rfl ⟨Nat.le_of_ble_eq_true rfl, Nat.le_of_ble_eq_true rfl⟩ ⟨Nat.zero_le _, Nat.zero_le _⟩ (fun _ _ h => by simp at h) hK hN rfl (Nat.le_of_ble_eq_true rfl) dX4_isSteep_4 ?_
  exact sn_zret hx hb hr hlk dX4_isSteep_7 (sn_b_01 _) (rfl)
set_option maxRecDepth 100000 in
set_option maxHeartbeats 4000000 in
theorem ct_X4_isSide (l : Launch) (D : va_G) (tys : List (ClassId × FieldType)) (w : va_W) (x : Int32) : sn_Rd l yX4_isSide wsX4_isSide 1 [.int x] D tys (w) (sn_b (0 ≤ x ∧ x ≤ 7)) := by
  refine sn_rd (cc := cX4_isSide) (maxL := 1) (ret := (some .boolean)) (by decide) rfl (Nat.le_of_ble_eq_true rfl) ?_
  intro p e s m below meth c hx hb hml hr hlk hts hown hP hK hN ls hl
  have hC : CallFix p m c cX4_isSide 1 s [.int x].toArray wsX4_isSide RX4 := ⟨hx, hb, hml, hown, hts⟩
  have hl : lv_has ls 1 [(0, .int x)] := hl
  refine lv_iload_n hx hb dX4_isSide_0 rfl (lv_at hl 0 rfl) ?_
  refine lv_iconst (v := 0) hx hb dX4_isSide_1 (by decide) ?_
  refine lv_bipush (v := 7) hx hb dX4_isSide_2 (by decide) ?_
  refine sn_cS 3 hC hl (ct_X4_in l D _ [] x 0 7) gX4_isSide_X4_in rfl (by decide +kernel) rfl ⟨Nat.le_of_ble_eq_true rfl, Nat.le_of_ble_eq_true rfl⟩ ⟨Nat.zero_le _, Nat.zero_le _⟩ (fun _ _ h => by simp at h) hK hN rfl (Nat.le_of_ble_eq_true rfl) dX4_isSide_4 ?_
  exact sn_zret hx hb hr hlk dX4_isSide_7 (sn_b_01 _) (rfl)
set_option maxRecDepth 100000 in
set_option maxHeartbeats 4000000 in
theorem ct_X4_slope (l : Launch) (D : va_G) (cI cZ cR : ClassId) (a : Nat → Nat) (f g kp tp ly : Nat → Int32) (nb : Int32) (n : Nat) (hI : sn_I f n) (x y z : Int32) : sn_Rd l yX4_slope wsX4_slope 4 [.ref (a 0), .int x, .int y, .int z] D (sn_ty cI cZ cR) (sn_wM cI cZ a f g kp tp ly nb) (sn_Rslope f n x y z) := by
  refine sn_rd (cc := cX4_slope) (maxL := 4) (ret := (some .int)) (by decide) rfl (Nat.le_of_ble_eq_true rfl) ?_
  intro p e s m below meth c hx hb hml hr hlk hts hown hP hK hN ls hl
  have hC : CallFix p m c cX4_slope 4 s [.ref (a 0), .int x, .int y, .int z].toArray wsX4_slope RX4 := ⟨hx, hb, hml, hown, hts⟩
  have hl : lv_has ls 4 [(0, .ref (a 0)), (1, .int x), (2, .int y), (3, .int z)] := hl
  have hn10 := hI.2.1
  refine lv_aload_n hx hb dX4_slope_0 rfl (lv_at hl 0 rfl) ?_
  refine lv_iload_n hx hb dX4_slope_1 rfl (lv_at hl 1 rfl) ?_
  refine sn_cV 1 0 hC hl (ct_X4_isLayer l D cI cZ cR a f g kp tp ly nb n hI x) gX4_slope_X4_isLayer rfl (by decide +kernel) rfl ⟨Nat.le_of_ble_eq_true rfl, Nat.le_of_ble_eq_true rfl⟩ ⟨Nat.zero_le _, Nat.zero_le _⟩ hP hK hN rfl rfl rfl (Nat.le_of_ble_eq_true rfl) dX4_slope_2 ?_
  refine lv_if_ne (tgt := 10) hx hb dX4_slope_5 (by decide) (fun c_1 => ?_) (fun c_1 => ?_)
  · have c_1 : 0 ≤ x ∧ x ≤ nI n - 1 := sn_b_nz.mp c_1
    obtain ⟨i, hi, hie⟩ := sn_isL hn10 c_1
    subst hie
    refine lv_iload_n hx hb dX4_slope_10 rfl (lv_at hl 2 rfl) ?_
    refine sn_cS 1 hC hl (ct_X4_isSteep l D _ [] y) gX4_slope_X4_isSteep rfl (by decide +kernel) rfl ⟨Nat.le_of_ble_eq_true rfl, Nat.le_of_ble_eq_true rfl⟩ ⟨Nat.zero_le _, Nat.zero_le _⟩ (fun _ _ h => by simp at h) hK hN rfl (Nat.le_of_ble_eq_true rfl) dX4_slope_11 ?_
    refine lv_if_eq (tgt := 26) hx hb dX4_slope_14 (by decide) (fun c_2 => ?_) (fun c_2 => ?_)
    · have c_2 : ¬ (0 ≤ y ∧ y ≤ 100) := sn_b_z.mp c_2
      refine lv_bipush (v := (-2)) hx hb dX4_slope_26 (by decide) ?_
      exact sn_ret hx hb hr hlk dX4_slope_28 (((if_pos c_1).trans (if_neg (fun h => c_2 h.1))).symm)
    · have c_2 : 0 ≤ y ∧ y ≤ 100 := sn_b_nz.mp c_2
      refine lv_iload_n hx hb dX4_slope_17 rfl (lv_at hl 3 rfl) ?_
      refine lv_iconst (v := 0) hx hb dX4_slope_18 (by decide) ?_
      refine lv_iconst (v := 1) hx hb dX4_slope_19 (by decide) ?_
      refine sn_cS 3 hC hl (ct_X4_in l D _ [] z 0 1) gX4_slope_X4_in rfl (by decide +kernel) rfl ⟨Nat.le_of_ble_eq_true rfl, Nat.le_of_ble_eq_true rfl⟩ ⟨Nat.zero_le _, Nat.zero_le _⟩ (fun _ _ h => by simp at h) hK hN rfl (Nat.le_of_ble_eq_true rfl) dX4_slope_20 ?_
      refine lv_if_ne (tgt := 29) hx hb dX4_slope_23 (by decide) (fun c_3 => ?_) (fun c_3 => ?_)
      · have c_3 : 0 ≤ z ∧ z ≤ 1 := sn_b_nz.mp c_3
        refine lv_iload_n hx hb dX4_slope_29 rfl (lv_at hl 3 rfl) ?_
        refine lv_if_ne (tgt := 42) hx hb dX4_slope_30 (by decide) (fun c_4 => ?_) (fun c_4 => ?_)
        · refine lv_aload_n hx hb dX4_slope_42 rfl (lv_at hl 0 rfl) ?_
          refine lv_iload_n hx hb dX4_slope_43 rfl (lv_at hl 1 rfl) ?_
          refine lv_iload_n hx hb dX4_slope_44 rfl (lv_at hl 2 rfl) ?_
          refine sn_cV 2 0 hC hl (ct_X4_margin l D cI cZ cR a f g kp tp ly nb n hI i (by omega) y) gX4_slope_X4_margin rfl (by decide +kernel) rfl ⟨Nat.le_of_ble_eq_true rfl, Nat.le_of_ble_eq_true rfl⟩ ⟨Nat.zero_le _, Nat.zero_le _⟩ hP hK hN rfl rfl rfl (Nat.le_of_ble_eq_true rfl) dX4_slope_45 ?_
          exact sn_ret hx hb hr hlk dX4_slope_48 (((if_pos c_1).trans ((if_pos (⟨c_2, c_3⟩)).trans ((if_neg c_4).trans (by rw [nI_clamp (by omega)])))).symm)
        · refine lv_aload_n hx hb dX4_slope_33 rfl (lv_at hl 0 rfl) ?_
          refine lv_iload_n hx hb dX4_slope_34 rfl (lv_at hl 1 rfl) ?_
          refine lv_iload_n hx hb dX4_slope_35 rfl (lv_at hl 2 rfl) ?_
          refine sn_cV 2 0 hC hl (ct_X4_shear l D cI cZ cR a f g kp tp ly nb n hI i (by omega) y) gX4_slope_X4_shear rfl (by decide +kernel) rfl ⟨Nat.le_of_ble_eq_true rfl, Nat.le_of_ble_eq_true rfl⟩ ⟨Nat.zero_le _, Nat.zero_le _⟩ hP hK hN rfl rfl rfl (Nat.le_of_ble_eq_true rfl) dX4_slope_36 ?_
          refine lv_goto (tgt := 48) hx hb dX4_slope_39 (by decide) ?_
          exact sn_ret hx hb hr hlk dX4_slope_48 (((if_pos c_1).trans ((if_pos (⟨c_2, c_3⟩)).trans ((if_pos c_4).trans (by rw [nI_clamp (by omega)])))).symm)
      · have c_3 : ¬ (0 ≤ z ∧ z ≤ 1) := sn_b_z.mp c_3
        refine lv_bipush (v := (-2)) hx hb dX4_slope_26 (by decide) ?_
        exact sn_ret hx hb hr hlk dX4_slope_28 (((if_pos c_1).trans (if_neg (fun h => c_3 h.2))).symm)
  · have c_1 : ¬ (0 ≤ x ∧ x ≤ nI n - 1) := sn_b_z.mp c_1
    refine lv_iconst (v := (-1)) hx hb dX4_slope_8 (by decide) ?_
    exact sn_ret hx hb hr hlk dX4_slope_9 ((if_neg c_1).symm)
set_option maxRecDepth 100000 in
set_option maxHeartbeats 4000000 in
theorem ct_X4_weakest (l : Launch) (D : va_G) (cI cZ cR : ClassId) (a : Nat → Nat) (f g kp tp ly : Nat → Int32) (nb : Int32) (n : Nat) (hI : sn_I f n) (x y : Int32) : sn_Rd l yX4_weakest wsX4_weakest 4 [.ref (a 0), .int x, .int y] D (sn_ty cI cZ cR) (sn_wM cI cZ a f g kp tp ly nb) (sn_Rweak f n x y) := by
  refine sn_rd (cc := cX4_weakest) (maxL := 5) (ret := (some .int)) (by decide) rfl (Nat.le_of_ble_eq_true rfl) ?_
  intro p e s m below meth c hx hb hml hr hlk hts hown hP hK hN ls hl
  have hC : CallFix p m c cX4_weakest 5 s [.ref (a 0), .int x, .int y].toArray wsX4_weakest RX4 := ⟨hx, hb, hml, hown, hts⟩
  have hl : lv_has ls 5 [(0, .ref (a 0)), (1, .int x), (2, .int y)] := hl
  have hn10 := hI.2.1
  refine lv_iload_n hx hb dX4_weakest_0 rfl (lv_at hl 1 rfl) ?_
  refine sn_cS 1 hC hl (ct_X4_isSteep l D _ [] x) gX4_weakest_X4_isSteep rfl (by decide +kernel) rfl ⟨Nat.le_of_ble_eq_true rfl, Nat.le_of_ble_eq_true rfl⟩ ⟨Nat.zero_le _, Nat.zero_le _⟩ (fun _ _ h => by simp at h) hK hN rfl (Nat.le_of_ble_eq_true rfl) dX4_weakest_1 ?_
  refine lv_if_eq (tgt := 16) hx hb dX4_weakest_4 (by decide) (fun c_1 => ?_) (fun c_1 => ?_)
  · have c_1 : ¬ (0 ≤ x ∧ x ≤ 100) := sn_b_z.mp c_1
    refine lv_bipush (v := (-2)) hx hb dX4_weakest_16 (by decide) ?_
    exact sn_ret hx hb hr hlk dX4_weakest_18 ((if_neg (fun h => c_1 h.1)).symm)
  · have c_1 : 0 ≤ x ∧ x ≤ 100 := sn_b_nz.mp c_1
    refine lv_iload_n hx hb dX4_weakest_7 rfl (lv_at hl 2 rfl) ?_
    refine lv_iconst (v := 0) hx hb dX4_weakest_8 (by decide) ?_
    refine lv_iconst (v := 1) hx hb dX4_weakest_9 (by decide) ?_
    refine sn_cS 3 hC hl (ct_X4_in l D _ [] y 0 1) gX4_weakest_X4_in rfl (by decide +kernel) rfl ⟨Nat.le_of_ble_eq_true rfl, Nat.le_of_ble_eq_true rfl⟩ ⟨Nat.zero_le _, Nat.zero_le _⟩ (fun _ _ h => by simp at h) hK hN rfl (Nat.le_of_ble_eq_true rfl) dX4_weakest_10 ?_
    refine lv_if_ne (tgt := 19) hx hb dX4_weakest_13 (by decide) (fun c_2 => ?_) (fun c_2 => ?_)
    · have c_2 : 0 ≤ y ∧ y ≤ 1 := sn_b_nz.mp c_2
      refine lv_bipush (v := (-6)) hx hb dX4_weakest_19 (by decide) ?_
      refine lv_istore_n (lv' := [(3, .int (-6)), (0, .ref (a 0)), (1, .int x), (2, .int y)]) hx hb dX4_weakest_21 rfl hl (by decide) rfl (fun ls hl => ?_)
      refine lv_iconst (v := 0) hx hb dX4_weakest_22 (by decide) ?_
      refine lv_istore (lv' := [(4, .int 0), (3, .int (-6)), (0, .ref (a 0)), (1, .int x), (2, .int y)]) hx hb dX4_weakest_23 hl (by decide) rfl (fun ls hl => ?_)
      have loop : ∀ (fu : Nat) (k : Nat), (k ≤ n - 1) → n - 1 - k < fu → ∀ ls : Array Slot, lv_has ls 5 [(0, .ref (a 0)), (1, .int x), (2, .int y), (3, .int (sn_en (sn_wkA f n x k))), (4, .int (nI k))] → W p l e (sn_rm 4 0 0) s m [.ref (a 0), .int x, .int y].toArray below meth c s.heap [] 0 0 (MQ below (vp_Si (fun r_ => r_ = (sn_Rweak f n x y))) [.ref (a 0), .int x, .int y].toArray s 0 0 (fun _ => False)) (F0 m 25 ls []) := by
        intro fu
        induction fu with
        | zero => intro k h1 hm; exact absurd hm (Nat.not_lt_zero _)
        | succ fu ih_loop =>
          intro k h1 hm ls hl
          refine lv_iload hx hb dX4_weakest_25 (lv_at hl 4 rfl) ?_
          refine lv_aload_n hx hb dX4_weakest_27 rfl (lv_at hl 0 rfl) ?_
          refine sn_cV 0 0 hC hl (ct_X4_top l D cI cZ cR a f g kp tp ly nb n hI.1) gX4_weakest_X4_top rfl (by decide +kernel) rfl ⟨Nat.le_of_ble_eq_true rfl, Nat.le_of_ble_eq_true rfl⟩ ⟨Nat.zero_le _, Nat.zero_le _⟩ hP hK hN rfl rfl rfl (Nat.le_of_ble_eq_true rfl) dX4_weakest_28 ?_
          refine lv_icmp_ge (tgt := 67) hx hb dX4_weakest_31 (by decide) (fun c_3 => ?_) (fun c_3 => ?_)
          · have c_3 := (sn_getop hn10 (by omega)).mp c_3
            have hwk : sn_wk f n x = sn_wkA f n x k := by unfold sn_wk; rw [show n - 1 = k by omega]
            refine lv_iload_n hx hb dX4_weakest_67 rfl (lv_at hl 3 rfl) ?_
            refine lv_if_lt (tgt := 75) hx hb dX4_weakest_68 (by decide) (fun c_4 => ?_) (fun c_4 => ?_)
            · have hwl := sn_wkA_le f n x k
              have c_4 := (sn_en_neg (by omega)).mp c_4
              refine lv_iload_n hx hb dX4_weakest_75 rfl (lv_at hl 3 rfl) ?_
              refine lv_goto (tgt := 85) hx hb dX4_weakest_76 (by decide) ?_
              exact sn_ret hx hb hr hlk dX4_weakest_85 (((if_pos (⟨c_1, c_2⟩)).trans ((if_pos (by rw [hwk]; exact c_4)).trans (by rw [c_4]; rfl))).symm)
            · have hwl := sn_wkA_le f n x k
              have c_4 : ¬ sn_wkA f n x k = 0 := fun z => c_4 ((sn_en_neg (by omega)).mpr z)
              refine lv_iload_n hx hb dX4_weakest_71 rfl (lv_at hl 2 rfl) ?_
              refine lv_if_ne (tgt := 79) hx hb dX4_weakest_72 (by decide) (fun c_5 => ?_) (fun c_5 => ?_)
              · refine lv_aload_n hx hb dX4_weakest_79 rfl (lv_at hl 0 rfl) ?_
                refine lv_iload_n hx hb dX4_weakest_80 rfl (lv_at hl 3 rfl) ?_
                refine sn_top (y := nI (sn_wkA f n x k - 1)) (sn_en_pos c_4) ?_
                refine lv_iload_n hx hb dX4_weakest_81 rfl (lv_at hl 1 rfl) ?_
                refine sn_cV 2 0 hC hl (ct_X4_margin l D cI cZ cR a f g kp tp ly nb n hI (sn_wkA f n x k - 1) (by omega) x) gX4_weakest_X4_margin rfl (by decide +kernel) rfl ⟨Nat.le_of_ble_eq_true rfl, Nat.le_of_ble_eq_true rfl⟩ ⟨Nat.zero_le _, Nat.zero_le _⟩ hP hK hN rfl rfl rfl (Nat.le_of_ble_eq_true rfl) dX4_weakest_82 ?_
                exact sn_ret hx hb hr hlk dX4_weakest_85 (((if_pos (⟨c_1, c_2⟩)).trans ((if_neg (by rw [hwk]; exact c_4)).trans ((if_neg c_5).trans (by rw [hwk])))).symm)
              · refine lv_iload_n hx hb dX4_weakest_75 rfl (lv_at hl 3 rfl) ?_
                refine lv_goto (tgt := 85) hx hb dX4_weakest_76 (by decide) ?_
                exact sn_ret hx hb hr hlk dX4_weakest_85 (((if_pos (⟨c_1, c_2⟩)).trans ((if_neg (by rw [hwk]; exact c_4)).trans ((if_pos c_5).trans (by rw [hwk]; exact (sn_en_pos c_4).symm)))).symm)
          · have c_3 : ¬ n - 1 ≤ k := fun z => c_3 ((sn_getop hn10 (by omega)).mpr z)
            refine lv_iload_n hx hb dX4_weakest_34 rfl (lv_at hl 3 rfl) ?_
            refine lv_if_lt (tgt := 54) hx hb dX4_weakest_35 (by decide) (fun c_6 => ?_) (fun c_6 => ?_)
            · have hwl := sn_wkA_le f n x k
              have c_6 := (sn_en_neg (by omega)).mp c_6
              refine lv_iload hx hb dX4_weakest_54 (lv_at hl 4 rfl) ?_
              refine lv_goto (tgt := 60) hx hb dX4_weakest_56 (by decide) ?_
              refine sn_top (y := sn_en (sn_wkA f n x (k + 1))) (by rw [show sn_wkA f n x (k + 1) = k + 1 from if_pos (Or.inl c_6)]; rfl) ?_
              refine lv_istore_n (lv' := [(3, .int (sn_en (sn_wkA f n x (k + 1)))), (0, .ref (a 0)), (1, .int x), (2, .int y), (4, .int (nI k))]) hx hb dX4_weakest_60 rfl hl (by decide) rfl (fun ls hl => ?_)
              refine lv_iinc (v := nI (k + 1)) (lv' := [(4, .int (nI (k + 1))), (3, .int (sn_en (sn_wkA f n x (k + 1)))), (0, .ref (a 0)), (1, .int x), (2, .int y)]) hx hb dX4_weakest_61 hl (k := 4) rfl (sn_inc _) (by decide) rfl (fun ls hl => ?_)
              refine lv_goto (tgt := 25) hx hb dX4_weakest_64 (by decide) ?_
              exact ih_loop (k + 1) (by omega) (by omega) ls (lv_sub hl [2, 3, 4, 1, 0] rfl)
            · have hwl := sn_wkA_le f n x k
              have c_6 : ¬ sn_wkA f n x k = 0 := fun z => c_6 ((sn_en_neg (by omega)).mpr z)
              refine lv_aload_n hx hb dX4_weakest_38 rfl (lv_at hl 0 rfl) ?_
              refine lv_iload hx hb dX4_weakest_39 (lv_at hl 4 rfl) ?_
              refine lv_iload_n hx hb dX4_weakest_41 rfl (lv_at hl 1 rfl) ?_
              refine sn_cV 2 0 hC hl (ct_X4_margin l D cI cZ cR a f g kp tp ly nb n hI k (by omega) x) gX4_weakest_X4_margin rfl (by decide +kernel) rfl ⟨Nat.le_of_ble_eq_true rfl, Nat.le_of_ble_eq_true rfl⟩ ⟨Nat.zero_le _, Nat.zero_le _⟩ hP hK hN rfl rfl rfl (Nat.le_of_ble_eq_true rfl) dX4_weakest_42 ?_
              refine lv_aload_n hx hb dX4_weakest_45 rfl (lv_at hl 0 rfl) ?_
              refine lv_iload_n hx hb dX4_weakest_46 rfl (lv_at hl 3 rfl) ?_
              refine sn_top (y := nI (sn_wkA f n x k - 1)) (sn_en_pos c_6) ?_
              refine lv_iload_n hx hb dX4_weakest_47 rfl (lv_at hl 1 rfl) ?_
              refine sn_cV 2 0 hC hl (ct_X4_margin l D cI cZ cR a f g kp tp ly nb n hI (sn_wkA f n x k - 1) (by omega) x) gX4_weakest_X4_margin rfl (by decide +kernel) rfl ⟨Nat.le_of_ble_eq_true rfl, Nat.le_of_ble_eq_true rfl⟩ ⟨Nat.zero_le _, Nat.zero_le _⟩ hP hK hN rfl rfl rfl (Nat.le_of_ble_eq_true rfl) dX4_weakest_48 ?_
              refine lv_icmp_gt (tgt := 59) hx hb dX4_weakest_51 (by decide) (fun c_7 => ?_) (fun c_7 => ?_)
              · refine lv_iload_n hx hb dX4_weakest_59 rfl (lv_at hl 3 rfl) ?_
                refine sn_top (y := sn_en (sn_wkA f n x (k + 1))) (by rw [show sn_wkA f n x (k + 1) = sn_wkA f n x k from if_neg (fun z => z.elim c_6 (Int32.not_le.mpr c_7))]) ?_
                refine lv_istore_n (lv' := [(3, .int (sn_en (sn_wkA f n x (k + 1)))), (0, .ref (a 0)), (1, .int x), (2, .int y), (4, .int (nI k))]) hx hb dX4_weakest_60 rfl hl (by decide) rfl (fun ls hl => ?_)
                refine lv_iinc (v := nI (k + 1)) (lv' := [(4, .int (nI (k + 1))), (3, .int (sn_en (sn_wkA f n x (k + 1)))), (0, .ref (a 0)), (1, .int x), (2, .int y)]) hx hb dX4_weakest_61 hl (k := 4) rfl (sn_inc _) (by decide) rfl (fun ls hl => ?_)
                refine lv_goto (tgt := 25) hx hb dX4_weakest_64 (by decide) ?_
                exact ih_loop (k + 1) (by omega) (by omega) ls (lv_sub hl [2, 3, 4, 1, 0] rfl)
              · refine lv_iload hx hb dX4_weakest_54 (lv_at hl 4 rfl) ?_
                refine lv_goto (tgt := 60) hx hb dX4_weakest_56 (by decide) ?_
                refine sn_top (y := sn_en (sn_wkA f n x (k + 1))) (by rw [show sn_wkA f n x (k + 1) = k + 1 from if_pos (Or.inr (Int32.not_lt.mp c_7))]; rfl) ?_
                refine lv_istore_n (lv' := [(3, .int (sn_en (sn_wkA f n x (k + 1)))), (0, .ref (a 0)), (1, .int x), (2, .int y), (4, .int (nI k))]) hx hb dX4_weakest_60 rfl hl (by decide) rfl (fun ls hl => ?_)
                refine lv_iinc (v := nI (k + 1)) (lv' := [(4, .int (nI (k + 1))), (3, .int (sn_en (sn_wkA f n x (k + 1)))), (0, .ref (a 0)), (1, .int x), (2, .int y)]) hx hb dX4_weakest_61 hl (k := 4) rfl (sn_inc _) (by decide) rfl (fun ls hl => ?_)
                refine lv_goto (tgt := 25) hx hb dX4_weakest_64 (by decide) ?_
                exact ih_loop (k + 1) (by omega) (by omega) ls (lv_sub hl [2, 3, 4, 1, 0] rfl)
      exact loop ((n - 1 - 0) + 1) 0 (Nat.zero_le _) (by omega) ls (lv_sub hl [2, 3, 4, 1, 0] rfl)
    · have c_2 : ¬ (0 ≤ y ∧ y ≤ 1) := sn_b_z.mp c_2
      refine lv_bipush (v := (-2)) hx hb dX4_weakest_16 (by decide) ?_
      exact sn_ret hx hb hr hlk dX4_weakest_18 ((if_neg (fun h => c_2 h.2)).symm)
set_option maxRecDepth 100000 in
set_option maxHeartbeats 4000000 in
theorem ct_X4_broken (l : Launch) (D : va_G) (cI cZ cR : ClassId) (a : Nat → Nat) (f g kp tp ly : Nat → Int32) (nb : Int32) (n : Nat) (hI : sn_I f n) (b : Nat) (hb10 : b ≤ 10) (wt : Int32) : sn_Rd l yX4_broken wsX4_broken 3 [.ref (a 0), .int (nI b), .int wt] D (sn_ty cI cZ cR) (sn_wM cI cZ a f g kp tp ly nb) (sn_en (sn_bk f b wt)) := by
  refine sn_rd (cc := cX4_broken) (maxL := 4) (ret := (some .int)) (by decide) rfl (Nat.le_of_ble_eq_true rfl) ?_
  intro p e s m below meth c hx hb hml hr hlk hts hown hP hK hN ls hl
  have hC : CallFix p m c cX4_broken 4 s [.ref (a 0), .int (nI b), .int wt].toArray wsX4_broken RX4 := ⟨hx, hb, hml, hown, hts⟩
  have hl : lv_has ls 4 [(0, .ref (a 0)), (1, .int (nI b)), (2, .int wt)] := hl
  refine lv_iload_n hx hb dX4_broken_0 rfl (lv_at hl 1 rfl) ?_
  refine lv_iconst (v := 2) hx hb dX4_broken_1 (by decide) ?_
  refine lv_isub hx hb dX4_broken_2 ?_
  refine lv_istore_n (lv' := [(3, .int ((nI b) - 2)), (0, .ref (a 0)), (1, .int (nI b)), (2, .int wt)]) hx hb dX4_broken_3 rfl hl (by decide) rfl (fun ls hl => ?_)
  have loop : ∀ (j : Nat) (xj : Int32) , sn_dn j xj → (j ≤ b - 1) → (sn_bkA f b wt j = sn_bk f b wt) → ∀ ls : Array Slot, lv_has ls 4 [(0, .ref (a 0)), (1, .int (nI b)), (2, .int wt), (3, .int xj)] → W p l e (sn_rm 3 0 0) s m [.ref (a 0), .int (nI b), .int wt].toArray below meth c s.heap [] 0 0 (MQ below (vp_Si (fun r_ => r_ = (sn_en (sn_bk f b wt)))) [.ref (a 0), .int (nI b), .int wt].toArray s 0 0 (fun _ => False)) (F0 m 4 ls []) := by
    intro j
    induction j with
    | zero =>
      intro xj  hdn hj hq ls hl
      have hdn : xj < 0 := hdn
      refine lv_iload_n hx hb dX4_broken_4 rfl (lv_at hl 3 rfl) ?_
      refine lv_if_lt (tgt := 38) hx hb dX4_broken_5 (by decide) (fun c_1 => ?_) (fun c_1 => ?_)
      · refine lv_bipush (v := (-6)) hx hb dX4_broken_38 (by decide) ?_
        exact sn_ret hx hb hr hlk dX4_broken_40 (by rw [← hq]; rfl)
      · exact absurd hdn c_1
    | succ j ih_loop =>
      intro xj  hdn hj hq ls hl
      have hdn : xj = nI j := hdn
      subst hdn
      refine lv_iload_n hx hb dX4_broken_4 rfl (lv_at hl 3 rfl) ?_
      refine lv_if_lt (tgt := 38) hx hb dX4_broken_5 (by decide) (fun c_2 => ?_) (fun c_2 => ?_)
      · have c_2 := (sn_cltj (a := j) (b := 0) rfl rfl (by omega) (by omega)).mp c_2
        exact absurd c_2 (by omega)
      · have c_2 := (sn_cltf (a := j) (b := 0) rfl rfl (by omega) (by omega)).mp c_2
        refine lv_aload_n hx hb dX4_broken_8 rfl (lv_at hl 0 rfl) ?_
        refine lv_iload_n hx hb dX4_broken_9 rfl (lv_at hl 3 rfl) ?_
        refine lv_iload_n hx hb dX4_broken_10 rfl (lv_at hl 1 rfl) ?_
        refine sn_cV 2 0 hC hl (ct_X4_load l D cI cZ cR a f g kp tp ly nb j b (by omega) (by first | exact hI.2.1 | omega)) gX4_broken_X4_load rfl (by decide +kernel) rfl ⟨Nat.le_of_ble_eq_true rfl, Nat.le_of_ble_eq_true rfl⟩ ⟨Nat.zero_le _, Nat.zero_le _⟩ hP hK hN rfl rfl rfl (Nat.le_of_ble_eq_true rfl) dX4_broken_11 ?_
        refine lv_aload_n hx hb dX4_broken_14 rfl (lv_at hl 0 rfl) ?_
        refine lv_iload_n hx hb dX4_broken_15 rfl (lv_at hl 3 rfl) ?_
        refine lv_iload_n hx hb dX4_broken_16 rfl (lv_at hl 1 rfl) ?_
        refine lv_iload_n hx hb dX4_broken_17 rfl (lv_at hl 2 rfl) ?_
        refine sn_cV 3 0 hC hl (ct_X4_press l D cI cZ cR a f g kp tp ly nb n hI j b (by omega) (by first | exact hI.2.1 | omega) wt) gX4_broken_X4_press rfl (by decide +kernel) rfl ⟨Nat.le_of_ble_eq_true rfl, Nat.le_of_ble_eq_true rfl⟩ ⟨Nat.zero_le _, Nat.zero_le _⟩ hP hK hN rfl rfl rfl (Nat.le_of_ble_eq_true rfl) dX4_broken_18 ?_
        refine lv_iadd hx hb dX4_broken_21 ?_
        refine lv_aload_n hx hb dX4_broken_22 rfl (lv_at hl 0 rfl) ?_
        refine lv_iload_n hx hb dX4_broken_23 rfl (lv_at hl 3 rfl) ?_
        refine sn_cV 1 0 hC hl (ct_X4_strength l D cI cZ cR a f g kp tp ly nb n hI j (by have := hI.2.1; omega)) gX4_broken_X4_strength rfl (by decide +kernel) rfl ⟨Nat.le_of_ble_eq_true rfl, Nat.le_of_ble_eq_true rfl⟩ ⟨Nat.zero_le _, Nat.zero_le _⟩ hP hK hN rfl rfl rfl (Nat.le_of_ble_eq_true rfl) dX4_broken_24 ?_
        refine lv_icmp_lt (tgt := 32) hx hb dX4_broken_27 (by decide) (fun c_3 => ?_) (fun c_3 => ?_)
        · have c_3 := Int32.not_le.mpr c_3
          refine lv_iinc (v := (nI j) + (-1)) (lv' := [(3, .int ((nI j) + (-1))), (0, .ref (a 0)), (1, .int (nI b)), (2, .int wt)]) hx hb dX4_broken_32 hl (k := 3) rfl (rfl) (by decide) rfl (fun ls hl => ?_)
          refine lv_goto (tgt := 4) hx hb dX4_broken_35 (by decide) ?_
          exact ih_loop ((nI j) + (-1)) (sn_dn_p j) (by omega) ((if_neg c_3).symm.trans hq) ls (lv_sub hl [1, 2, 3, 0] rfl)
        · have c_3 := Int32.not_lt.mp c_3
          refine lv_iload_n hx hb dX4_broken_30 rfl (lv_at hl 3 rfl) ?_
          exact sn_ret hx hb hr hlk dX4_broken_31 (by rw [← hq, show sn_bkA f b wt (j + 1) = j + 1 from if_pos c_3]; rfl)
  exact loop (b - 1) ((nI b) - 2) (sn_dn_2 b) (Nat.le_refl _) rfl ls (lv_sub hl [1, 2, 3, 0] rfl)
set_option maxRecDepth 100000 in
set_option maxHeartbeats 4000000 in
theorem ct_X4_isClean (l : Launch) (D : va_G) (cI cZ cR : ClassId) (a : Nat → Nat) (f g kp tp ly : Nat → Int32) (nb : Int32) (n : Nat) (hI : sn_I f n) (i : Nat) (hi : i + 1 < n) : sn_Rd l yX4_isClean wsX4_isClean 1 [.ref (a 0), .int (nI i)] D (sn_ty cI cZ cR) (sn_wM cI cZ a f g kp tp ly nb) (sn_b (sn_cle f i)) := by
  refine sn_rd (cc := cX4_isClean) (maxL := 3) (ret := (some .boolean)) (by decide) rfl (Nat.le_of_ble_eq_true rfl) ?_
  intro p e s m below meth c hx hb hml hr hlk hts hown hP hK hN ls hl
  have hC : CallFix p m c cX4_isClean 3 s [.ref (a 0), .int (nI i)].toArray wsX4_isClean RX4 := ⟨hx, hb, hml, hown, hts⟩
  have hl : lv_has ls 3 [(0, .ref (a 0)), (1, .int (nI i))] := hl
  have huX4 : ∀ w ∈ wsX40, w ∈ wsX4_isClean := by decide +kernel
  have hn10 := hI.2.1
  refine lv_aload_n hx hb dX4_isClean_0 rfl (lv_at hl 0 rfl) ?_
  refine va_get (D := D) (ci := 3) (v := .ref (a 1)) (C := RX4) (T := TX4) (N := 6) hx hb hts huX4 hown hK hP 0 rfl rfl 0 (by decide) (hts (.fieldLink RX4 7 "SnowSlabsModel" "state" "[I") (by decide +kernel)) (fun _ h9 => h9) rfl dX4_isClean_1 ?_
  refine lv_iload_n hx hb dX4_isClean_4 rfl (lv_at hl 1 rfl) ?_
  refine lv_iconst (v := 1) hx hb dX4_isClean_5 (by decide) ?_
  refine lv_iadd hx hb dX4_isClean_6 ?_
  refine sn_top (sn_nadd (a := i) (b := 1) rfl rfl) ?_
  refine lv_iconst (v := 3) hx hb dX4_isClean_7 (by decide) ?_
  refine sn_cS 2 hC hl (ct_X4_at l D _ [] (i + 1) 3) gX4_isClean_X4_at rfl (by decide +kernel) rfl ⟨Nat.le_of_ble_eq_true rfl, Nat.le_of_ble_eq_true rfl⟩ ⟨Nat.zero_le _, Nat.zero_le _⟩ (fun _ _ h => by simp at h) hK hN rfl (Nat.le_of_ble_eq_true rfl) dX4_isClean_8 ?_
  refine sn_top (y := nI (10 + 5 * (i + 1))) (congrArg nI (show _ = 10 + 5 * (i + 1) by omega)) ?_
  refine sn_ild (k := 10 + 5 * (i + 1)) (v := f (10 + 5 * (i + 1))) 1 0 hx hb hK hP rfl rfl (by omega) (by decide) rfl (rfl) dX4_isClean_11 ?_
  refine lv_aload_n hx hb dX4_isClean_12 rfl (lv_at hl 0 rfl) ?_
  refine va_get (D := D) (ci := 3) (v := .ref (a 1)) (C := RX4) (T := TX4) (N := 6) hx hb hts huX4 hown hK hP 0 rfl rfl 0 (by decide) (hts (.fieldLink RX4 7 "SnowSlabsModel" "state" "[I") (by decide +kernel)) (fun _ h9 => h9) rfl dX4_isClean_13 ?_
  refine lv_iload_n hx hb dX4_isClean_16 rfl (lv_at hl 1 rfl) ?_
  refine lv_iconst (v := 3) hx hb dX4_isClean_17 (by decide) ?_
  refine sn_cS 2 hC hl (ct_X4_at l D _ [] i 3) gX4_isClean_X4_at rfl (by decide +kernel) rfl ⟨Nat.le_of_ble_eq_true rfl, Nat.le_of_ble_eq_true rfl⟩ ⟨Nat.zero_le _, Nat.zero_le _⟩ (fun _ _ h => by simp at h) hK hN rfl (Nat.le_of_ble_eq_true rfl) dX4_isClean_18 ?_
  refine sn_top (y := nI (10 + 5 * i)) (congrArg nI (show _ = 10 + 5 * i by omega)) ?_
  refine sn_ild (k := 10 + 5 * i) (v := f (10 + 5 * i)) 1 0 hx hb hK hP rfl rfl (by omega) (by decide) rfl (rfl) dX4_isClean_21 ?_
  refine lv_isub hx hb dX4_isClean_22 ?_
  refine lv_istore_n (lv' := [(2, .int ((f (10 + 5 * (i + 1))) - (f (10 + 5 * i)))), (0, .ref (a 0)), (1, .int (nI i))]) hx hb dX4_isClean_23 rfl hl (by decide) rfl (fun ls hl => ?_)
  refine lv_iload_n hx hb dX4_isClean_24 rfl (lv_at hl 0 rfl) ?_
  refine lv_iconst (v := 1) hx hb dX4_isClean_25 (by decide) ?_
  refine lv_icmp_gt (tgt := 34) hx hb dX4_isClean_26 (by decide) (fun c_1 => ?_) (fun c_1 => ?_)
  · refine lv_iconst (v := 1) hx hb dX4_isClean_34 (by decide) ?_
    refine lv_goto (tgt := 39) hx hb dX4_isClean_35 (by decide) ?_
    exact sn_zret hx hb hr hlk dX4_isClean_39 (by decide) (sn_b_t (by have l1 : (1 : Int32).toInt = 1 := rfl; have l2 : (2 : Int32).toInt = 2 := rfl; have l3 : (-1 : Int32).toInt = -1 := rfl; have l4 : (-2 : Int32).toInt = -2 := rfl; have l0 : (0 : Int32).toInt = 0 := rfl; simp only [sn_cle, sn_le, sn_lt, sn_eq] at c_1 ⊢; omega))
  · refine lv_iload_n hx hb dX4_isClean_29 rfl (lv_at hl 0 rfl) ?_
    refine lv_iconst (v := (-1)) hx hb dX4_isClean_30 (by decide) ?_
    refine lv_icmp_ge (tgt := 38) hx hb dX4_isClean_31 (by decide) (fun c_2 => ?_) (fun c_2 => ?_)
    · refine lv_iconst (v := 0) hx hb dX4_isClean_38 (by decide) ?_
      exact sn_zret hx hb hr hlk dX4_isClean_39 (by decide) (sn_b_f (by have l1 : (1 : Int32).toInt = 1 := rfl; have l2 : (2 : Int32).toInt = 2 := rfl; have l3 : (-1 : Int32).toInt = -1 := rfl; have l4 : (-2 : Int32).toInt = -2 := rfl; have l0 : (0 : Int32).toInt = 0 := rfl; simp only [sn_cle, sn_le, sn_lt, sn_eq] at c_1 c_2 ⊢; omega))
    · refine lv_iconst (v := 1) hx hb dX4_isClean_34 (by decide) ?_
      refine lv_goto (tgt := 39) hx hb dX4_isClean_35 (by decide) ?_
      exact sn_zret hx hb hr hlk dX4_isClean_39 (by decide) (sn_b_t (by have l1 : (1 : Int32).toInt = 1 := rfl; have l2 : (2 : Int32).toInt = 2 := rfl; have l3 : (-1 : Int32).toInt = -1 := rfl; have l4 : (-2 : Int32).toInt = -2 := rfl; have l0 : (0 : Int32).toInt = 0 := rfl; simp only [sn_cle, sn_le, sn_lt, sn_eq] at c_1 c_2 ⊢; omega))
set_option maxRecDepth 100000 in
set_option maxHeartbeats 4000000 in
theorem ct_X4_doesGo (l : Launch) (D : va_G) (cI cZ cR : ClassId) (a : Nat → Nat) (f g kp tp ly : Nat → Int32) (nb : Int32) (n : Nat) (hI : sn_I f n) (i : Nat) (hi : i < n) (st wt : Int32) : sn_Rd l yX4_doesGo wsX4_doesGo 3 [.ref (a 0), .int (nI i), .int st, .int wt] D (sn_ty cI cZ cR) (sn_wM cI cZ a f g kp tp ly nb) (sn_b (sn_Go f n st wt i)) := by
  refine sn_rd (cc := cX4_doesGo) (maxL := 4) (ret := (some .boolean)) (by decide) rfl (Nat.le_of_ble_eq_true rfl) ?_
  intro p e s m below meth c hx hb hml hr hlk hts hown hP hK hN ls hl
  have hC : CallFix p m c cX4_doesGo 4 s [.ref (a 0), .int (nI i), .int st, .int wt].toArray wsX4_doesGo RX4 := ⟨hx, hb, hml, hown, hts⟩
  have hl : lv_has ls 4 [(0, .ref (a 0)), (1, .int (nI i)), (2, .int st), (3, .int wt)] := hl
  have huX4 : ∀ w ∈ wsX40, w ∈ wsX4_doesGo := by decide +kernel
  refine lv_aload_n hx hb dX4_doesGo_0 rfl (lv_at hl 0 rfl) ?_
  refine lv_iload_n hx hb dX4_doesGo_1 rfl (lv_at hl 1 rfl) ?_
  refine lv_iload_n hx hb dX4_doesGo_2 rfl (lv_at hl 2 rfl) ?_
  refine sn_cV 2 0 hC hl (ct_X4_shear l D cI cZ cR a f g kp tp ly nb n hI i (by omega) st) gX4_doesGo_X4_shear rfl (by decide +kernel) rfl ⟨Nat.le_of_ble_eq_true rfl, Nat.le_of_ble_eq_true rfl⟩ ⟨Nat.zero_le _, Nat.zero_le _⟩ hP hK hN rfl rfl rfl (Nat.le_of_ble_eq_true rfl) dX4_doesGo_3 ?_
  refine lv_aload_n hx hb dX4_doesGo_6 rfl (lv_at hl 0 rfl) ?_
  refine lv_iload_n hx hb dX4_doesGo_7 rfl (lv_at hl 1 rfl) ?_
  refine lv_aload_n hx hb dX4_doesGo_8 rfl (lv_at hl 0 rfl) ?_
  refine va_get (D := D) (ci := 3) (v := .ref (a 1)) (C := RX4) (T := TX4) (N := 6) hx hb hts huX4 hown hK hP 0 rfl rfl 0 (by decide) (hts (.fieldLink RX4 7 "SnowSlabsModel" "state" "[I") (by decide +kernel)) (fun _ h9 => h9) rfl dX4_doesGo_9 ?_
  refine lv_iconst (v := 0) hx hb dX4_doesGo_12 (by decide) ?_
  refine sn_ild (k := 0) (v := f 0) 1 0 hx hb hK hP rfl rfl (by omega) (by decide) rfl (rfl) dX4_doesGo_13 ?_
  refine sn_top (hI.1) ?_
  refine lv_iload_n hx hb dX4_doesGo_14 rfl (lv_at hl 3 rfl) ?_
  refine sn_cV 3 0 hC hl (ct_X4_press l D cI cZ cR a f g kp tp ly nb n hI i n (by omega) (by first | exact hI.2.1 | omega) wt) gX4_doesGo_X4_press rfl (by decide +kernel) rfl ⟨Nat.le_of_ble_eq_true rfl, Nat.le_of_ble_eq_true rfl⟩ ⟨Nat.zero_le _, Nat.zero_le _⟩ hP hK hN rfl rfl rfl (Nat.le_of_ble_eq_true rfl) dX4_doesGo_15 ?_
  refine lv_iadd hx hb dX4_doesGo_18 ?_
  refine lv_aload_n hx hb dX4_doesGo_19 rfl (lv_at hl 0 rfl) ?_
  refine lv_iload_n hx hb dX4_doesGo_20 rfl (lv_at hl 1 rfl) ?_
  refine sn_cV 1 0 hC hl (ct_X4_strength l D cI cZ cR a f g kp tp ly nb n hI i (by have := hI.2.1; omega)) gX4_doesGo_X4_strength rfl (by decide +kernel) rfl ⟨Nat.le_of_ble_eq_true rfl, Nat.le_of_ble_eq_true rfl⟩ ⟨Nat.zero_le _, Nat.zero_le _⟩ hP hK hN rfl rfl rfl (Nat.le_of_ble_eq_true rfl) dX4_doesGo_21 ?_
  refine lv_icmp_lt (tgt := 31) hx hb dX4_doesGo_24 (by decide) (fun c_1 => ?_) (fun c_1 => ?_)
  · have c_1 := Int32.not_le.mpr c_1
    refine lv_iconst (v := 0) hx hb dX4_doesGo_31 (by decide) ?_
    exact sn_zret hx hb hr hlk dX4_doesGo_32 (by decide) (sn_b_f c_1)
  · have c_1 := Int32.not_lt.mp c_1
    refine lv_iconst (v := 1) hx hb dX4_doesGo_27 (by decide) ?_
    refine lv_goto (tgt := 32) hx hb dX4_doesGo_28 (by decide) ?_
    exact sn_zret hx hb hr hlk dX4_doesGo_32 (by decide) (sn_b_t c_1)
set_option maxRecDepth 100000 in
set_option maxHeartbeats 4000000 in
theorem ct_X4_goes (l : Launch) (D : va_G) (cI cZ cR : ClassId) (a : Nat → Nat) (f g kp tp ly : Nat → Int32) (nb : Int32) (n : Nat) (hI : sn_I f n) (x y z : Int32) : sn_Rd l yX4_goes wsX4_goes 4 [.ref (a 0), .int x, .int y, .int z] D (sn_ty cI cZ cR) (sn_wM cI cZ a f g kp tp ly nb) (sn_Rgoes f n x y z) := by
  refine sn_rd (cc := cX4_goes) (maxL := 4) (ret := (some .int)) (by decide) rfl (Nat.le_of_ble_eq_true rfl) ?_
  intro p e s m below meth c hx hb hml hr hlk hts hown hP hK hN ls hl
  have hC : CallFix p m c cX4_goes 4 s [.ref (a 0), .int x, .int y, .int z].toArray wsX4_goes RX4 := ⟨hx, hb, hml, hown, hts⟩
  have hl : lv_has ls 4 [(0, .ref (a 0)), (1, .int x), (2, .int y), (3, .int z)] := hl
  have hn10 := hI.2.1
  refine lv_aload_n hx hb dX4_goes_0 rfl (lv_at hl 0 rfl) ?_
  refine lv_iload_n hx hb dX4_goes_1 rfl (lv_at hl 1 rfl) ?_
  refine sn_cV 1 0 hC hl (ct_X4_isLayer l D cI cZ cR a f g kp tp ly nb n hI x) gX4_goes_X4_isLayer rfl (by decide +kernel) rfl ⟨Nat.le_of_ble_eq_true rfl, Nat.le_of_ble_eq_true rfl⟩ ⟨Nat.zero_le _, Nat.zero_le _⟩ hP hK hN rfl rfl rfl (Nat.le_of_ble_eq_true rfl) dX4_goes_2 ?_
  refine lv_if_ne (tgt := 10) hx hb dX4_goes_5 (by decide) (fun c_1 => ?_) (fun c_1 => ?_)
  · have c_1 : 0 ≤ x ∧ x ≤ nI n - 1 := sn_b_nz.mp c_1
    obtain ⟨i, hi, hie⟩ := sn_isL hn10 c_1
    subst hie
    refine lv_iload_n hx hb dX4_goes_10 rfl (lv_at hl 2 rfl) ?_
    refine sn_cS 1 hC hl (ct_X4_isSteep l D _ [] y) gX4_goes_X4_isSteep rfl (by decide +kernel) rfl ⟨Nat.le_of_ble_eq_true rfl, Nat.le_of_ble_eq_true rfl⟩ ⟨Nat.zero_le _, Nat.zero_le _⟩ (fun _ _ h => by simp at h) hK hN rfl (Nat.le_of_ble_eq_true rfl) dX4_goes_11 ?_
    refine lv_if_eq (tgt := 27) hx hb dX4_goes_14 (by decide) (fun c_2 => ?_) (fun c_2 => ?_)
    · have c_2 : ¬ (0 ≤ y ∧ y ≤ 100) := sn_b_z.mp c_2
      refine lv_bipush (v := (-2)) hx hb dX4_goes_27 (by decide) ?_
      exact sn_ret hx hb hr hlk dX4_goes_29 (((if_pos c_1).trans (if_neg (fun h => c_2 h.1))).symm)
    · have c_2 : 0 ≤ y ∧ y ≤ 100 := sn_b_nz.mp c_2
      refine lv_iload_n hx hb dX4_goes_17 rfl (lv_at hl 3 rfl) ?_
      refine lv_iconst (v := 0) hx hb dX4_goes_18 (by decide) ?_
      refine lv_bipush (v := 99) hx hb dX4_goes_19 (by decide) ?_
      refine sn_cS 3 hC hl (ct_X4_in l D _ [] z 0 99) gX4_goes_X4_in rfl (by decide +kernel) rfl ⟨Nat.le_of_ble_eq_true rfl, Nat.le_of_ble_eq_true rfl⟩ ⟨Nat.zero_le _, Nat.zero_le _⟩ (fun _ _ h => by simp at h) hK hN rfl (Nat.le_of_ble_eq_true rfl) dX4_goes_21 ?_
      refine lv_if_ne (tgt := 30) hx hb dX4_goes_24 (by decide) (fun c_3 => ?_) (fun c_3 => ?_)
      · have c_3 : 0 ≤ z ∧ z ≤ 99 := sn_b_nz.mp c_3
        refine lv_iload_n hx hb dX4_goes_30 rfl (lv_at hl 1 rfl) ?_
        refine lv_aload_n hx hb dX4_goes_31 rfl (lv_at hl 0 rfl) ?_
        refine sn_cV 0 0 hC hl (ct_X4_top l D cI cZ cR a f g kp tp ly nb n hI.1) gX4_goes_X4_top rfl (by decide +kernel) rfl ⟨Nat.le_of_ble_eq_true rfl, Nat.le_of_ble_eq_true rfl⟩ ⟨Nat.zero_le _, Nat.zero_le _⟩ hP hK hN rfl rfl rfl (Nat.le_of_ble_eq_true rfl) dX4_goes_32 ?_
        refine lv_icmp_ne (tgt := 41) hx hb dX4_goes_35 (by decide) (fun c_4 => ?_) (fun c_4 => ?_)
        · refine lv_aload_n hx hb dX4_goes_41 rfl (lv_at hl 0 rfl) ?_
          refine lv_iload_n hx hb dX4_goes_42 rfl (lv_at hl 1 rfl) ?_
          refine lv_iload_n hx hb dX4_goes_43 rfl (lv_at hl 2 rfl) ?_
          refine lv_iload_n hx hb dX4_goes_44 rfl (lv_at hl 3 rfl) ?_
          refine sn_cV 3 0 hC hl (ct_X4_doesGo l D cI cZ cR a f g kp tp ly nb n hI i (by omega) y z) gX4_goes_X4_doesGo rfl (by decide +kernel) rfl ⟨Nat.le_of_ble_eq_true rfl, Nat.le_of_ble_eq_true rfl⟩ ⟨Nat.zero_le _, Nat.zero_le _⟩ hP hK hN rfl rfl rfl (Nat.le_of_ble_eq_true rfl) dX4_goes_45 ?_
          refine lv_if_eq (tgt := 55) hx hb dX4_goes_48 (by decide) (fun c_5 => ?_) (fun c_5 => ?_)
          · have c_5 : ¬ (sn_Go f n y z i) := sn_b_z.mp c_5
            refine lv_iconst (v := 0) hx hb dX4_goes_55 (by decide) ?_
            exact sn_ret hx hb hr hlk dX4_goes_56 (((if_pos c_1).trans ((if_pos (⟨c_2, c_3⟩)).trans ((if_neg c_4).trans (by rw [nI_clamp (by omega)]; exact (sn_b_f c_5).symm)))).symm)
          · have c_5 : sn_Go f n y z i := sn_b_nz.mp c_5
            refine lv_iconst (v := 1) hx hb dX4_goes_51 (by decide) ?_
            refine lv_goto (tgt := 56) hx hb dX4_goes_52 (by decide) ?_
            exact sn_ret hx hb hr hlk dX4_goes_56 (((if_pos c_1).trans ((if_pos (⟨c_2, c_3⟩)).trans ((if_neg c_4).trans (by rw [nI_clamp (by omega)]; exact (sn_b_t c_5).symm)))).symm)
        · refine lv_bipush (v := (-3)) hx hb dX4_goes_38 (by decide) ?_
          exact sn_ret hx hb hr hlk dX4_goes_40 (((if_pos c_1).trans ((if_pos (⟨c_2, c_3⟩)).trans (if_pos c_4))).symm)
      · have c_3 : ¬ (0 ≤ z ∧ z ≤ 99) := sn_b_z.mp c_3
        refine lv_bipush (v := (-2)) hx hb dX4_goes_27 (by decide) ?_
        exact sn_ret hx hb hr hlk dX4_goes_29 (((if_pos c_1).trans (if_neg (fun h => c_3 h.2))).symm)
  · have c_1 : ¬ (0 ≤ x ∧ x ≤ nI n - 1) := sn_b_z.mp c_1
    refine lv_iconst (v := (-1)) hx hb dX4_goes_8 (by decide) ?_
    exact sn_ret hx hb hr hlk dX4_goes_9 ((if_neg c_1).symm)
set_option maxRecDepth 100000 in
set_option maxHeartbeats 4000000 in
theorem ct_X4_steep (l : Launch) (D : va_G) (cI cZ cR : ClassId) (a : Nat → Nat) (f g kp tp ly : Nat → Int32) (nb : Int32) (n : Nat) (hI : sn_I f n) (x y : Int32) : sn_Rd l yX4_steep wsX4_steep 4 [.ref (a 0), .int x, .int y] D (sn_ty cI cZ cR) (sn_wM cI cZ a f g kp tp ly nb) (sn_Rsteep f n x y) := by
  refine sn_rd (cc := cX4_steep) (maxL := 5) (ret := (some .int)) (by decide) rfl (Nat.le_of_ble_eq_true rfl) ?_
  intro p e s m below meth c hx hb hml hr hlk hts hown hP hK hN ls hl
  have hC : CallFix p m c cX4_steep 5 s [.ref (a 0), .int x, .int y].toArray wsX4_steep RX4 := ⟨hx, hb, hml, hown, hts⟩
  have hl : lv_has ls 5 [(0, .ref (a 0)), (1, .int x), (2, .int y)] := hl
  have hn10 := hI.2.1
  refine lv_iload_n hx hb dX4_steep_0 rfl (lv_at hl 1 rfl) ?_
  refine lv_iconst (v := 0) hx hb dX4_steep_1 (by decide) ?_
  refine lv_bipush (v := 99) hx hb dX4_steep_2 (by decide) ?_
  refine sn_cS 3 hC hl (ct_X4_in l D _ [] x 0 99) gX4_steep_X4_in rfl (by decide +kernel) rfl ⟨Nat.le_of_ble_eq_true rfl, Nat.le_of_ble_eq_true rfl⟩ ⟨Nat.zero_le _, Nat.zero_le _⟩ (fun _ _ h => by simp at h) hK hN rfl (Nat.le_of_ble_eq_true rfl) dX4_steep_4 ?_
  refine lv_if_eq (tgt := 19) hx hb dX4_steep_7 (by decide) (fun c_1 => ?_) (fun c_1 => ?_)
  · have c_1 : ¬ (0 ≤ x ∧ x ≤ 99) := sn_b_z.mp c_1
    refine lv_bipush (v := (-2)) hx hb dX4_steep_19 (by decide) ?_
    exact sn_ret hx hb hr hlk dX4_steep_21 ((if_neg (fun h => c_1 h.1)).symm)
  · have c_1 : 0 ≤ x ∧ x ≤ 99 := sn_b_nz.mp c_1
    refine lv_iload_n hx hb dX4_steep_10 rfl (lv_at hl 2 rfl) ?_
    refine lv_iconst (v := 0) hx hb dX4_steep_11 (by decide) ?_
    refine lv_iconst (v := 1) hx hb dX4_steep_12 (by decide) ?_
    refine sn_cS 3 hC hl (ct_X4_in l D _ [] y 0 1) gX4_steep_X4_in rfl (by decide +kernel) rfl ⟨Nat.le_of_ble_eq_true rfl, Nat.le_of_ble_eq_true rfl⟩ ⟨Nat.zero_le _, Nat.zero_le _⟩ (fun _ _ h => by simp at h) hK hN rfl (Nat.le_of_ble_eq_true rfl) dX4_steep_13 ?_
    refine lv_if_ne (tgt := 22) hx hb dX4_steep_16 (by decide) (fun c_2 => ?_) (fun c_2 => ?_)
    · have c_2 : 0 ≤ y ∧ y ≤ 1 := sn_b_nz.mp c_2
      refine lv_iconst (v := 0) hx hb dX4_steep_22 (by decide) ?_
      refine lv_istore_n (lv' := [(3, .int 0), (0, .ref (a 0)), (1, .int x), (2, .int y)]) hx hb dX4_steep_23 rfl hl (by decide) rfl (fun ls hl => ?_)
      have loopO : ∀ (fu : Nat) (k : Nat), (k ≤ 101) → (sn_stp f n x y (101 - k) k = sn_stp f n x y 101 0) → 101 - k < fu → ∀ ls : Array Slot, lv_has ls 5 [(0, .ref (a 0)), (1, .int x), (2, .int y), (3, .int (nI k))] → W p l e (sn_rm 4 0 0) s m [.ref (a 0), .int x, .int y].toArray below meth c s.heap [] 0 0 (MQ below (vp_Si (fun r_ => r_ = (sn_Rsteep f n x y))) [.ref (a 0), .int x, .int y].toArray s 0 0 (fun _ => False)) (F0 m 24 ls []) := by
        intro fu
        induction fu with
        | zero => intro k h1 hq hm; exact absurd hm (Nat.not_lt_zero _)
        | succ fu ih_loopO =>
          intro k h1 hq hm ls hl
          refine lv_iload_n hx hb dX4_steep_24 rfl (lv_at hl 3 rfl) ?_
          refine lv_bipush (v := 100) hx hb dX4_steep_25 (by decide) ?_
          refine lv_icmp_gt (tgt := 77) hx hb dX4_steep_27 (by decide) (fun c_3 => ?_) (fun c_3 => ?_)
          · have c_3 := (sn_cgtj (a := k) (b := 100) rfl rfl (by omega) (by omega)).mp c_3
            refine lv_bipush (v := (-6)) hx hb dX4_steep_77 (by decide) ?_
            exact sn_ret hx hb hr hlk dX4_steep_79 (((if_pos (⟨c_1, c_2⟩)).trans (hq.symm.trans (by rw [show k = 101 by omega]; rfl))).symm)
          · have c_3 := (sn_cgtf (a := k) (b := 100) rfl rfl (by omega) (by omega)).mp c_3
            refine lv_aload_n hx hb dX4_steep_30 rfl (lv_at hl 0 rfl) ?_
            refine sn_cV 0 0 hC hl (ct_X4_top l D cI cZ cR a f g kp tp ly nb n hI.1) gX4_steep_X4_top rfl (by decide +kernel) rfl ⟨Nat.le_of_ble_eq_true rfl, Nat.le_of_ble_eq_true rfl⟩ ⟨Nat.zero_le _, Nat.zero_le _⟩ hP hK hN rfl rfl rfl (Nat.le_of_ble_eq_true rfl) dX4_steep_31 ?_
            refine lv_iconst (v := 1) hx hb dX4_steep_34 (by decide) ?_
            refine lv_isub hx hb dX4_steep_35 ?_
            refine lv_istore (lv' := [(4, .int ((nI n - 1) - 1)), (0, .ref (a 0)), (1, .int x), (2, .int y), (3, .int (nI k))]) hx hb dX4_steep_36 hl (by decide) rfl (fun ls hl => ?_)
            have loopI : ∀ (j : Nat) (xj : Int32) , sn_dn j xj → (j ≤ n - 1) → (sn_gnA f n (nI k) x j = sn_gn f n (nI k) x) → ∀ ls : Array Slot, lv_has ls 5 [(0, .ref (a 0)), (1, .int x), (2, .int y), (3, .int (nI k)), (4, .int xj)] → W p l e (sn_rm 4 0 0) s m [.ref (a 0), .int x, .int y].toArray below meth c s.heap [] 0 0 (MQ below (vp_Si (fun r_ => r_ = (sn_Rsteep f n x y))) [.ref (a 0), .int x, .int y].toArray s 0 0 (fun _ => False)) (F0 m 38 ls []) := by
              intro j
              induction j with
              | zero =>
                intro xj  hdn hj hq2 ls hl
                have hdn : xj < 0 := hdn
                refine lv_iload hx hb dX4_steep_38 (lv_at hl 4 rfl) ?_
                refine lv_if_lt (tgt := 71) hx hb dX4_steep_40 (by decide) (fun c_4 => ?_) (fun c_4 => ?_)
                · refine lv_iinc (v := nI (k + 1)) (lv' := [(3, .int (nI (k + 1))), (0, .ref (a 0)), (1, .int x), (2, .int y), (4, .int xj)]) hx hb dX4_steep_71 hl (k := 3) rfl (sn_inc _) (by decide) rfl (fun ls hl => ?_)
                  refine lv_goto (tgt := 24) hx hb dX4_steep_74 (by decide) ?_
                  exact ih_loopO (k + 1) (by omega) ((sn_stp_z (by omega) (show _ = 0 from hq2.symm)).symm.trans hq) (by omega) ls (lv_sub hl [1, 2, 3, 0] rfl)
                · exact absurd hdn c_4
              | succ j ih_loopI =>
                intro xj  hdn hj hq2 ls hl
                have hdn : xj = nI j := hdn
                subst hdn
                refine lv_iload hx hb dX4_steep_38 (lv_at hl 4 rfl) ?_
                refine lv_if_lt (tgt := 71) hx hb dX4_steep_40 (by decide) (fun c_5 => ?_) (fun c_5 => ?_)
                · have c_5 := (sn_cltj (a := j) (b := 0) rfl rfl (by omega) (by omega)).mp c_5
                  exact absurd c_5 (by omega)
                · have c_5 := (sn_cltf (a := j) (b := 0) rfl rfl (by omega) (by omega)).mp c_5
                  refine lv_aload_n hx hb dX4_steep_43 rfl (lv_at hl 0 rfl) ?_
                  refine lv_iload hx hb dX4_steep_44 (lv_at hl 4 rfl) ?_
                  refine lv_iload_n hx hb dX4_steep_46 rfl (lv_at hl 3 rfl) ?_
                  refine lv_iload_n hx hb dX4_steep_47 rfl (lv_at hl 1 rfl) ?_
                  refine sn_cV 3 0 hC hl (ct_X4_doesGo l D cI cZ cR a f g kp tp ly nb n hI j (by omega) (nI k) x) gX4_steep_X4_doesGo rfl (by decide +kernel) rfl ⟨Nat.le_of_ble_eq_true rfl, Nat.le_of_ble_eq_true rfl⟩ ⟨Nat.zero_le _, Nat.zero_le _⟩ hP hK hN rfl rfl rfl (Nat.le_of_ble_eq_true rfl) dX4_steep_48 ?_
                  refine lv_if_eq (tgt := 65) hx hb dX4_steep_51 (by decide) (fun c_6 => ?_) (fun c_6 => ?_)
                  · have c_6 : ¬ (sn_Go f n (nI k) x j) := sn_b_z.mp c_6
                    refine lv_iinc (v := (nI j) + (-1)) (lv' := [(4, .int ((nI j) + (-1))), (0, .ref (a 0)), (1, .int x), (2, .int y), (3, .int (nI k))]) hx hb dX4_steep_65 hl (k := 4) rfl (rfl) (by decide) rfl (fun ls hl => ?_)
                    refine lv_goto (tgt := 38) hx hb dX4_steep_68 (by decide) ?_
                    exact ih_loopI ((nI j) + (-1)) (sn_dn_p j) (by omega) ((if_neg c_6).symm.trans hq2) ls (lv_sub hl [1, 2, 3, 4, 0] rfl)
                  · have c_6 : sn_Go f n (nI k) x j := sn_b_nz.mp c_6
                    have hg : sn_gn f n (nI k) x = j + 1 := by rw [← hq2]; exact if_pos c_6
                    refine lv_iload_n hx hb dX4_steep_54 rfl (lv_at hl 2 rfl) ?_
                    refine lv_if_ne (tgt := 62) hx hb dX4_steep_55 (by decide) (fun c_7 => ?_) (fun c_7 => ?_)
                    · refine lv_iload hx hb dX4_steep_62 (lv_at hl 4 rfl) ?_
                      exact sn_ret hx hb hr hlk dX4_steep_64 (((if_pos (⟨c_1, c_2⟩)).trans (hq.symm.trans ((sn_stp_p (by omega) (by rw [hg]; omega)).trans ((if_neg c_7).trans (by rw [hg]; rfl))))).symm)
                    · refine lv_iload_n hx hb dX4_steep_58 rfl (lv_at hl 3 rfl) ?_
                      refine lv_goto (tgt := 64) hx hb dX4_steep_59 (by decide) ?_
                      exact sn_ret hx hb hr hlk dX4_steep_64 (((if_pos (⟨c_1, c_2⟩)).trans (hq.symm.trans ((sn_stp_p (by omega) (by rw [hg]; omega)).trans (if_pos c_7)))).symm)
            exact loopI (n - 1) (nI n - 1 - 1) (sn_dn_11 n) (Nat.le_refl _) rfl ls (lv_sub hl [1, 2, 3, 4, 0] rfl)
      exact loopO ((101 - 0) + 1) 0 (Nat.zero_le _) rfl (by omega) ls (lv_sub hl [1, 2, 3, 0] rfl)
    · have c_2 : ¬ (0 ≤ y ∧ y ≤ 1) := sn_b_z.mp c_2
      refine lv_bipush (v := (-2)) hx hb dX4_steep_19 (by decide) ?_
      exact sn_ret hx hb hr hlk dX4_steep_21 ((if_neg (fun h => c_2 h.2)).symm)
set_option maxRecDepth 100000 in
set_option maxHeartbeats 4000000 in
theorem ct_X4_heat (l : Launch) (D : va_G) (cI cZ cR : ClassId) (a : Nat → Nat) (f g kp tp ly : Nat → Int32) (nb : Int32) (x y z : Int32) : sn_Rd l yX4_heat wsX4_heat 3 [.ref (a 0), .int x, .int y, .int z] D (sn_ty cI cZ cR) (sn_wM cI cZ a f g kp tp ly nb) (sn_Rheat x y z) := by
  refine sn_rd (cc := cX4_heat) (maxL := 4) (ret := (some .int)) (by decide) rfl (Nat.le_of_ble_eq_true rfl) ?_
  intro p e s m below meth c hx hb hml hr hlk hts hown hP hK hN ls hl
  have hC : CallFix p m c cX4_heat 4 s [.ref (a 0), .int x, .int y, .int z].toArray wsX4_heat RX4 := ⟨hx, hb, hml, hown, hts⟩
  have hl : lv_has ls 4 [(0, .ref (a 0)), (1, .int x), (2, .int y), (3, .int z)] := hl
  refine lv_iload_n hx hb dX4_heat_0 rfl (lv_at hl 1 rfl) ?_
  refine sn_cS 1 hC hl (ct_X4_isSide l D _ [] x) gX4_heat_X4_isSide rfl (by decide +kernel) rfl ⟨Nat.le_of_ble_eq_true rfl, Nat.le_of_ble_eq_true rfl⟩ ⟨Nat.zero_le _, Nat.zero_le _⟩ (fun _ _ h => by simp at h) hK hN rfl (Nat.le_of_ble_eq_true rfl) dX4_heat_1 ?_
  refine lv_if_ne (tgt := 9) hx hb dX4_heat_4 (by decide) (fun c_1 => ?_) (fun c_1 => ?_)
  · have c_1 : 0 ≤ x ∧ x ≤ 7 := sn_b_nz.mp c_1
    refine lv_iload_n hx hb dX4_heat_9 rfl (lv_at hl 2 rfl) ?_
    refine lv_iconst (v := 0) hx hb dX4_heat_10 (by decide) ?_
    refine lv_bipush (v := 23) hx hb dX4_heat_11 (by decide) ?_
    refine sn_cS 3 hC hl (ct_X4_in l D _ [] y 0 23) gX4_heat_X4_in rfl (by decide +kernel) rfl ⟨Nat.le_of_ble_eq_true rfl, Nat.le_of_ble_eq_true rfl⟩ ⟨Nat.zero_le _, Nat.zero_le _⟩ (fun _ _ h => by simp at h) hK hN rfl (Nat.le_of_ble_eq_true rfl) dX4_heat_13 ?_
    refine lv_if_eq (tgt := 28) hx hb dX4_heat_16 (by decide) (fun c_2 => ?_) (fun c_2 => ?_)
    · have c_2 : ¬ (0 ≤ y ∧ y ≤ 23) := sn_b_z.mp c_2
      refine lv_bipush (v := (-2)) hx hb dX4_heat_28 (by decide) ?_
      exact sn_ret hx hb hr hlk dX4_heat_30 (((if_pos c_1).trans (if_neg (fun h => c_2 h.1))).symm)
    · have c_2 : 0 ≤ y ∧ y ≤ 23 := sn_b_nz.mp c_2
      refine lv_iload_n hx hb dX4_heat_19 rfl (lv_at hl 3 rfl) ?_
      refine lv_iconst (v := 0) hx hb dX4_heat_20 (by decide) ?_
      refine lv_iconst (v := 1) hx hb dX4_heat_21 (by decide) ?_
      refine sn_cS 3 hC hl (ct_X4_in l D _ [] z 0 1) gX4_heat_X4_in rfl (by decide +kernel) rfl ⟨Nat.le_of_ble_eq_true rfl, Nat.le_of_ble_eq_true rfl⟩ ⟨Nat.zero_le _, Nat.zero_le _⟩ (fun _ _ h => by simp at h) hK hN rfl (Nat.le_of_ble_eq_true rfl) dX4_heat_22 ?_
      refine lv_if_ne (tgt := 31) hx hb dX4_heat_25 (by decide) (fun c_3 => ?_) (fun c_3 => ?_)
      · have c_3 : 0 ≤ z ∧ z ≤ 1 := sn_b_nz.mp c_3
        obtain ⟨i, hi1, hi2, hi3⟩ := sn_rng (lo := 0) (hi := 7) c_1 (by decide)
        subst hi3
        obtain ⟨h, hh1, hh2, hh3⟩ := sn_rng (lo := 0) (hi := 23) c_2 (by decide)
        subst hh3
        refine lv_iload_n hx hb dX4_heat_31 rfl (lv_at hl 3 rfl) ?_
        refine lv_if_ne (tgt := 43) hx hb dX4_heat_32 (by decide) (fun c_4 => ?_) (fun c_4 => ?_)
        · refine lv_iload_n hx hb dX4_heat_43 rfl (lv_at hl 1 rfl) ?_
          refine lv_iload_n hx hb dX4_heat_44 rfl (lv_at hl 2 rfl) ?_
          refine sn_cS 2 hC hl (ct_X4_heatTill l D _ [] i h (by omega) (by omega)) gX4_heat_X4_heatTill rfl (by decide +kernel) rfl ⟨Nat.le_of_ble_eq_true rfl, Nat.le_of_ble_eq_true rfl⟩ ⟨Nat.zero_le _, Nat.zero_le _⟩ (fun _ _ h => by simp at h) hK hN rfl (Nat.le_of_ble_eq_true rfl) dX4_heat_45 ?_
          exact sn_ret hx hb hr hlk dX4_heat_48 (((if_pos c_1).trans ((if_pos (⟨c_2, c_3⟩)).trans ((if_neg c_4).trans (by rw [nI_clamp (by omega), nI_clamp (by omega)])))).symm)
        · refine lv_iload_n hx hb dX4_heat_35 rfl (lv_at hl 1 rfl) ?_
          refine lv_iload_n hx hb dX4_heat_36 rfl (lv_at hl 2 rfl) ?_
          refine sn_cS 2 hC hl (ct_X4_heatIn l D _ [] i h (by omega) (by omega)) gX4_heat_X4_heatIn rfl (by decide +kernel) rfl ⟨Nat.le_of_ble_eq_true rfl, Nat.le_of_ble_eq_true rfl⟩ ⟨Nat.zero_le _, Nat.zero_le _⟩ (fun _ _ h => by simp at h) hK hN rfl (Nat.le_of_ble_eq_true rfl) dX4_heat_37 ?_
          refine lv_goto (tgt := 48) hx hb dX4_heat_40 (by decide) ?_
          exact sn_ret hx hb hr hlk dX4_heat_48 (((if_pos c_1).trans ((if_pos (⟨c_2, c_3⟩)).trans ((if_pos c_4).trans (by rw [nI_clamp (by omega), nI_clamp (by omega)])))).symm)
      · have c_3 : ¬ (0 ≤ z ∧ z ≤ 1) := sn_b_z.mp c_3
        refine lv_bipush (v := (-2)) hx hb dX4_heat_28 (by decide) ?_
        exact sn_ret hx hb hr hlk dX4_heat_30 (((if_pos c_1).trans (if_neg (fun h => c_3 h.2))).symm)
  · have c_1 : ¬ (0 ≤ x ∧ x ≤ 7) := sn_b_z.mp c_1
    refine lv_iconst (v := (-1)) hx hb dX4_heat_7 (by decide) ?_
    exact sn_ret hx hb hr hlk dX4_heat_8 ((if_neg c_1).symm)
set_option maxRecDepth 100000 in
set_option maxHeartbeats 4000000 in
theorem ct_X4_warm (l : Launch) (D : va_G) (cI cZ cR : ClassId) (a : Nat → Nat) (f g kp tp ly : Nat → Int32) (nb : Int32) (x y : Int32) : sn_Rd l yX4_warm wsX4_warm 4 [.ref (a 0), .int x, .int y] D (sn_ty cI cZ cR) (sn_wM cI cZ a f g kp tp ly nb) (sn_Rwarm x y) := by
  refine sn_rd (cc := cX4_warm) (maxL := 3) (ret := (some .int)) (by decide) rfl (Nat.le_of_ble_eq_true rfl) ?_
  intro p e s m below meth c hx hb hml hr hlk hts hown hP hK hN ls hl
  have hC : CallFix p m c cX4_warm 3 s [.ref (a 0), .int x, .int y].toArray wsX4_warm RX4 := ⟨hx, hb, hml, hown, hts⟩
  have hl : lv_has ls 3 [(0, .ref (a 0)), (1, .int x), (2, .int y)] := hl
  refine lv_iload_n hx hb dX4_warm_0 rfl (lv_at hl 1 rfl) ?_
  refine sn_cS 1 hC hl (ct_X4_isSide l D _ [] x) gX4_warm_X4_isSide rfl (by decide +kernel) rfl ⟨Nat.le_of_ble_eq_true rfl, Nat.le_of_ble_eq_true rfl⟩ ⟨Nat.zero_le _, Nat.zero_le _⟩ (fun _ _ h => by simp at h) hK hN rfl (Nat.le_of_ble_eq_true rfl) dX4_warm_1 ?_
  refine lv_if_ne (tgt := 9) hx hb dX4_warm_4 (by decide) (fun c_1 => ?_) (fun c_1 => ?_)
  · have c_1 : 0 ≤ x ∧ x ≤ 7 := sn_b_nz.mp c_1
    refine lv_iload_n hx hb dX4_warm_9 rfl (lv_at hl 2 rfl) ?_
    refine lv_iconst (v := 1) hx hb dX4_warm_10 (by decide) ?_
    refine lv_sipush (v := 999) hx hb dX4_warm_11 (by decide) ?_
    refine sn_cS 3 hC hl (ct_X4_in l D _ [] y 1 999) gX4_warm_X4_in rfl (by decide +kernel) rfl ⟨Nat.le_of_ble_eq_true rfl, Nat.le_of_ble_eq_true rfl⟩ ⟨Nat.zero_le _, Nat.zero_le _⟩ (fun _ _ h => by simp at h) hK hN rfl (Nat.le_of_ble_eq_true rfl) dX4_warm_14 ?_
    refine lv_if_eq (tgt := 28) hx hb dX4_warm_17 (by decide) (fun c_2 => ?_) (fun c_2 => ?_)
    · have c_2 : ¬ (1 ≤ y ∧ y ≤ 999) := sn_b_z.mp c_2
      refine lv_bipush (v := (-2)) hx hb dX4_warm_28 (by decide) ?_
      exact sn_ret hx hb hr hlk dX4_warm_30 (((if_pos c_1).trans (if_neg c_2)).symm)
    · have c_2 : 1 ≤ y ∧ y ≤ 999 := sn_b_nz.mp c_2
      obtain ⟨i, hi1, hi2, hi3⟩ := sn_rng (lo := 0) (hi := 7) c_1 (by decide)
      subst hi3
      obtain ⟨t, ht1, ht2, ht3⟩ := sn_rng (lo := 1) (hi := 999) c_2 (by decide)
      subst ht3
      refine lv_iload_n hx hb dX4_warm_20 rfl (lv_at hl 1 rfl) ?_
      refine lv_iload_n hx hb dX4_warm_21 rfl (lv_at hl 2 rfl) ?_
      refine sn_cS 2 hC hl (ct_X4_warmHour l D _ [] i t (by omega) (by omega)) gX4_warm_X4_warmHour rfl (by decide +kernel) rfl ⟨Nat.le_of_ble_eq_true rfl, Nat.le_of_ble_eq_true rfl⟩ ⟨Nat.zero_le _, Nat.zero_le _⟩ (fun _ _ h => by simp at h) hK hN rfl (Nat.le_of_ble_eq_true rfl) dX4_warm_22 ?_
      refine lv_goto (tgt := 30) hx hb dX4_warm_25 (by decide) ?_
      exact sn_ret hx hb hr hlk dX4_warm_30 (((if_pos c_1).trans ((if_pos c_2).trans (by rw [nI_clamp (by omega), nI_clamp (by omega)]))).symm)
  · have c_1 : ¬ (0 ≤ x ∧ x ≤ 7) := sn_b_z.mp c_1
    refine lv_iconst (v := (-1)) hx hb dX4_warm_7 (by decide) ?_
    exact sn_ret hx hb hr hlk dX4_warm_8 ((if_neg c_1).symm)
set_option maxRecDepth 100000 in
set_option maxHeartbeats 4000000 in
theorem ct_X4_order (l : Launch) (D : va_G) (cI cZ cR : ClassId) (a : Nat → Nat) (f g kp tp ly : Nat → Int32) (nb : Int32) (x y : Int32) : sn_Rd l yX4_order wsX4_order 4 [.ref (a 0), .int x, .int y] D (sn_ty cI cZ cR) (sn_wM cI cZ a f g kp tp ly nb) (sn_Rord x y) := by
  refine sn_rd (cc := cX4_order) (maxL := 6) (ret := (some .int)) (by decide) rfl (Nat.le_of_ble_eq_true rfl) ?_
  intro p e s m below meth c hx hb hml hr hlk hts hown hP hK hN ls hl
  have hC : CallFix p m c cX4_order 6 s [.ref (a 0), .int x, .int y].toArray wsX4_order RX4 := ⟨hx, hb, hml, hown, hts⟩
  have hl : lv_has ls 6 [(0, .ref (a 0)), (1, .int x), (2, .int y)] := hl
  refine lv_iload_n hx hb dX4_order_0 rfl (lv_at hl 1 rfl) ?_
  refine lv_iconst (v := 1) hx hb dX4_order_1 (by decide) ?_
  refine lv_sipush (v := 999) hx hb dX4_order_2 (by decide) ?_
  refine sn_cS 3 hC hl (ct_X4_in l D _ [] x 1 999) gX4_order_X4_in rfl (by decide +kernel) rfl ⟨Nat.le_of_ble_eq_true rfl, Nat.le_of_ble_eq_true rfl⟩ ⟨Nat.zero_le _, Nat.zero_le _⟩ (fun _ _ h => by simp at h) hK hN rfl (Nat.le_of_ble_eq_true rfl) dX4_order_5 ?_
  refine lv_if_ne (tgt := 14) hx hb dX4_order_8 (by decide) (fun c_1 => ?_) (fun c_1 => ?_)
  · have c_1 : 1 ≤ x ∧ x ≤ 999 := sn_b_nz.mp c_1
    obtain ⟨t, ht1, ht2, ht3⟩ := sn_rng (lo := 1) (hi := 999) c_1 (by decide)
    subst ht3
    refine lv_iconst (v := 0) hx hb dX4_order_14 (by decide) ?_
    refine lv_istore_n (lv' := [(3, .int 0), (0, .ref (a 0)), (1, .int (nI t)), (2, .int y)]) hx hb dX4_order_15 rfl hl (by decide) rfl (fun ls hl => ?_)
    refine lv_iconst (v := 0) hx hb dX4_order_16 (by decide) ?_
    refine lv_istore (lv' := [(4, .int 0), (3, .int 0), (0, .ref (a 0)), (1, .int (nI t)), (2, .int y)]) hx hb dX4_order_17 hl (by decide) rfl (fun ls hl => ?_)
    have loopO : ∀ (fu : Nat) (k : Nat) (v : Int32), (k ≤ 24) → (sn_pikM (sn_ro t (24 - k)) v y = sn_pikM (sn_ro t 24) 0 y) → 24 - k < fu → ∀ ls : Array Slot, lv_has ls 6 [(0, .ref (a 0)), (1, .int (nI t)), (2, .int y), (3, .int v), (4, .int (nI k))] → W p l e (sn_rm 4 0 0) s m [.ref (a 0), .int (nI t), .int y].toArray below meth c s.heap [] 0 0 (MQ below (vp_Si (fun r_ => r_ = (sn_Rord (nI t) y))) [.ref (a 0), .int (nI t), .int y].toArray s 0 0 (fun _ => False)) (F0 m 19 ls []) := by
      intro fu
      induction fu with
      | zero => intro k v h1 hq hm; exact absurd hm (Nat.not_lt_zero _)
      | succ fu ih_loopO =>
        intro k v h1 hq hm ls hl
        refine lv_iload hx hb dX4_order_19 (lv_at hl 4 rfl) ?_
        refine lv_bipush (v := 24) hx hb dX4_order_21 (by decide) ?_
        refine lv_icmp_ge (tgt := 70) hx hb dX4_order_23 (by decide) (fun c_2 => ?_) (fun c_2 => ?_)
        · have c_2 := (sn_cgej (a := k) (b := 24) rfl rfl (by omega) (by omega)).mp c_2
          refine lv_iload_n hx hb dX4_order_70 rfl (lv_at hl 2 rfl) ?_
          refine lv_iconst (v := (-1)) hx hb dX4_order_71 (by decide) ?_
          refine lv_icmp_ne (tgt := 79) hx hb dX4_order_72 (by decide) (fun c_3 => ?_) (fun c_3 => ?_)
          · refine lv_bipush (v := (-6)) hx hb dX4_order_79 (by decide) ?_
            exact sn_ret hx hb hr hlk dX4_order_81 (((if_pos c_1).trans ((congrArg (fun z => sn_pikM (sn_ro z 24) 0 y) (nI_clamp (by omega))).trans (hq.symm.trans (by rw [show k = 24 by omega]; exact if_neg c_3)))).symm)
          · refine lv_iload_n hx hb dX4_order_75 rfl (lv_at hl 3 rfl) ?_
            refine lv_goto (tgt := 81) hx hb dX4_order_76 (by decide) ?_
            exact sn_ret hx hb hr hlk dX4_order_81 (((if_pos c_1).trans ((congrArg (fun z => sn_pikM (sn_ro z 24) 0 y) (nI_clamp (by omega))).trans (hq.symm.trans (by rw [show k = 24 by omega]; exact if_pos c_3)))).symm)
        · have c_2 := (sn_cgef (a := k) (b := 24) rfl rfl (by omega) (by omega)).mp c_2
          refine lv_iconst (v := 0) hx hb dX4_order_26 (by decide) ?_
          refine lv_istore (lv' := [(5, .int 0), (0, .ref (a 0)), (1, .int (nI t)), (2, .int y), (3, .int v), (4, .int (nI k))]) hx hb dX4_order_27 hl (by decide) rfl (fun ls hl => ?_)
          have loopI : ∀ (fu : Nat) (q : Nat) (v2 : Int32), (q ≤ 8) → (sn_pikM (sn_ri t k (8 - q) ++ sn_ro t (24 - (k + 1))) v2 y = sn_pikM (sn_ro t 24) 0 y) → 8 - q < fu → ∀ ls : Array Slot, lv_has ls 6 [(0, .ref (a 0)), (1, .int (nI t)), (2, .int y), (3, .int v2), (4, .int (nI k)), (5, .int (nI q))] → W p l e (sn_rm 4 0 0) s m [.ref (a 0), .int (nI t), .int y].toArray below meth c s.heap [] 0 0 (MQ below (vp_Si (fun r_ => r_ = (sn_Rord (nI t) y))) [.ref (a 0), .int (nI t), .int y].toArray s 0 0 (fun _ => False)) (F0 m 29 ls []) := by
            intro fu
            induction fu with
            | zero => intro q v2 h2 hq2 hm; exact absurd hm (Nat.not_lt_zero _)
            | succ fu ih_loopI =>
              intro q v2 h2 hq2 hm ls hl
              refine lv_iload hx hb dX4_order_29 (lv_at hl 5 rfl) ?_
              refine lv_bipush (v := 8) hx hb dX4_order_31 (by decide) ?_
              refine lv_icmp_ge (tgt := 64) hx hb dX4_order_33 (by decide) (fun c_4 => ?_) (fun c_4 => ?_)
              · have c_4 := (sn_cgej (a := q) (b := 8) rfl rfl (by omega) (by omega)).mp c_4
                refine lv_iinc (v := nI (k + 1)) (lv' := [(4, .int (nI (k + 1))), (0, .ref (a 0)), (1, .int (nI t)), (2, .int y), (3, .int v2), (5, .int (nI q))]) hx hb dX4_order_64 hl (k := 4) rfl (sn_inc _) (by decide) rfl (fun ls hl => ?_)
                refine lv_goto (tgt := 19) hx hb dX4_order_67 (by decide) ?_
                exact ih_loopO (k + 1) v2 (by omega) (by rw [← hq2, show 8 - q = 0 by omega]; rfl) (by omega) ls (lv_sub hl [1, 2, 3, 4, 0] rfl)
              · have c_4 := (sn_cgef (a := q) (b := 8) rfl rfl (by omega) (by omega)).mp c_4
                refine lv_iload hx hb dX4_order_36 (lv_at hl 5 rfl) ?_
                refine lv_iload_n hx hb dX4_order_38 rfl (lv_at hl 1 rfl) ?_
                refine sn_cS 2 hC hl (ct_X4_warmHour l D _ [] q t (by omega) (by omega)) gX4_order_X4_warmHour rfl (by decide +kernel) rfl ⟨Nat.le_of_ble_eq_true rfl, Nat.le_of_ble_eq_true rfl⟩ ⟨Nat.zero_le _, Nat.zero_le _⟩ (fun _ _ h => by simp at h) hK hN rfl (Nat.le_of_ble_eq_true rfl) dX4_order_39 ?_
                refine lv_iload hx hb dX4_order_42 (lv_at hl 4 rfl) ?_
                refine lv_icmp_ne (tgt := 58) hx hb dX4_order_44 (by decide) (fun c_5 => ?_) (fun c_5 => ?_)
                · have c_5 : ¬ sn_wh q t = k := fun z => c_5 ((sn_e24_eq (by omega)).mpr z)
                  refine lv_iinc (v := nI (q + 1)) (lv' := [(5, .int (nI (q + 1))), (0, .ref (a 0)), (1, .int (nI t)), (2, .int y), (3, .int v2), (4, .int (nI k))]) hx hb dX4_order_58 hl (k := 5) rfl (sn_inc _) (by decide) rfl (fun ls hl => ?_)
                  refine lv_goto (tgt := 29) hx hb dX4_order_61 (by decide) ?_
                  exact ih_loopI (q + 1) v2 (by omega) (by rw [← hq2, sn_ri_n (by omega) c_5]) (by omega) ls (lv_sub hl [1, 2, 3, 4, 5, 0] rfl)
                · have c_5 : sn_wh q t = k := (sn_e24_eq (by omega)).mp c_5
                  refine lv_iload_n hx hb dX4_order_47 rfl (lv_at hl 3 rfl) ?_
                  refine lv_iload_n hx hb dX4_order_48 rfl (lv_at hl 2 rfl) ?_
                  refine lv_icmp_ne (tgt := 55) hx hb dX4_order_49 (by decide) (fun c_6 => ?_) (fun c_6 => ?_)
                  · refine lv_iinc (v := v2 + 1) (lv' := [(3, .int (v2 + 1)), (0, .ref (a 0)), (1, .int (nI t)), (2, .int y), (4, .int (nI k)), (5, .int (nI q))]) hx hb dX4_order_55 hl (k := 3) rfl (rfl) (by decide) rfl (fun ls hl => ?_)
                    refine lv_iinc (v := nI (q + 1)) (lv' := [(5, .int (nI (q + 1))), (3, .int (v2 + 1)), (0, .ref (a 0)), (1, .int (nI t)), (2, .int y), (4, .int (nI k))]) hx hb dX4_order_58 hl (k := 5) rfl (sn_inc _) (by decide) rfl (fun ls hl => ?_)
                    refine lv_goto (tgt := 29) hx hb dX4_order_61 (by decide) ?_
                    exact ih_loopI (q + 1) (v2 + 1) (by omega) (by rw [← hq2, sn_ri_y (by omega) c_5]; exact (if_neg c_6).symm) (by omega) ls (lv_sub hl [2, 3, 4, 1, 5, 0] rfl)
                  · refine lv_iload hx hb dX4_order_52 (lv_at hl 5 rfl) ?_
                    exact sn_ret hx hb hr hlk dX4_order_54 (((if_pos c_1).trans ((congrArg (fun z => sn_pikM (sn_ro z 24) 0 y) (nI_clamp (by omega))).trans (hq2.symm.trans (by rw [sn_ri_y (by omega) c_5]; exact if_pos c_6)))).symm)
          exact loopI ((8 - 0) + 1) 0 v (Nat.zero_le _) (by rw [← hq, sn_ro_s (k := k) (by omega)]) (by omega) ls (lv_sub hl [1, 2, 3, 4, 5, 0] rfl)
    exact loopO ((24 - 0) + 1) 0 0 (Nat.zero_le _) rfl (by omega) ls (lv_sub hl [2, 3, 4, 1, 0] rfl)
  · have c_1 : ¬ (1 ≤ x ∧ x ≤ 999) := sn_b_z.mp c_1
    refine lv_bipush (v := (-2)) hx hb dX4_order_11 (by decide) ?_
    exact sn_ret hx hb hr hlk dX4_order_13 ((if_neg c_1).symm)
set_option maxRecDepth 100000 in
set_option maxHeartbeats 4000000 in
theorem ct_X4_allThick (l : Launch) (D : va_G) (cI cZ cR : ClassId) (a : Nat → Nat) (f g kp tp ly : Nat → Int32) (nb : Int32) (n : Nat) (hI : sn_I f n) : sn_Rd l yX4_allThick wsX4_allThick 2 [.ref (a 0)] D (sn_ty cI cZ cR) (sn_wM cI cZ a f g kp tp ly nb) (sn_dep f 0 n) := by
  refine sn_rd (cc := cX4_allThick) (maxL := 1) (ret := (some .int)) (by decide) rfl (Nat.le_of_ble_eq_true rfl) ?_
  intro p e s m below meth c hx hb hml hr hlk hts hown hP hK hN ls hl
  have hC : CallFix p m c cX4_allThick 1 s [.ref (a 0)].toArray wsX4_allThick RX4 := ⟨hx, hb, hml, hown, hts⟩
  have hl : lv_has ls 1 [(0, .ref (a 0))] := hl
  have huX4 : ∀ w ∈ wsX40, w ∈ wsX4_allThick := by decide +kernel
  refine lv_aload_n hx hb dX4_allThick_0 rfl (lv_at hl 0 rfl) ?_
  refine lv_iconst (v := (-1)) hx hb dX4_allThick_1 (by decide) ?_
  refine lv_aload_n hx hb dX4_allThick_2 rfl (lv_at hl 0 rfl) ?_
  refine va_get (D := D) (ci := 3) (v := .ref (a 1)) (C := RX4) (T := TX4) (N := 6) hx hb hts huX4 hown hK hP 0 rfl rfl 0 (by decide) (hts (.fieldLink RX4 7 "SnowSlabsModel" "state" "[I") (by decide +kernel)) (fun _ h9 => h9) rfl dX4_allThick_3 ?_
  refine lv_iconst (v := 0) hx hb dX4_allThick_6 (by decide) ?_
  refine sn_ild (k := 0) (v := f 0) 1 0 hx hb hK hP rfl rfl (by omega) (by decide) rfl (rfl) dX4_allThick_7 ?_
  refine sn_top (hI.1) ?_
  refine sn_cV 2 0 hC hl (ct_X4_depth l D cI cZ cR a f g kp tp ly nb (-1) 0 n (by decide) (by omega) (by first | exact hI.2.1 | omega)) gX4_allThick_X4_depth rfl (by decide +kernel) rfl ⟨Nat.le_of_ble_eq_true rfl, Nat.le_of_ble_eq_true rfl⟩ ⟨Nat.zero_le _, Nat.zero_le _⟩ hP hK hN rfl rfl rfl (Nat.le_of_ble_eq_true rfl) dX4_allThick_8 ?_
  exact sn_ret hx hb hr hlk dX4_allThick_11 (rfl)
set_option maxRecDepth 100000 in
set_option maxHeartbeats 4000000 in
theorem ct_X4_allWeight (l : Launch) (D : va_G) (cI cZ cR : ClassId) (a : Nat → Nat) (f g kp tp ly : Nat → Int32) (nb : Int32) (n : Nat) (hI : sn_I f n) : sn_Rd l yX4_allWeight wsX4_allWeight 1 [.ref (a 0)] D (sn_ty cI cZ cR) (sn_wM cI cZ a f g kp tp ly nb) (sn_mas f 0 n) := by
  refine sn_rd (cc := cX4_allWeight) (maxL := 3) (ret := (some .int)) (by decide) rfl (Nat.le_of_ble_eq_true rfl) ?_
  intro p e s m below meth c hx hb hml hr hlk hts hown hP hK hN ls hl
  have hC : CallFix p m c cX4_allWeight 3 s [.ref (a 0)].toArray wsX4_allWeight RX4 := ⟨hx, hb, hml, hown, hts⟩
  have hl : lv_has ls 3 [(0, .ref (a 0))] := hl
  have huX4 : ∀ w ∈ wsX40, w ∈ wsX4_allWeight := by decide +kernel
  have hn10 := hI.2.1
  refine lv_iconst (v := 0) hx hb dX4_allWeight_0 (by decide) ?_
  refine lv_istore_n (lv' := [(1, .int 0), (0, .ref (a 0))]) hx hb dX4_allWeight_1 rfl hl (by decide) rfl (fun ls hl => ?_)
  refine lv_iconst (v := 0) hx hb dX4_allWeight_2 (by decide) ?_
  refine lv_istore_n (lv' := [(2, .int 0), (1, .int 0), (0, .ref (a 0))]) hx hb dX4_allWeight_3 rfl hl (by decide) rfl (fun ls hl => ?_)
  have loop : ∀ (fu : Nat) (k : Nat), (k ≤ n) → n - k < fu → ∀ ls : Array Slot, lv_has ls 3 [(0, .ref (a 0)), (1, .int (sn_mas f 0 k)), (2, .int (nI k))] → W p l e (sn_rm 1 0 0) s m [.ref (a 0)].toArray below meth c s.heap [] 0 0 (MQ below (vp_Si (fun r_ => r_ = (sn_mas f 0 n))) [.ref (a 0)].toArray s 0 0 (fun _ => False)) (F0 m 4 ls []) := by
    intro fu
    induction fu with
    | zero => intro k h1 hm; exact absurd hm (Nat.not_lt_zero _)
    | succ fu ih_loop =>
      intro k h1 hm ls hl
      refine lv_iload_n hx hb dX4_allWeight_4 rfl (lv_at hl 2 rfl) ?_
      refine lv_aload_n hx hb dX4_allWeight_5 rfl (lv_at hl 0 rfl) ?_
      refine va_get (D := D) (ci := 3) (v := .ref (a 1)) (C := RX4) (T := TX4) (N := 6) hx hb hts huX4 hown hK hP 0 rfl rfl 0 (by decide) (hts (.fieldLink RX4 7 "SnowSlabsModel" "state" "[I") (by decide +kernel)) (fun _ h9 => h9) rfl dX4_allWeight_6 ?_
      refine lv_iconst (v := 0) hx hb dX4_allWeight_9 (by decide) ?_
      refine sn_ild (k := 0) (v := f 0) 1 0 hx hb hK hP rfl rfl (by omega) (by decide) rfl (rfl) dX4_allWeight_10 ?_
      refine sn_top (hI.1) ?_
      refine lv_icmp_ge (tgt := 44) hx hb dX4_allWeight_11 (by decide) (fun c_1 => ?_) (fun c_1 => ?_)
      · have c_1 := (sn_cgej (a := k) (b := n) rfl rfl (by omega) (by omega)).mp c_1
        refine lv_iload_n hx hb dX4_allWeight_44 rfl (lv_at hl 1 rfl) ?_
        exact sn_ret hx hb hr hlk dX4_allWeight_45 (by rw [show k = n by omega])
      · have c_1 := (sn_cgef (a := k) (b := n) rfl rfl (by omega) (by omega)).mp c_1
        refine lv_iload_n hx hb dX4_allWeight_14 rfl (lv_at hl 1 rfl) ?_
        refine lv_aload_n hx hb dX4_allWeight_15 rfl (lv_at hl 0 rfl) ?_
        refine va_get (D := D) (ci := 3) (v := .ref (a 1)) (C := RX4) (T := TX4) (N := 6) hx hb hts huX4 hown hK hP 0 rfl rfl 0 (by decide) (hts (.fieldLink RX4 7 "SnowSlabsModel" "state" "[I") (by decide +kernel)) (fun _ h9 => h9) rfl dX4_allWeight_16 ?_
        refine lv_iload_n hx hb dX4_allWeight_19 rfl (lv_at hl 2 rfl) ?_
        refine lv_iconst (v := 0) hx hb dX4_allWeight_20 (by decide) ?_
        refine sn_cS 2 hC hl (ct_X4_at l D _ [] k 0) gX4_allWeight_X4_at rfl (by decide +kernel) rfl ⟨Nat.le_of_ble_eq_true rfl, Nat.le_of_ble_eq_true rfl⟩ ⟨Nat.zero_le _, Nat.zero_le _⟩ (fun _ _ h => by simp at h) hK hN rfl (Nat.le_of_ble_eq_true rfl) dX4_allWeight_21 ?_
        refine sn_top (y := nI (7 + 5 * k)) (congrArg nI (show _ = 7 + 5 * k by omega)) ?_
        refine sn_ild (k := 7 + 5 * k) (v := f (7 + 5 * k)) 1 0 hx hb hK hP rfl rfl (by omega) (by decide) rfl (rfl) dX4_allWeight_24 ?_
        refine lv_aload_n hx hb dX4_allWeight_25 rfl (lv_at hl 0 rfl) ?_
        refine va_get (D := D) (ci := 3) (v := .ref (a 1)) (C := RX4) (T := TX4) (N := 6) hx hb hts huX4 hown hK hP 0 rfl rfl 0 (by decide) (hts (.fieldLink RX4 7 "SnowSlabsModel" "state" "[I") (by decide +kernel)) (fun _ h9 => h9) rfl dX4_allWeight_26 ?_
        refine lv_iload_n hx hb dX4_allWeight_29 rfl (lv_at hl 2 rfl) ?_
        refine lv_iconst (v := 1) hx hb dX4_allWeight_30 (by decide) ?_
        refine sn_cS 2 hC hl (ct_X4_at l D _ [] k 1) gX4_allWeight_X4_at rfl (by decide +kernel) rfl ⟨Nat.le_of_ble_eq_true rfl, Nat.le_of_ble_eq_true rfl⟩ ⟨Nat.zero_le _, Nat.zero_le _⟩ (fun _ _ h => by simp at h) hK hN rfl (Nat.le_of_ble_eq_true rfl) dX4_allWeight_31 ?_
        refine sn_top (y := nI (8 + 5 * k)) (congrArg nI (show _ = 8 + 5 * k by omega)) ?_
        refine sn_ild (k := 8 + 5 * k) (v := f (8 + 5 * k)) 1 0 hx hb hK hP rfl rfl (by omega) (by decide) rfl (rfl) dX4_allWeight_34 ?_
        refine lv_imul hx hb dX4_allWeight_35 ?_
        refine lv_iadd hx hb dX4_allWeight_36 ?_
        refine sn_top (y := sn_mas f 0 (k + 1)) (sn_mas_s (Nat.zero_le _)) ?_
        refine lv_istore_n (lv' := [(1, .int (sn_mas f 0 (k + 1))), (0, .ref (a 0)), (2, .int (nI k))]) hx hb dX4_allWeight_37 rfl hl (by decide) rfl (fun ls hl => ?_)
        refine lv_iinc (v := nI (k + 1)) (lv' := [(2, .int (nI (k + 1))), (1, .int (sn_mas f 0 (k + 1))), (0, .ref (a 0))]) hx hb dX4_allWeight_38 hl (k := 2) rfl (sn_inc _) (by decide) rfl (fun ls hl => ?_)
        refine lv_goto (tgt := 4) hx hb dX4_allWeight_41 (by decide) ?_
        exact ih_loop (k + 1) (by omega) (by omega) ls (lv_sub hl [2, 1, 0] rfl)
  exact loop ((n - 0) + 1) 0 (Nat.zero_le _) (by omega) ls (lv_sub hl [2, 1, 0] rfl)
set_option maxRecDepth 100000 in
set_option maxHeartbeats 4000000 in
theorem ct_X4_count (l : Launch) (D : va_G) (cI cZ cR : ClassId) (a : Nat → Nat) (f g kp tp ly : Nat → Int32) (nb : Int32) (n : Nat) (hI : sn_I f n) (x : Int32) : sn_Rd l yX4_count wsX4_count 3 [.ref (a 0), .int x] D (sn_ty cI cZ cR) (sn_wM cI cZ a f g kp tp ly nb) (sn_Rcount f n kp x) := by
  refine sn_rd (cc := cX4_count) (maxL := 2) (ret := (some .int)) (by decide) rfl (Nat.le_of_ble_eq_true rfl) ?_
  intro p e s m below meth c hx hb hml hr hlk hts hown hP hK hN ls hl
  have hC : CallFix p m c cX4_count 2 s [.ref (a 0), .int x].toArray wsX4_count RX4 := ⟨hx, hb, hml, hown, hts⟩
  have hl : lv_has ls 2 [(0, .ref (a 0)), (1, .int x)] := hl
  have huX4 : ∀ w ∈ wsX40, w ∈ wsX4_count := by decide +kernel
  have hn10 := hI.2.1
  refine lv_iload_n hx hb dX4_count_0 rfl (lv_at hl 1 rfl) ?_
  refine lv_bipush (v := 10) hx hb dX4_count_1 (by decide) ?_
  refine lv_bipush (v := 14) hx hb dX4_count_3 (by decide) ?_
  refine sn_cS 3 hC hl (ct_X4_in l D _ [] x 10 14) gX4_count_X4_in rfl (by decide +kernel) rfl ⟨Nat.le_of_ble_eq_true rfl, Nat.le_of_ble_eq_true rfl⟩ ⟨Nat.zero_le _, Nat.zero_le _⟩ (fun _ _ h => by simp at h) hK hN rfl (Nat.le_of_ble_eq_true rfl) dX4_count_5 ?_
  refine lv_if_eq (tgt := 23) hx hb dX4_count_8 (by decide) (fun c_1 => ?_) (fun c_1 => ?_)
  · have c_1 : ¬ (10 ≤ x ∧ x ≤ 14) := sn_b_z.mp c_1
    refine lv_iload_n hx hb dX4_count_23 rfl (lv_at hl 1 rfl) ?_
    by_cases t_0 : x = 0
    · subst t_0
      refine lv_tableIn (tgt := 60) hx hb dX4_count_24 (by decide) (by decide) (by decide +kernel : _ = some (36 : Int)) (by decide) ?_
      refine lv_aload_n hx hb dX4_count_60 rfl (lv_at hl 0 rfl) ?_
      refine va_get (D := D) (ci := 3) (v := .ref (a 1)) (C := RX4) (T := TX4) (N := 6) hx hb hts huX4 hown hK hP 0 rfl rfl 0 (by decide) (hts (.fieldLink RX4 7 "SnowSlabsModel" "state" "[I") (by decide +kernel)) (fun _ h9 => h9) rfl dX4_count_61 ?_
      refine lv_iconst (v := 0) hx hb dX4_count_64 (by decide) ?_
      refine sn_ild (k := 0) (v := f 0) 1 0 hx hb hK hP rfl rfl (by omega) (by decide) rfl (rfl) dX4_count_65 ?_
      refine sn_top (hI.1) ?_
      exact sn_ret hx hb hr hlk dX4_count_66 (((if_neg c_1).trans (rfl)).symm)
    · skip
      by_cases t_1 : x = 1
      · subst t_1
        refine lv_tableIn (tgt := 67) hx hb dX4_count_24 (by decide) (by decide) (by decide +kernel : _ = some (43 : Int)) (by decide) ?_
        refine lv_aload_n hx hb dX4_count_67 rfl (lv_at hl 0 rfl) ?_
        refine sn_cV 0 0 hC hl (ct_X4_allThick l D cI cZ cR a f g kp tp ly nb n hI ) gX4_count_X4_allThick rfl (by decide +kernel) rfl ⟨Nat.le_of_ble_eq_true rfl, Nat.le_of_ble_eq_true rfl⟩ ⟨Nat.zero_le _, Nat.zero_le _⟩ hP hK hN rfl rfl rfl (Nat.le_of_ble_eq_true rfl) dX4_count_68 ?_
        exact sn_ret hx hb hr hlk dX4_count_71 (((if_neg c_1).trans (rfl)).symm)
      · skip
        by_cases t_2 : x = 2
        · subst t_2
          refine lv_tableIn (tgt := 72) hx hb dX4_count_24 (by decide) (by decide) (by decide +kernel : _ = some (48 : Int)) (by decide) ?_
          refine lv_aload_n hx hb dX4_count_72 rfl (lv_at hl 0 rfl) ?_
          refine sn_cV 0 0 hC hl (ct_X4_allWeight l D cI cZ cR a f g kp tp ly nb n hI ) gX4_count_X4_allWeight rfl (by decide +kernel) rfl ⟨Nat.le_of_ble_eq_true rfl, Nat.le_of_ble_eq_true rfl⟩ ⟨Nat.zero_le _, Nat.zero_le _⟩ hP hK hN rfl rfl rfl (Nat.le_of_ble_eq_true rfl) dX4_count_73 ?_
          exact sn_ret hx hb hr hlk dX4_count_76 (((if_neg c_1).trans (rfl)).symm)
        · skip
          by_cases t_3 : x = 3
          · subst t_3
            refine lv_tableIn (tgt := 77) hx hb dX4_count_24 (by decide) (by decide) (by decide +kernel : _ = some (53 : Int)) (by decide) ?_
            refine lv_aload_n hx hb dX4_count_77 rfl (lv_at hl 0 rfl) ?_
            refine va_get (D := D) (ci := 3) (v := .ref (a 1)) (C := RX4) (T := TX4) (N := 6) hx hb hts huX4 hown hK hP 0 rfl rfl 0 (by decide) (hts (.fieldLink RX4 7 "SnowSlabsModel" "state" "[I") (by decide +kernel)) (fun _ h9 => h9) rfl dX4_count_78 ?_
            refine lv_iconst (v := 1) hx hb dX4_count_81 (by decide) ?_
            refine sn_ild (k := 1) (v := f 1) 1 0 hx hb hK hP rfl rfl (by omega) (by decide) rfl (rfl) dX4_count_82 ?_
            exact sn_ret hx hb hr hlk dX4_count_83 (((if_neg c_1).trans (rfl)).symm)
          · skip
            by_cases t_4 : x = 4
            · subst t_4
              refine lv_tableIn (tgt := 84) hx hb dX4_count_24 (by decide) (by decide) (by decide +kernel : _ = some (60 : Int)) (by decide) ?_
              refine lv_aload_n hx hb dX4_count_84 rfl (lv_at hl 0 rfl) ?_
              refine va_get (D := D) (ci := 3) (v := .ref (a 3)) (C := RX4) (T := TX4) (N := 6) hx hb hts huX4 hown hK hP 0 rfl rfl 2 (by decide) (hts (.fieldLink RX4 16 "SnowSlabsModel" "isKept" "[Z") (by decide +kernel)) (fun _ h9 => h9) rfl dX4_count_85 ?_
              refine lv_iconst (v := 0) hx hb dX4_count_88 (by decide) ?_
              refine sn_zld (k := 0) (v := kp 0) 3 1 hx hb hK hP rfl rfl (by omega) (by decide) rfl (rfl) dX4_count_89 ?_
              refine lv_if_eq (tgt := 97) hx hb dX4_count_90 (by decide) (fun c_2 => ?_) (fun c_2 => ?_)
              · refine lv_iconst (v := 0) hx hb dX4_count_97 (by decide) ?_
                refine lv_aload_n hx hb dX4_count_98 rfl (lv_at hl 0 rfl) ?_
                refine va_get (D := D) (ci := 3) (v := .ref (a 3)) (C := RX4) (T := TX4) (N := 6) hx hb hts huX4 hown hK hP 0 rfl rfl 2 (by decide) (hts (.fieldLink RX4 16 "SnowSlabsModel" "isKept" "[Z") (by decide +kernel)) (fun _ h9 => h9) rfl dX4_count_99 ?_
                refine lv_iconst (v := 1) hx hb dX4_count_102 (by decide) ?_
                refine sn_zld (k := 1) (v := kp 1) 3 1 hx hb hK hP rfl rfl (by omega) (by decide) rfl (rfl) dX4_count_103 ?_
                refine lv_if_eq (tgt := 111) hx hb dX4_count_104 (by decide) (fun c_3 => ?_) (fun c_3 => ?_)
                · refine lv_iconst (v := 0) hx hb dX4_count_111 (by decide) ?_
                  refine lv_iadd hx hb dX4_count_112 ?_
                  refine sn_top (sn_nadd (a := 0) (b := 0) rfl rfl) ?_
                  exact sn_ret hx hb hr hlk dX4_count_113 (((if_neg c_1).trans (show sn_kps kp = _ from by unfold sn_kps; rw [if_pos c_2, if_pos c_3]; rfl)).symm)
                · refine lv_iconst (v := 2) hx hb dX4_count_107 (by decide) ?_
                  refine lv_goto (tgt := 112) hx hb dX4_count_108 (by decide) ?_
                  refine lv_iadd hx hb dX4_count_112 ?_
                  refine sn_top (sn_nadd (a := 0) (b := 2) rfl rfl) ?_
                  exact sn_ret hx hb hr hlk dX4_count_113 (((if_neg c_1).trans (show sn_kps kp = _ from by unfold sn_kps; rw [if_pos c_2, if_neg c_3]; rfl)).symm)
              · refine lv_iconst (v := 1) hx hb dX4_count_93 (by decide) ?_
                refine lv_goto (tgt := 98) hx hb dX4_count_94 (by decide) ?_
                refine lv_aload_n hx hb dX4_count_98 rfl (lv_at hl 0 rfl) ?_
                refine va_get (D := D) (ci := 3) (v := .ref (a 3)) (C := RX4) (T := TX4) (N := 6) hx hb hts huX4 hown hK hP 0 rfl rfl 2 (by decide) (hts (.fieldLink RX4 16 "SnowSlabsModel" "isKept" "[Z") (by decide +kernel)) (fun _ h9 => h9) rfl dX4_count_99 ?_
                refine lv_iconst (v := 1) hx hb dX4_count_102 (by decide) ?_
                refine sn_zld (k := 1) (v := kp 1) 3 1 hx hb hK hP rfl rfl (by omega) (by decide) rfl (rfl) dX4_count_103 ?_
                refine lv_if_eq (tgt := 111) hx hb dX4_count_104 (by decide) (fun c_4 => ?_) (fun c_4 => ?_)
                · refine lv_iconst (v := 0) hx hb dX4_count_111 (by decide) ?_
                  refine lv_iadd hx hb dX4_count_112 ?_
                  refine sn_top (sn_nadd (a := 1) (b := 0) rfl rfl) ?_
                  exact sn_ret hx hb hr hlk dX4_count_113 (((if_neg c_1).trans (show sn_kps kp = _ from by unfold sn_kps; rw [if_neg c_2, if_pos c_4]; rfl)).symm)
                · refine lv_iconst (v := 2) hx hb dX4_count_107 (by decide) ?_
                  refine lv_goto (tgt := 112) hx hb dX4_count_108 (by decide) ?_
                  refine lv_iadd hx hb dX4_count_112 ?_
                  refine sn_top (sn_nadd (a := 1) (b := 2) rfl rfl) ?_
                  exact sn_ret hx hb hr hlk dX4_count_113 (((if_neg c_1).trans (show sn_kps kp = _ from by unfold sn_kps; rw [if_neg c_2, if_neg c_4]; rfl)).symm)
            · refine lv_tableOut (tgt := 114) hx hb dX4_count_24 (by have e0 := lv_neT t_0 (a := 0) rfl; have e1 := lv_neT t_1 (a := 1) rfl; have e2 := lv_neT t_2 (a := 2) rfl; have e3 := lv_neT t_3 (a := 3) rfl; have e4 := lv_neT t_4 (a := 4) rfl; omega) (by decide) ?_
              refine lv_bipush (v := (-2)) hx hb dX4_count_114 (by decide) ?_
              exact sn_ret hx hb hr hlk dX4_count_116 (((if_neg c_1).trans ((if_neg t_0).trans ((if_neg t_1).trans ((if_neg t_2).trans ((if_neg t_3).trans (if_neg t_4)))))).symm)
  · have c_1 : 10 ≤ x ∧ x ≤ 14 := sn_b_nz.mp c_1
    obtain ⟨t, ht1, ht2, ht3⟩ := sn_rng (lo := 10) (hi := 14) c_1 (by decide)
    subst ht3
    refine lv_aload_n hx hb dX4_count_11 rfl (lv_at hl 0 rfl) ?_
    refine va_get (D := D) (ci := 3) (v := .ref (a 1)) (C := RX4) (T := TX4) (N := 6) hx hb hts huX4 hown hK hP 0 rfl rfl 0 (by decide) (hts (.fieldLink RX4 7 "SnowSlabsModel" "state" "[I") (by decide +kernel)) (fun _ h9 => h9) rfl dX4_count_12 ?_
    refine lv_iconst (v := 2) hx hb dX4_count_15 (by decide) ?_
    refine lv_iload_n hx hb dX4_count_16 rfl (lv_at hl 1 rfl) ?_
    refine lv_iadd hx hb dX4_count_17 ?_
    refine sn_top (sn_nadd (a := 2) (b := t) rfl rfl) ?_
    refine lv_bipush (v := 10) hx hb dX4_count_18 (by decide) ?_
    refine lv_isub hx hb dX4_count_20 ?_
    refine sn_top (y := nI (2 + (t - 10))) ((sn_nsub (a := 2 + t) (b := 10) rfl rfl (by omega)).trans (congrArg nI (by omega))) ?_
    refine sn_ild (k := 2 + (t - 10)) (v := f (2 + (t - 10))) 1 0 hx hb hK hP rfl rfl (by omega) (by decide) rfl (rfl) dX4_count_21 ?_
    exact sn_ret hx hb hr hlk dX4_count_22 (((if_pos c_1).trans (by rw [nI_clamp (by omega)])).symm)
