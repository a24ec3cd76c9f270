set_option maxRecDepth 100000 in
set_option maxHeartbeats 4000000 in
theorem ct_X4_at (l : Launch) (D : va_G) (tys : List (ClassId × FieldType)) (w : va_W) (i k : Nat) : sn_Rd l yX4_at wsX4_at 0 [.int (nI i), .int (nI k)] D tys (w) (nI (7 + 5 * i + k)) := by
  refine sn_rd (cc := cX4_at) (maxL := 2) (ret := (some .int)) (by decide) rfl (Nat.le_of_ble_eq_true rfl) ?_
  intro p e s m below meth c hx hb hml hr hlk hts hown hP hK hN ls hl
  have hC : CallFix p m c cX4_at 2 s [.int (nI i), .int (nI k)].toArray wsX4_at RX4 := ⟨hx, hb, hml, hown, hts⟩
  have hl : lv_has ls 2 [(0, .int (nI i)), (1, .int (nI k))] := hl
  refine lv_bipush (v := 7) hx hb dX4_at_0 (by decide) ?_
  refine lv_iconst (v := 5) hx hb dX4_at_2 (by decide) ?_
  refine lv_iload_n hx hb dX4_at_3 rfl (lv_at hl 0 rfl) ?_
  refine lv_imul hx hb dX4_at_4 ?_
  refine sn_top (sn_nmul (a := 5) (b := i) rfl rfl) ?_
  refine lv_iadd hx hb dX4_at_5 ?_
  refine sn_top (sn_nadd (a := 7) (b := 5 * i) rfl rfl) ?_
  refine lv_iload_n hx hb dX4_at_6 rfl (lv_at hl 1 rfl) ?_
  refine lv_iadd hx hb dX4_at_7 ?_
  refine sn_top (sn_nadd (a := 7 + (5 * i)) (b := k) rfl rfl) ?_
  exact sn_ret hx hb hr hlk dX4_at_8 (rfl)
set_option maxRecDepth 100000 in
set_option maxHeartbeats 4000000 in
theorem ct_X4_isLayer (l : Launch) (D : va_G) (cI cZ cR : ClassId) (a : Nat → Nat) (f g kp tp ly : Nat → Int32) (nb : Int32) (n : Nat) (hI : sn_I f n) (x : Int32) : sn_Rd l yX4_isLayer wsX4_isLayer 1 [.ref (a 0), .int x] D (sn_ty cI cZ cR) (sn_wM cI cZ a f g kp tp ly nb) (sn_b (0 ≤ x ∧ x ≤ nI n - 1)) := by
  refine sn_rd (cc := cX4_isLayer) (maxL := 2) (ret := (some .boolean)) (by decide) rfl (Nat.le_of_ble_eq_true rfl) ?_
  intro p e s m below meth c hx hb hml hr hlk hts hown hP hK hN ls hl
  have hC : CallFix p m c cX4_isLayer 2 s [.ref (a 0), .int x].toArray wsX4_isLayer RX4 := ⟨hx, hb, hml, hown, hts⟩
  have hl : lv_has ls 2 [(0, .ref (a 0)), (1, .int x)] := hl
  have huX4 : ∀ w ∈ wsX40, w ∈ wsX4_isLayer := by decide +kernel
  refine lv_iload_n hx hb dX4_isLayer_0 rfl (lv_at hl 1 rfl) ?_
  refine lv_iconst (v := 0) hx hb dX4_isLayer_1 (by decide) ?_
  refine lv_aload_n hx hb dX4_isLayer_2 rfl (lv_at hl 0 rfl) ?_
  refine va_get (D := D) (ci := 3) (v := .ref (a 1)) (C := RX4) (T := TX4) (N := 6) hx hb hts huX4 hown hK hP 0 rfl rfl 0 (by decide) (hts (.fieldLink RX4 7 "SnowSlabsModel" "state" "[I") (by decide +kernel)) (fun _ h9 => h9) rfl dX4_isLayer_3 ?_
  refine lv_iconst (v := 0) hx hb dX4_isLayer_6 (by decide) ?_
  refine sn_ild (k := 0) (v := f 0) 1 0 hx hb hK hP rfl rfl (by omega) (by decide) rfl rfl dX4_isLayer_7 ?_
  refine sn_top (hI.1) ?_
  refine lv_iconst (v := 1) hx hb dX4_isLayer_8 (by decide) ?_
  refine lv_isub hx hb dX4_isLayer_9 ?_
  refine sn_cS 3 hC hl (ct_X4_in l D _ [] x 0 ((nI n) - 1)) gX4_isLayer_X4_in rfl (by decide +kernel) rfl ⟨Nat.le_of_ble_eq_true rfl, Nat.le_of_ble_eq_true rfl⟩ ⟨Nat.zero_le _, Nat.zero_le _⟩ (fun _ _ h => by simp at h) hK hN rfl (Nat.le_of_ble_eq_true rfl) dX4_isLayer_10 ?_
  exact sn_zret hx hb hr hlk dX4_isLayer_13 (sn_b_01 _) (rfl)
set_option maxRecDepth 100000 in
set_option maxHeartbeats 4000000 in
theorem ct_X4_top (l : Launch) (D : va_G) (cI cZ cR : ClassId) (a : Nat → Nat) (f g kp tp ly : Nat → Int32) (nb : Int32) (n : Nat) (hI : sn_I f n) : sn_Rd l yX4_top wsX4_top 0 [.ref (a 0)] D (sn_ty cI cZ cR) (sn_wM cI cZ a f g kp tp ly nb) (nI n - 1) := by
  refine sn_rd (cc := cX4_top) (maxL := 1) (ret := (some .int)) (by decide) rfl (Nat.le_of_ble_eq_true rfl) ?_
  intro p e s m below meth c hx hb hml hr hlk hts hown hP hK hN ls hl
  have hC : CallFix p m c cX4_top 1 s [.ref (a 0)].toArray wsX4_top RX4 := ⟨hx, hb, hml, hown, hts⟩
  have hl : lv_has ls 1 [(0, .ref (a 0))] := hl
  have huX4 : ∀ w ∈ wsX40, w ∈ wsX4_top := by decide +kernel
  refine lv_aload_n hx hb dX4_top_0 rfl (lv_at hl 0 rfl) ?_
  refine va_get (D := D) (ci := 3) (v := .ref (a 1)) (C := RX4) (T := TX4) (N := 6) hx hb hts huX4 hown hK hP 0 rfl rfl 0 (by decide) (hts (.fieldLink RX4 7 "SnowSlabsModel" "state" "[I") (by decide +kernel)) (fun _ h9 => h9) rfl dX4_top_1 ?_
  refine lv_iconst (v := 0) hx hb dX4_top_4 (by decide) ?_
  refine sn_ild (k := 0) (v := f 0) 1 0 hx hb hK hP rfl rfl (by omega) (by decide) rfl rfl dX4_top_5 ?_
  refine sn_top (hI.1) ?_
  refine lv_iconst (v := 1) hx hb dX4_top_6 (by decide) ?_
  refine lv_isub hx hb dX4_top_7 ?_
  exact sn_ret hx hb hr hlk dX4_top_8 (rfl)
set_option maxRecDepth 100000 in
set_option maxHeartbeats 4000000 in
theorem ct_X4_strength (l : Launch) (D : va_G) (cI cZ cR : ClassId) (a : Nat → Nat) (f g kp tp ly : Nat → Int32) (nb : Int32) (n : Nat) (hI : sn_I f n) (i : Nat) (hi : i < 10) : sn_Rd l yX4_strength wsX4_strength 1 [.ref (a 0), .int (nI i)] D (sn_ty cI cZ cR) (sn_wM cI cZ a f g kp tp ly nb) (sn_str f i) := by
  refine sn_rd (cc := cX4_strength) (maxL := 3) (ret := (some .int)) (by decide) rfl (Nat.le_of_ble_eq_true rfl) ?_
  intro p e s m below meth c hx hb hml hr hlk hts hown hP hK hN ls hl
  have hC : CallFix p m c cX4_strength 3 s [.ref (a 0), .int (nI i)].toArray wsX4_strength RX4 := ⟨hx, hb, hml, hown, hts⟩
  have hl : lv_has ls 3 [(0, .ref (a 0)), (1, .int (nI i))] := hl
  have huX4 : ∀ w ∈ wsX40, w ∈ wsX4_strength := by decide +kernel
  refine lv_aload_n hx hb dX4_strength_0 rfl (lv_at hl 0 rfl) ?_
  refine va_get (D := D) (ci := 3) (v := .ref (a 1)) (C := RX4) (T := TX4) (N := 6) hx hb hts huX4 hown hK hP 0 rfl rfl 0 (by decide) (hts (.fieldLink RX4 7 "SnowSlabsModel" "state" "[I") (by decide +kernel)) (fun _ h9 => h9) rfl dX4_strength_1 ?_
  refine lv_iconst (v := 2) hx hb dX4_strength_4 (by decide) ?_
  refine lv_aload_n hx hb dX4_strength_5 rfl (lv_at hl 0 rfl) ?_
  refine va_get (D := D) (ci := 3) (v := .ref (a 1)) (C := RX4) (T := TX4) (N := 6) hx hb hts huX4 hown hK hP 0 rfl rfl 0 (by decide) (hts (.fieldLink RX4 7 "SnowSlabsModel" "state" "[I") (by decide +kernel)) (fun _ h9 => h9) rfl dX4_strength_6 ?_
  refine lv_iload_n hx hb dX4_strength_9 rfl (lv_at hl 1 rfl) ?_
  refine lv_iconst (v := 2) hx hb dX4_strength_10 (by decide) ?_
  refine sn_cS 2 hC hl (ct_X4_at l D _ [] i 2) gX4_strength_X4_at rfl (by decide +kernel) rfl ⟨Nat.le_of_ble_eq_true rfl, Nat.le_of_ble_eq_true rfl⟩ ⟨Nat.zero_le _, Nat.zero_le _⟩ (fun _ _ h => by simp at h) hK hN rfl (Nat.le_of_ble_eq_true rfl) dX4_strength_11 ?_
  refine sn_top (congrArg nI (show _ = 9 + 5 * i by omega)) ?_
  refine sn_ild (k := 9 + 5 * i) (v := f (9 + 5 * i)) 1 0 hx hb hK hP rfl rfl (by omega) (by decide) rfl rfl dX4_strength_14 ?_
  refine lv_iadd hx hb dX4_strength_15 ?_
  refine va_iald hx hb hK hP 1 0 rfl rfl (sn_2in (hI.2.2.2 i hi).2.2.1) dX4_strength_16 ?_
  refine sn_top (congrArg f (sn_2cl (hI.2.2.2 i hi).2.2.1)) ?_
  refine lv_aload_n hx hb dX4_strength_17 rfl (lv_at hl 0 rfl) ?_
  refine va_get (D := D) (ci := 3) (v := .ref (a 1)) (C := RX4) (T := TX4) (N := 6) hx hb hts huX4 hown hK hP 0 rfl rfl 0 (by decide) (hts (.fieldLink RX4 7 "SnowSlabsModel" "state" "[I") (by decide +kernel)) (fun _ h9 => h9) rfl dX4_strength_18 ?_
  refine lv_iload_n hx hb dX4_strength_21 rfl (lv_at hl 1 rfl) ?_
  refine lv_iconst (v := 3) hx hb dX4_strength_22 (by decide) ?_
  refine sn_cS 2 hC hl (ct_X4_at l D _ [] i 3) gX4_strength_X4_at rfl (by decide +kernel) rfl ⟨Nat.le_of_ble_eq_true rfl, Nat.le_of_ble_eq_true rfl⟩ ⟨Nat.zero_le _, Nat.zero_le _⟩ (fun _ _ h => by simp at h) hK hN rfl (Nat.le_of_ble_eq_true rfl) dX4_strength_23 ?_
  refine sn_top (congrArg nI (show _ = 10 + 5 * i by omega)) ?_
  refine sn_ild (k := 10 + 5 * i) (v := f (10 + 5 * i)) 1 0 hx hb hK hP rfl rfl (by omega) (by decide) rfl rfl dX4_strength_26 ?_
  refine lv_imul hx hb dX4_strength_27 ?_
  refine lv_aload_n hx hb dX4_strength_28 rfl (lv_at hl 0 rfl) ?_
  refine va_get (D := D) (ci := 3) (v := .ref (a 1)) (C := RX4) (T := TX4) (N := 6) hx hb hts huX4 hown hK hP 0 rfl rfl 0 (by decide) (hts (.fieldLink RX4 7 "SnowSlabsModel" "state" "[I") (by decide +kernel)) (fun _ h9 => h9) rfl dX4_strength_29 ?_
  refine lv_iload_n hx hb dX4_strength_32 rfl (lv_at hl 1 rfl) ?_
  refine lv_iconst (v := 1) hx hb dX4_strength_33 (by decide) ?_
  refine sn_cS 2 hC hl (ct_X4_at l D _ [] i 1) gX4_strength_X4_at rfl (by decide +kernel) rfl ⟨Nat.le_of_ble_eq_true rfl, Nat.le_of_ble_eq_true rfl⟩ ⟨Nat.zero_le _, Nat.zero_le _⟩ (fun _ _ h => by simp at h) hK hN rfl (Nat.le_of_ble_eq_true rfl) dX4_strength_34 ?_
  refine sn_top (congrArg nI (show _ = 8 + 5 * i by omega)) ?_
  refine sn_ild (k := 8 + 5 * i) (v := f (8 + 5 * i)) 1 0 hx hb hK hP rfl rfl (by omega) (by decide) rfl rfl dX4_strength_37 ?_
  refine lv_imul hx hb dX4_strength_38 ?_
  refine lv_bipush (v := 100) hx hb dX4_strength_39 (by decide) ?_
  refine lv_idiv hx hb dX4_strength_41 (by decide) ?_
  refine lv_istore_n (lv' := [(2, .int ((((f (2 + (f (9 + 5 * i)).toNatClampNeg)) * (f (10 + 5 * i))) * (f (8 + 5 * i))) / 100)), (0, .ref (a 0)), (1, .int (nI i))]) hx hb dX4_strength_42 rfl hl (by decide) rfl (fun ls hl => ?_)
  refine lv_aload_n hx hb dX4_strength_43 rfl (lv_at hl 1 rfl) ?_
  refine va_get (D := D) (ci := 3) (v := .ref (a 1)) (C := RX4) (T := TX4) (N := 6) hx hb hts huX4 hown hK hP 0 rfl rfl 0 (by decide) (hts (.fieldLink RX4 7 "SnowSlabsModel" "state" "[I") (by decide +kernel)) (fun _ h9 => h9) rfl dX4_strength_44 ?_
  refine lv_iload_n hx hb dX4_strength_47 rfl (lv_at hl 2 rfl) ?_
  refine lv_iconst (v := 4) hx hb dX4_strength_48 (by decide) ?_
  refine sn_cS 2 hC hl (ct_X4_at l D _ [] i 4) gX4_strength_X4_at rfl (by decide +kernel) rfl ⟨Nat.le_of_ble_eq_true rfl, Nat.le_of_ble_eq_true rfl⟩ ⟨Nat.zero_le _, Nat.zero_le _⟩ (fun _ _ h => by simp at h) hK hN rfl (Nat.le_of_ble_eq_true rfl) dX4_strength_49 ?_
  refine sn_top (congrArg nI (show _ = 11 + 5 * i by omega)) ?_
  refine sn_ild (k := 11 + 5 * i) (v := f (11 + 5 * i)) 1 0 hx hb hK hP rfl rfl (by omega) (by decide) rfl rfl dX4_strength_52 ?_
  refine lv_iconst (v := 1) hx hb dX4_strength_53 (by decide) ?_
  refine lv_icmp_ne (tgt := 63) hx hb dX4_strength_54 (by decide) (fun c_1 => ?_) (fun c_1 => ?_)
  · refine lv_iload_n hx hb dX4_strength_63 rfl (lv_at hl 0 rfl) ?_
    exact sn_ret hx hb hr hlk dX4_strength_64 ((if_pos ((hI.2.2.2 i hi).2.2.2.2.resolve_right c_1)).symm)
  · refine lv_iload_n hx hb dX4_strength_57 rfl (lv_at hl 0 rfl) ?_
    refine lv_iconst (v := 2) hx hb dX4_strength_58 (by decide) ?_
    refine lv_idiv hx hb dX4_strength_59 (by decide) ?_
    refine lv_goto (tgt := 64) hx hb dX4_strength_60 (by decide) ?_
    exact sn_ret hx hb hr hlk dX4_strength_64 ((if_neg (by rw [c_1]; decide)).symm)
set_option maxRecDepth 100000 in
set_option maxHeartbeats 4000000 in
theorem ct_X4_depth (l : Launch) (D : va_G) (cI cZ cR : ClassId) (a : Nat → Nat) (f g kp tp ly : Nat → Int32) (nb : Int32) (x : Int32) (i b : Nat) (hx1 : x + 1 = nI i) (hib : i ≤ b) (hb10 : b ≤ 10) : sn_Rd l yX4_depth wsX4_depth 1 [.ref (a 0), .int x, .int (nI b)] D (sn_ty cI cZ cR) (sn_wM cI cZ a f g kp tp ly nb) (sn_dep f i b) := by
  refine sn_rd (cc := cX4_depth) (maxL := 5) (ret := (some .int)) (by decide) rfl (Nat.le_of_ble_eq_true rfl) ?_
  intro p e s m below meth c hx hb hml hr hlk hts hown hP hK hN ls hl
  have hC : CallFix p m c cX4_depth 5 s [.ref (a 0), .int x, .int (nI b)].toArray wsX4_depth RX4 := ⟨hx, hb, hml, hown, hts⟩
  have hl : lv_has ls 5 [(0, .ref (a 0)), (1, .int x), (2, .int (nI b))] := hl
  have huX4 : ∀ w ∈ wsX40, w ∈ wsX4_depth := by decide +kernel
  refine lv_iconst (v := 0) hx hb dX4_depth_0 (by decide) ?_
  refine sn_top ((sn_dep_self f i).symm) ?_
  refine lv_istore_n (lv' := [(3, .int (sn_dep f i i)), (0, .ref (a 0)), (1, .int x), (2, .int (nI b))]) hx hb dX4_depth_1 rfl hl (by decide) rfl (fun ls hl => ?_)
  refine lv_iload_n hx hb dX4_depth_2 rfl (lv_at hl 2 rfl) ?_
  refine lv_iconst (v := 1) hx hb dX4_depth_3 (by decide) ?_
  refine lv_iadd hx hb dX4_depth_4 ?_
  refine sn_top (hx1) ?_
  refine lv_istore (lv' := [(4, .int (nI i)), (3, .int (sn_dep f i i)), (0, .ref (a 0)), (1, .int x), (2, .int (nI b))]) hx hb dX4_depth_5 hl (by decide) rfl (fun ls hl => ?_)
  have loop : ∀ (fu : Nat) (k : Nat), (i ≤ k) → (k ≤ b) → b - k < fu → ∀ ls : Array Slot, lv_has ls 5 [(0, .ref (a 0)), (1, .int x), (2, .int (nI b)), (3, .int (sn_dep f i k)), (4, .int (nI k))] → W p l e (sn_rm 1 0 0) s m [.ref (a 0), .int x, .int (nI b)].toArray below meth c s.heap [] 0 0 (MQ below (vp_Si (fun x => x = (sn_dep f i b))) [.ref (a 0), .int x, .int (nI b)].toArray s 0 0 (fun _ => False)) (F0 m 7 ls []) := by
    intro fu
    induction fu with
    | zero => intro k h1 h2 hm; exact absurd hm (Nat.not_lt_zero _)
    | succ fu ih_loop =>
      intro k h1 h2 hm ls hl
      refine lv_iload hx hb dX4_depth_7 (lv_at hl 4 rfl) ?_
      refine lv_iload_n hx hb dX4_depth_9 rfl (lv_at hl 2 rfl) ?_
      refine lv_icmp_ge (tgt := 33) hx hb dX4_depth_10 (by decide) (fun c_1 => ?_) (fun c_1 => ?_)
      · have c_1 := (sn_cgej (a := k) (b := b) rfl rfl (by omega) (by omega)).mp c_1
        refine lv_iload_n hx hb dX4_depth_33 rfl (lv_at hl 3 rfl) ?_
        exact sn_ret hx hb hr hlk dX4_depth_34 (by rw [show k = b by omega])
      · have c_1 := (sn_cgef (a := k) (b := b) rfl rfl (by omega) (by omega)).mp c_1
        refine lv_iload_n hx hb dX4_depth_13 rfl (lv_at hl 3 rfl) ?_
        refine lv_aload_n hx hb dX4_depth_14 rfl (lv_at hl 0 rfl) ?_
        refine va_get (D := D) (ci := 3) (v := .ref (a 1)) (C := RX4) (T := TX4) (N := 6) hx hb hts huX4 hown hK hP 0 rfl rfl 0 (by decide) (hts (.fieldLink RX4 7 "SnowSlabsModel" "state" "[I") (by decide +kernel)) (fun _ h9 => h9) rfl dX4_depth_15 ?_
        refine lv_iload hx hb dX4_depth_18 (lv_at hl 4 rfl) ?_
        refine lv_iconst (v := 0) hx hb dX4_depth_20 (by decide) ?_
        refine sn_cS 2 hC hl (ct_X4_at l D _ [] k 0) gX4_depth_X4_at rfl (by decide +kernel) rfl ⟨Nat.le_of_ble_eq_true rfl, Nat.le_of_ble_eq_true rfl⟩ ⟨Nat.zero_le _, Nat.zero_le _⟩ (fun _ _ h => by simp at h) hK hN rfl (Nat.le_of_ble_eq_true rfl) dX4_depth_21 ?_
        refine sn_top (congrArg nI (show _ = 7 + 5 * k by omega)) ?_
        refine sn_ild (k := 7 + 5 * k) (v := f (7 + 5 * k)) 1 0 hx hb hK hP rfl rfl (by omega) (by decide) rfl rfl dX4_depth_24 ?_
        refine lv_iadd hx hb dX4_depth_25 ?_
        refine sn_top (sn_dep_s h1) ?_
        refine lv_istore_n (lv' := [(3, .int (sn_dep f i (k + 1))), (0, .ref (a 0)), (1, .int x), (2, .int (nI b)), (4, .int (nI k))]) hx hb dX4_depth_26 rfl hl (by decide) rfl (fun ls hl => ?_)
        refine lv_iinc (v := nI (k + 1)) (lv' := [(4, .int (nI (k + 1))), (3, .int (sn_dep f i (k + 1))), (0, .ref (a 0)), (1, .int x), (2, .int (nI b))]) hx hb dX4_depth_27 hl (k := 4) rfl (sn_inc _) (by decide) rfl (fun ls hl => ?_)
        refine lv_goto (tgt := 7) hx hb dX4_depth_30 (by decide) ?_
        exact ih_loop (k + 1) (by omega) (by omega) (by omega) ls (lv_sub hl [2, 3, 4, 1, 0] rfl)
  exact loop ((b - i) + 1) i (Nat.le_refl _) hib (by omega) ls (lv_sub hl [2, 3, 4, 1, 0] rfl)
set_option maxRecDepth 100000 in
set_option maxHeartbeats 4000000 in
theorem ct_X4_load (l : Launch) (D : va_G) (cI cZ cR : ClassId) (a : Nat → Nat) (f g kp tp ly : Nat → Int32) (nb : Int32) (i b : Nat) (hib : i + 1 ≤ b) (hb10 : b ≤ 10) : sn_Rd l yX4_load wsX4_load 1 [.ref (a 0), .int (nI i), .int (nI b)] D (sn_ty cI cZ cR) (sn_wM cI cZ a f g kp tp ly nb) (sn_lod f i b) := by
  refine sn_rd (cc := cX4_load) (maxL := 5) (ret := (some .int)) (by decide) rfl (Nat.le_of_ble_eq_true rfl) ?_
  intro p e s m below meth c hx hb hml hr hlk hts hown hP hK hN ls hl
  have hC : CallFix p m c cX4_load 5 s [.ref (a 0), .int (nI i), .int (nI b)].toArray wsX4_load RX4 := ⟨hx, hb, hml, hown, hts⟩
  have hl : lv_has ls 5 [(0, .ref (a 0)), (1, .int (nI i)), (2, .int (nI b))] := hl
  have huX4 : ∀ w ∈ wsX40, w ∈ wsX4_load := by decide +kernel
  refine lv_iconst (v := 0) hx hb dX4_load_0 (by decide) ?_
  refine sn_top ((sn_mas_self f (i + 1)).symm) ?_
  refine lv_istore_n (lv' := [(3, .int (sn_mas f (i + 1) (i + 1))), (0, .ref (a 0)), (1, .int (nI i)), (2, .int (nI b))]) hx hb dX4_load_1 rfl hl (by decide) rfl (fun ls hl => ?_)
  refine lv_iload_n hx hb dX4_load_2 rfl (lv_at hl 2 rfl) ?_
  refine lv_iconst (v := 1) hx hb dX4_load_3 (by decide) ?_
  refine lv_iadd hx hb dX4_load_4 ?_
  refine sn_top (sn_nadd (a := i) (b := 1) rfl rfl) ?_
  refine lv_istore (lv' := [(4, .int (nI (i + 1))), (3, .int (sn_mas f (i + 1) (i + 1))), (0, .ref (a 0)), (1, .int (nI i)), (2, .int (nI b))]) hx hb dX4_load_5 hl (by decide) rfl (fun ls hl => ?_)
  have loop : ∀ (fu : Nat) (k : Nat), (i + 1 ≤ k) → (k ≤ b) → b - k < fu → ∀ ls : Array Slot, lv_has ls 5 [(0, .ref (a 0)), (1, .int (nI i)), (2, .int (nI b)), (3, .int (sn_mas f (i + 1) k)), (4, .int (nI k))] → W p l e (sn_rm 1 0 0) s m [.ref (a 0), .int (nI i), .int (nI b)].toArray below meth c s.heap [] 0 0 (MQ below (vp_Si (fun x => x = (sn_lod f i b))) [.ref (a 0), .int (nI i), .int (nI b)].toArray s 0 0 (fun _ => False)) (F0 m 7 ls []) := by
    intro fu
    induction fu with
    | zero => intro k h1 h2 hm; exact absurd hm (Nat.not_lt_zero _)
    | succ fu ih_loop =>
      intro k h1 h2 hm ls hl
      refine lv_iload hx hb dX4_load_7 (lv_at hl 4 rfl) ?_
      refine lv_iload_n hx hb dX4_load_9 rfl (lv_at hl 2 rfl) ?_
      refine lv_icmp_ge (tgt := 45) hx hb dX4_load_10 (by decide) (fun c_1 => ?_) (fun c_1 => ?_)
      · have c_1 := (sn_cgej (a := k) (b := b) rfl rfl (by omega) (by omega)).mp c_1
        refine lv_iload_n hx hb dX4_load_45 rfl (lv_at hl 3 rfl) ?_
        refine lv_bipush (v := 100) hx hb dX4_load_46 (by decide) ?_
        refine lv_idiv hx hb dX4_load_48 (by decide) ?_
        exact sn_ret hx hb hr hlk dX4_load_49 (by rw [show k = b by omega]; rfl)
      · have c_1 := (sn_cgef (a := k) (b := b) rfl rfl (by omega) (by omega)).mp c_1
        refine lv_iload_n hx hb dX4_load_13 rfl (lv_at hl 3 rfl) ?_
        refine lv_aload_n hx hb dX4_load_14 rfl (lv_at hl 0 rfl) ?_
        refine va_get (D := D) (ci := 3) (v := .ref (a 1)) (C := RX4) (T := TX4) (N := 6) hx hb hts huX4 hown hK hP 0 rfl rfl 0 (by decide) (hts (.fieldLink RX4 7 "SnowSlabsModel" "state" "[I") (by decide +kernel)) (fun _ h9 => h9) rfl dX4_load_15 ?_
        refine lv_iload hx hb dX4_load_18 (lv_at hl 4 rfl) ?_
        refine lv_iconst (v := 0) hx hb dX4_load_20 (by decide) ?_
        refine sn_cS 2 hC hl (ct_X4_at l D _ [] k 0) gX4_load_X4_at rfl (by decide +kernel) rfl ⟨Nat.le_of_ble_eq_true rfl, Nat.le_of_ble_eq_true rfl⟩ ⟨Nat.zero_le _, Nat.zero_le _⟩ (fun _ _ h => by simp at h) hK hN rfl (Nat.le_of_ble_eq_true rfl) dX4_load_21 ?_
        refine sn_top (congrArg nI (show _ = 7 + 5 * k by omega)) ?_
        refine sn_ild (k := 7 + 5 * k) (v := f (7 + 5 * k)) 1 0 hx hb hK hP rfl rfl (by omega) (by decide) rfl rfl dX4_load_24 ?_
        refine lv_aload_n hx hb dX4_load_25 rfl (lv_at hl 0 rfl) ?_
        refine va_get (D := D) (ci := 3) (v := .ref (a 1)) (C := RX4) (T := TX4) (N := 6) hx hb hts huX4 hown hK hP 0 rfl rfl 0 (by decide) (hts (.fieldLink RX4 7 "SnowSlabsModel" "state" "[I") (by decide +kernel)) (fun _ h9 => h9) rfl dX4_load_26 ?_
        refine lv_iload hx hb dX4_load_29 (lv_at hl 4 rfl) ?_
        refine lv_iconst (v := 1) hx hb dX4_load_31 (by decide) ?_
        refine sn_cS 2 hC hl (ct_X4_at l D _ [] k 1) gX4_load_X4_at rfl (by decide +kernel) rfl ⟨Nat.le_of_ble_eq_true rfl, Nat.le_of_ble_eq_true rfl⟩ ⟨Nat.zero_le _, Nat.zero_le _⟩ (fun _ _ h => by simp at h) hK hN rfl (Nat.le_of_ble_eq_true rfl) dX4_load_32 ?_
        refine sn_top (congrArg nI (show _ = 8 + 5 * k by omega)) ?_
        refine sn_ild (k := 8 + 5 * k) (v := f (8 + 5 * k)) 1 0 hx hb hK hP rfl rfl (by omega) (by decide) rfl rfl dX4_load_35 ?_
        refine lv_imul hx hb dX4_load_36 ?_
        refine lv_iadd hx hb dX4_load_37 ?_
        refine sn_top (sn_mas_s h1) ?_
        refine lv_istore_n (lv' := [(3, .int (sn_mas f (i + 1) (k + 1))), (0, .ref (a 0)), (1, .int (nI i)), (2, .int (nI b)), (4, .int (nI k))]) hx hb dX4_load_38 rfl hl (by decide) rfl (fun ls hl => ?_)
        refine lv_iinc (v := nI (k + 1)) (lv' := [(4, .int (nI (k + 1))), (3, .int (sn_mas f (i + 1) (k + 1))), (0, .ref (a 0)), (1, .int (nI i)), (2, .int (nI b))]) hx hb dX4_load_39 hl (k := 4) rfl (sn_inc _) (by decide) rfl (fun ls hl => ?_)
        refine lv_goto (tgt := 7) hx hb dX4_load_42 (by decide) ?_
        exact ih_loop (k + 1) (by omega) (by omega) (by omega) ls (lv_sub hl [2, 3, 4, 1, 0] rfl)
  exact loop ((b - (i + 1)) + 1) (i + 1) (Nat.le_refl _) hib (by omega) ls (lv_sub hl [2, 3, 4, 1, 0] rfl)
set_option maxRecDepth 100000 in
set_option maxHeartbeats 4000000 in
theorem ct_X4_shear (l : Launch) (D : va_G) (cI cZ cR : ClassId) (a : Nat → Nat) (f g kp tp ly : Nat → Int32) (nb : Int32) (n : Nat) (hI : sn_I f n) (i : Nat) (hi : i < n) (st : Int32) : sn_Rd l yX4_shear wsX4_shear 2 [.ref (a 0), .int (nI i), .int st] D (sn_ty cI cZ cR) (sn_wM cI cZ a f g kp tp ly nb) (sn_she f i n st) := by
  refine sn_rd (cc := cX4_shear) (maxL := 3) (ret := (some .int)) (by decide) rfl (Nat.le_of_ble_eq_true rfl) ?_
  intro p e s m below meth c hx hb hml hr hlk hts hown hP hK hN ls hl
  have hC : CallFix p m c cX4_shear 3 s [.ref (a 0), .int (nI i), .int st].toArray wsX4_shear RX4 := ⟨hx, hb, hml, hown, hts⟩
  have hl : lv_has ls 3 [(0, .ref (a 0)), (1, .int (nI i)), (2, .int st)] := hl
  have huX4 : ∀ w ∈ wsX40, w ∈ wsX4_shear := by decide +kernel
  refine lv_aload_n hx hb dX4_shear_0 rfl (lv_at hl 0 rfl) ?_
  refine lv_iload_n hx hb dX4_shear_1 rfl (lv_at hl 1 rfl) ?_
  refine lv_aload_n hx hb dX4_shear_2 rfl (lv_at hl 0 rfl) ?_
  refine va_get (D := D) (ci := 3) (v := .ref (a 1)) (C := RX4) (T := TX4) (N := 6) hx hb hts huX4 hown hK hP 0 rfl rfl 0 (by decide) (hts (.fieldLink RX4 7 "SnowSlabsModel" "state" "[I") (by decide +kernel)) (fun _ h9 => h9) rfl dX4_shear_3 ?_
  refine lv_iconst (v := 0) hx hb dX4_shear_6 (by decide) ?_
  refine sn_ild (k := 0) (v := f 0) 1 0 hx hb hK hP rfl rfl (by omega) (by decide) rfl rfl dX4_shear_7 ?_
  refine sn_top (hI.1) ?_
  refine sn_cV 2 0 hC hl (ct_X4_load l D cI cZ cR a f g kp tp ly nb i n (by omega) (by first | exact hI.2.1 | omega)) gX4_shear_X4_load rfl (by decide +kernel) rfl ⟨Nat.le_of_ble_eq_true rfl, Nat.le_of_ble_eq_true rfl⟩ ⟨Nat.zero_le _, Nat.zero_le _⟩ hP hK hN rfl rfl rfl (Nat.le_of_ble_eq_true rfl) dX4_shear_8 ?_
  refine lv_iload_n hx hb dX4_shear_11 rfl (lv_at hl 2 rfl) ?_
  refine lv_imul hx hb dX4_shear_12 ?_
  refine lv_bipush (v := 100) hx hb dX4_shear_13 (by decide) ?_
  refine lv_idiv hx hb dX4_shear_15 (by decide) ?_
  exact sn_ret hx hb hr hlk dX4_shear_16 (rfl)
set_option maxRecDepth 100000 in
set_option maxHeartbeats 4000000 in
theorem ct_X4_margin (l : Launch) (D : va_G) (cI cZ cR : ClassId) (a : Nat → Nat) (f g kp tp ly : Nat → Int32) (nb : Int32) (n : Nat) (hI : sn_I f n) (i : Nat) (hi : i < n) (st : Int32) : sn_Rd l yX4_margin wsX4_margin 3 [.ref (a 0), .int (nI i), .int st] D (sn_ty cI cZ cR) (sn_wM cI cZ a f g kp tp ly nb) (sn_mar f i n st) := by
  refine sn_rd (cc := cX4_margin) (maxL := 4) (ret := (some .int)) (by decide) rfl (Nat.le_of_ble_eq_true rfl) ?_
  intro p e s m below meth c hx hb hml hr hlk hts hown hP hK hN ls hl
  have hC : CallFix p m c cX4_margin 4 s [.ref (a 0), .int (nI i), .int st].toArray wsX4_margin RX4 := ⟨hx, hb, hml, hown, hts⟩
  have hl : lv_has ls 4 [(0, .ref (a 0)), (1, .int (nI i)), (2, .int st)] := hl
  refine lv_aload_n hx hb dX4_margin_0 rfl (lv_at hl 0 rfl) ?_
  refine lv_iload_n hx hb dX4_margin_1 rfl (lv_at hl 1 rfl) ?_
  refine lv_iload_n hx hb dX4_margin_2 rfl (lv_at hl 2 rfl) ?_
  refine sn_cV 2 0 hC hl (ct_X4_shear l D cI cZ cR a f g kp tp ly nb n hI i (by omega) st) gX4_margin_X4_shear rfl (by decide +kernel) rfl ⟨Nat.le_of_ble_eq_true rfl, Nat.le_of_ble_eq_true rfl⟩ ⟨Nat.zero_le _, Nat.zero_le _⟩ hP hK hN rfl rfl rfl (Nat.le_of_ble_eq_true rfl) dX4_margin_3 ?_
  refine lv_istore_n (lv' := [(3, .int (sn_she f i n st)), (0, .ref (a 0)), (1, .int (nI i)), (2, .int st)]) hx hb dX4_margin_6 rfl hl (by decide) rfl (fun ls hl => ?_)
  refine lv_iload_n hx hb dX4_margin_7 rfl (lv_at hl 0 rfl) ?_
  refine lv_if_ne (tgt := 17) hx hb dX4_margin_8 (by decide) (fun c_1 => ?_) (fun c_1 => ?_)
  · refine lv_bipush (v := 100) hx hb dX4_margin_17 (by decide) ?_
    refine lv_aload_n hx hb dX4_margin_19 rfl (lv_at hl 1 rfl) ?_
    refine lv_iload_n hx hb dX4_margin_20 rfl (lv_at hl 2 rfl) ?_
    refine sn_cV 1 0 hC hl (ct_X4_strength l D cI cZ cR a f g kp tp ly nb n hI i (by have := hI.2.1; omega)) gX4_margin_X4_strength rfl (by decide +kernel) rfl ⟨Nat.le_of_ble_eq_true rfl, Nat.le_of_ble_eq_true rfl⟩ ⟨Nat.zero_le _, Nat.zero_le _⟩ hP hK hN rfl rfl rfl (Nat.le_of_ble_eq_true rfl) dX4_margin_21 ?_
    refine lv_imul hx hb dX4_margin_24 ?_
    refine lv_iload_n hx hb dX4_margin_25 rfl (lv_at hl 0 rfl) ?_
    refine lv_idiv hx hb dX4_margin_26 c_1 ?_
    exact sn_ret hx hb hr hlk dX4_margin_27 ((if_neg c_1).symm)
  · refine lv_sipush (v := 9999) hx hb dX4_margin_11 (by decide) ?_
    refine lv_goto (tgt := 27) hx hb dX4_margin_14 (by decide) ?_
    exact sn_ret hx hb hr hlk dX4_margin_27 ((if_pos c_1).symm)
set_option maxRecDepth 100000 in
set_option maxHeartbeats 4000000 in
theorem ct_X4_press (l : Launch) (D : va_G) (cI cZ cR : ClassId) (a : Nat → Nat) (f g kp tp ly : Nat → Int32) (nb : Int32) (n : Nat) (hI : sn_I f n) (i b : Nat) (hib : i + 1 ≤ b) (hb10 : b ≤ 10) (wt : Int32) : sn_Rd l yX4_press wsX4_press 2 [.ref (a 0), .int (nI i), .int (nI b), .int wt] D (sn_ty cI cZ cR) (sn_wM cI cZ a f g kp tp ly nb) (sn_prs f i b wt) := by
  refine sn_rd (cc := cX4_press) (maxL := 4) (ret := (some .int)) (by decide) rfl (Nat.le_of_ble_eq_true rfl) ?_
  intro p e s m below meth c hx hb hml hr hlk hts hown hP hK hN ls hl
  have hC : CallFix p m c cX4_press 4 s [.ref (a 0), .int (nI i), .int (nI b), .int wt].toArray wsX4_press RX4 := ⟨hx, hb, hml, hown, hts⟩
  have hl : lv_has ls 4 [(0, .ref (a 0)), (1, .int (nI i)), (2, .int (nI b)), (3, .int wt)] := hl
  refine lv_bipush (v := 100) hx hb dX4_press_0 (by decide) ?_
  refine lv_iload_n hx hb dX4_press_2 rfl (lv_at hl 3 rfl) ?_
  refine lv_imul hx hb dX4_press_3 ?_
  refine lv_aload_n hx hb dX4_press_4 rfl (lv_at hl 0 rfl) ?_
  refine lv_iload_n hx hb dX4_press_5 rfl (lv_at hl 1 rfl) ?_
  refine lv_iload_n hx hb dX4_press_6 rfl (lv_at hl 2 rfl) ?_
  refine sn_cV 2 0 hC hl (ct_X4_depth l D cI cZ cR a f g kp tp ly nb (nI i) (i + 1) b (nI_1 _) (by omega) (by first | exact hI.2.1 | omega)) gX4_press_X4_depth rfl (by decide +kernel) rfl ⟨Nat.le_of_ble_eq_true rfl, Nat.le_of_ble_eq_true rfl⟩ ⟨Nat.zero_le _, Nat.zero_le _⟩ hP hK hN rfl rfl rfl (Nat.le_of_ble_eq_true rfl) dX4_press_7 ?_
  refine lv_bipush (v := 10) hx hb dX4_press_10 (by decide) ?_
  refine lv_iadd hx hb dX4_press_12 ?_
  refine lv_idiv hx hb dX4_press_13 (sn_dep_ne hI (i + 1) b hb10) ?_
  exact sn_ret hx hb hr hlk dX4_press_14 (rfl)
set_option maxRecDepth 100000 in
set_option maxHeartbeats 4000000 in
theorem ct_X4_layer (l : Launch) (D : va_G) (cI cZ cR : ClassId) (a : Nat → Nat) (f g kp tp ly : Nat → Int32) (nb : Int32) (n : Nat) (hI : sn_I f n) (x y : Int32) : sn_Rd l yX4_layer wsX4_layer 2 [.ref (a 0), .int x, .int y] D (sn_ty cI cZ cR) (sn_wM cI cZ a f g kp tp ly nb) (sn_Rlayer f n x y) := by
  refine sn_rd (cc := cX4_layer) (maxL := 3) (ret := (some .int)) (by decide) rfl (Nat.le_of_ble_eq_true rfl) ?_
  intro p e s m below meth c hx hb hml hr hlk hts hown hP hK hN ls hl
  have hC : CallFix p m c cX4_layer 3 s [.ref (a 0), .int x, .int y].toArray wsX4_layer RX4 := ⟨hx, hb, hml, hown, hts⟩
  have hl : lv_has ls 3 [(0, .ref (a 0)), (1, .int x), (2, .int y)] := hl
  have huX4 : ∀ w ∈ wsX40, w ∈ wsX4_layer := by decide +kernel
  have hn10 := hI.2.1
  refine lv_aload_n hx hb dX4_layer_0 rfl (lv_at hl 0 rfl) ?_
  refine lv_iload_n hx hb dX4_layer_1 rfl (lv_at hl 1 rfl) ?_
  refine sn_cV 1 0 hC hl (ct_X4_isLayer l D cI cZ cR a f g kp tp ly nb n hI x) gX4_layer_X4_isLayer rfl (by decide +kernel) rfl ⟨Nat.le_of_ble_eq_true rfl, Nat.le_of_ble_eq_true rfl⟩ ⟨Nat.zero_le _, Nat.zero_le _⟩ hP hK hN rfl rfl rfl (Nat.le_of_ble_eq_true rfl) dX4_layer_2 ?_
  refine lv_if_ne (tgt := 10) hx hb dX4_layer_5 (by decide) (fun c_1 => ?_) (fun c_1 => ?_)
  · have c_1 : 0 ≤ x ∧ x ≤ nI n - 1 := sn_b_nz.mp c_1
    obtain ⟨i, hi, hie⟩ := sn_isL hn10 c_1
    subst hie
    refine lv_iload_n hx hb dX4_layer_10 rfl (lv_at hl 2 rfl) ?_
    by_cases t_0 : y = 0
    · subst t_0
      refine lv_tableIn (tgt := 56) hx hb dX4_layer_11 (by decide) (by decide) (by decide +kernel : _ = some (45 : Int)) (by decide) ?_
      refine lv_aload_n hx hb dX4_layer_56 rfl (lv_at hl 0 rfl) ?_
      refine va_get (D := D) (ci := 3) (v := .ref (a 1)) (C := RX4) (T := TX4) (N := 6) hx hb hts huX4 hown hK hP 0 rfl rfl 0 (by decide) (hts (.fieldLink RX4 7 "SnowSlabsModel" "state" "[I") (by decide +kernel)) (fun _ h9 => h9) rfl dX4_layer_57 ?_
      refine lv_iload_n hx hb dX4_layer_60 rfl (lv_at hl 1 rfl) ?_
      refine lv_iload_n hx hb dX4_layer_61 rfl (lv_at hl 2 rfl) ?_
      refine sn_cS 2 hC hl (ct_X4_at l D _ [] i 0) gX4_layer_X4_at rfl (by decide +kernel) rfl ⟨Nat.le_of_ble_eq_true rfl, Nat.le_of_ble_eq_true rfl⟩ ⟨Nat.zero_le _, Nat.zero_le _⟩ (fun _ _ h => by simp at h) hK hN rfl (Nat.le_of_ble_eq_true rfl) dX4_layer_62 ?_
      refine sn_top (congrArg nI (show _ = 7 + 5 * i by omega)) ?_
      refine sn_ild (k := 7 + 5 * i) (v := f (7 + 5 * i)) 1 0 hx hb hK hP rfl rfl (by omega) (by decide) rfl rfl dX4_layer_65 ?_
      exact sn_ret hx hb hr hlk dX4_layer_66 (((if_pos c_1).trans ((congrArg (fun z => sn_RlayerN f n z 0) (nI_clamp (by omega))).trans (rfl))).symm)
    · skip
      by_cases t_1 : y = 1
      · subst t_1
        refine lv_tableIn (tgt := 56) hx hb dX4_layer_11 (by decide) (by decide) (by decide +kernel : _ = some (45 : Int)) (by decide) ?_
        refine lv_aload_n hx hb dX4_layer_56 rfl (lv_at hl 0 rfl) ?_
        refine va_get (D := D) (ci := 3) (v := .ref (a 1)) (C := RX4) (T := TX4) (N := 6) hx hb hts huX4 hown hK hP 0 rfl rfl 0 (by decide) (hts (.fieldLink RX4 7 "SnowSlabsModel" "state" "[I") (by decide +kernel)) (fun _ h9 => h9) rfl dX4_layer_57 ?_
        refine lv_iload_n hx hb dX4_layer_60 rfl (lv_at hl 1 rfl) ?_
        refine lv_iload_n hx hb dX4_layer_61 rfl (lv_at hl 2 rfl) ?_
        refine sn_cS 2 hC hl (ct_X4_at l D _ [] i 1) gX4_layer_X4_at rfl (by decide +kernel) rfl ⟨Nat.le_of_ble_eq_true rfl, Nat.le_of_ble_eq_true rfl⟩ ⟨Nat.zero_le _, Nat.zero_le _⟩ (fun _ _ h => by simp at h) hK hN rfl (Nat.le_of_ble_eq_true rfl) dX4_layer_62 ?_
        refine sn_top (congrArg nI (show _ = 8 + 5 * i by omega)) ?_
        refine sn_ild (k := 8 + 5 * i) (v := f (8 + 5 * i)) 1 0 hx hb hK hP rfl rfl (by omega) (by decide) rfl rfl dX4_layer_65 ?_
        exact sn_ret hx hb hr hlk dX4_layer_66 (((if_pos c_1).trans ((congrArg (fun z => sn_RlayerN f n z 1) (nI_clamp (by omega))).trans (rfl))).symm)
      · skip
        by_cases t_2 : y = 2
        · subst t_2
          refine lv_tableIn (tgt := 56) hx hb dX4_layer_11 (by decide) (by decide) (by decide +kernel : _ = some (45 : Int)) (by decide) ?_
          refine lv_aload_n hx hb dX4_layer_56 rfl (lv_at hl 0 rfl) ?_
          refine va_get (D := D) (ci := 3) (v := .ref (a 1)) (C := RX4) (T := TX4) (N := 6) hx hb hts huX4 hown hK hP 0 rfl rfl 0 (by decide) (hts (.fieldLink RX4 7 "SnowSlabsModel" "state" "[I") (by decide +kernel)) (fun _ h9 => h9) rfl dX4_layer_57 ?_
          refine lv_iload_n hx hb dX4_layer_60 rfl (lv_at hl 1 rfl) ?_
          refine lv_iload_n hx hb dX4_layer_61 rfl (lv_at hl 2 rfl) ?_
          refine sn_cS 2 hC hl (ct_X4_at l D _ [] i 2) gX4_layer_X4_at rfl (by decide +kernel) rfl ⟨Nat.le_of_ble_eq_true rfl, Nat.le_of_ble_eq_true rfl⟩ ⟨Nat.zero_le _, Nat.zero_le _⟩ (fun _ _ h => by simp at h) hK hN rfl (Nat.le_of_ble_eq_true rfl) dX4_layer_62 ?_
          refine sn_top (congrArg nI (show _ = 9 + 5 * i by omega)) ?_
          refine sn_ild (k := 9 + 5 * i) (v := f (9 + 5 * i)) 1 0 hx hb hK hP rfl rfl (by omega) (by decide) rfl rfl dX4_layer_65 ?_
          exact sn_ret hx hb hr hlk dX4_layer_66 (((if_pos c_1).trans ((congrArg (fun z => sn_RlayerN f n z 2) (nI_clamp (by omega))).trans (rfl))).symm)
        · skip
          by_cases t_3 : y = 3
          · subst t_3
            refine lv_tableIn (tgt := 56) hx hb dX4_layer_11 (by decide) (by decide) (by decide +kernel : _ = some (45 : Int)) (by decide) ?_
            refine lv_aload_n hx hb dX4_layer_56 rfl (lv_at hl 0 rfl) ?_
            refine va_get (D := D) (ci := 3) (v := .ref (a 1)) (C := RX4) (T := TX4) (N := 6) hx hb hts huX4 hown hK hP 0 rfl rfl 0 (by decide) (hts (.fieldLink RX4 7 "SnowSlabsModel" "state" "[I") (by decide +kernel)) (fun _ h9 => h9) rfl dX4_layer_57 ?_
            refine lv_iload_n hx hb dX4_layer_60 rfl (lv_at hl 1 rfl) ?_
            refine lv_iload_n hx hb dX4_layer_61 rfl (lv_at hl 2 rfl) ?_
            refine sn_cS 2 hC hl (ct_X4_at l D _ [] i 3) gX4_layer_X4_at rfl (by decide +kernel) rfl ⟨Nat.le_of_ble_eq_true rfl, Nat.le_of_ble_eq_true rfl⟩ ⟨Nat.zero_le _, Nat.zero_le _⟩ (fun _ _ h => by simp at h) hK hN rfl (Nat.le_of_ble_eq_true rfl) dX4_layer_62 ?_
            refine sn_top (congrArg nI (show _ = 10 + 5 * i by omega)) ?_
            refine sn_ild (k := 10 + 5 * i) (v := f (10 + 5 * i)) 1 0 hx hb hK hP rfl rfl (by omega) (by decide) rfl rfl dX4_layer_65 ?_
            exact sn_ret hx hb hr hlk dX4_layer_66 (((if_pos c_1).trans ((congrArg (fun z => sn_RlayerN f n z 3) (nI_clamp (by omega))).trans (rfl))).symm)
          · skip
            by_cases t_4 : y = 4
            · subst t_4
              refine lv_tableIn (tgt := 56) hx hb dX4_layer_11 (by decide) (by decide) (by decide +kernel : _ = some (45 : Int)) (by decide) ?_
              refine lv_aload_n hx hb dX4_layer_56 rfl (lv_at hl 0 rfl) ?_
              refine va_get (D := D) (ci := 3) (v := .ref (a 1)) (C := RX4) (T := TX4) (N := 6) hx hb hts huX4 hown hK hP 0 rfl rfl 0 (by decide) (hts (.fieldLink RX4 7 "SnowSlabsModel" "state" "[I") (by decide +kernel)) (fun _ h9 => h9) rfl dX4_layer_57 ?_
              refine lv_iload_n hx hb dX4_layer_60 rfl (lv_at hl 1 rfl) ?_
              refine lv_iload_n hx hb dX4_layer_61 rfl (lv_at hl 2 rfl) ?_
              refine sn_cS 2 hC hl (ct_X4_at l D _ [] i 4) gX4_layer_X4_at rfl (by decide +kernel) rfl ⟨Nat.le_of_ble_eq_true rfl, Nat.le_of_ble_eq_true rfl⟩ ⟨Nat.zero_le _, Nat.zero_le _⟩ (fun _ _ h => by simp at h) hK hN rfl (Nat.le_of_ble_eq_true rfl) dX4_layer_62 ?_
              refine sn_top (congrArg nI (show _ = 11 + 5 * i by omega)) ?_
              refine sn_ild (k := 11 + 5 * i) (v := f (11 + 5 * i)) 1 0 hx hb hK hP rfl rfl (by omega) (by decide) rfl rfl dX4_layer_65 ?_
              exact sn_ret hx hb hr hlk dX4_layer_66 (((if_pos c_1).trans ((congrArg (fun z => sn_RlayerN f n z 4) (nI_clamp (by omega))).trans (rfl))).symm)
            · skip
              by_cases t_5 : y = 5
              · subst t_5
                refine lv_tableIn (tgt := 67) hx hb dX4_layer_11 (by decide) (by decide) (by decide +kernel : _ = some (56 : Int)) (by decide) ?_
                refine lv_aload_n hx hb dX4_layer_67 rfl (lv_at hl 0 rfl) ?_
                refine lv_iload_n hx hb dX4_layer_68 rfl (lv_at hl 1 rfl) ?_
                refine sn_cV 1 0 hC hl (ct_X4_strength l D cI cZ cR a f g kp tp ly nb n hI i (by have := hI.2.1; omega)) gX4_layer_X4_strength rfl (by decide +kernel) rfl ⟨Nat.le_of_ble_eq_true rfl, Nat.le_of_ble_eq_true rfl⟩ ⟨Nat.zero_le _, Nat.zero_le _⟩ hP hK hN rfl rfl rfl (Nat.le_of_ble_eq_true rfl) dX4_layer_69 ?_
                exact sn_ret hx hb hr hlk dX4_layer_72 (((if_pos c_1).trans ((congrArg (fun z => sn_RlayerN f n z 5) (nI_clamp (by omega))).trans (rfl))).symm)
              · skip
                by_cases t_6 : y = 6
                · subst t_6
                  refine lv_tableIn (tgt := 73) hx hb dX4_layer_11 (by decide) (by decide) (by decide +kernel : _ = some (62 : Int)) (by decide) ?_
                  refine lv_aload_n hx hb dX4_layer_73 rfl (lv_at hl 0 rfl) ?_
                  refine lv_iload_n hx hb dX4_layer_74 rfl (lv_at hl 1 rfl) ?_
                  refine lv_aload_n hx hb dX4_layer_75 rfl (lv_at hl 0 rfl) ?_
                  refine va_get (D := D) (ci := 3) (v := .ref (a 1)) (C := RX4) (T := TX4) (N := 6) hx hb hts huX4 hown hK hP 0 rfl rfl 0 (by decide) (hts (.fieldLink RX4 7 "SnowSlabsModel" "state" "[I") (by decide +kernel)) (fun _ h9 => h9) rfl dX4_layer_76 ?_
                  refine lv_iconst (v := 0) hx hb dX4_layer_79 (by decide) ?_
                  refine sn_ild (k := 0) (v := f 0) 1 0 hx hb hK hP rfl rfl (by omega) (by decide) rfl rfl dX4_layer_80 ?_
                  refine sn_top (hI.1) ?_
                  refine sn_cV 2 0 hC hl (ct_X4_depth l D cI cZ cR a f g kp tp ly nb (nI i) (i + 1) n (nI_1 _) (by omega) (by first | exact hI.2.1 | omega)) gX4_layer_X4_depth rfl (by decide +kernel) rfl ⟨Nat.le_of_ble_eq_true rfl, Nat.le_of_ble_eq_true rfl⟩ ⟨Nat.zero_le _, Nat.zero_le _⟩ hP hK hN rfl rfl rfl (Nat.le_of_ble_eq_true rfl) dX4_layer_81 ?_
                  exact sn_ret hx hb hr hlk dX4_layer_84 (((if_pos c_1).trans ((congrArg (fun z => sn_RlayerN f n z 6) (nI_clamp (by omega))).trans (rfl))).symm)
                · skip
                  by_cases t_7 : y = 7
                  · subst t_7
                    refine lv_tableIn (tgt := 85) hx hb dX4_layer_11 (by decide) (by decide) (by decide +kernel : _ = some (74 : Int)) (by decide) ?_
                    refine lv_aload_n hx hb dX4_layer_85 rfl (lv_at hl 0 rfl) ?_
                    refine lv_iload_n hx hb dX4_layer_86 rfl (lv_at hl 1 rfl) ?_
                    refine lv_aload_n hx hb dX4_layer_87 rfl (lv_at hl 0 rfl) ?_
                    refine va_get (D := D) (ci := 3) (v := .ref (a 1)) (C := RX4) (T := TX4) (N := 6) hx hb hts huX4 hown hK hP 0 rfl rfl 0 (by decide) (hts (.fieldLink RX4 7 "SnowSlabsModel" "state" "[I") (by decide +kernel)) (fun _ h9 => h9) rfl dX4_layer_88 ?_
                    refine lv_iconst (v := 0) hx hb dX4_layer_91 (by decide) ?_
                    refine sn_ild (k := 0) (v := f 0) 1 0 hx hb hK hP rfl rfl (by omega) (by decide) rfl rfl dX4_layer_92 ?_
                    refine sn_top (hI.1) ?_
                    refine sn_cV 2 0 hC hl (ct_X4_load l D cI cZ cR a f g kp tp ly nb i n (by omega) (by first | exact hI.2.1 | omega)) gX4_layer_X4_load rfl (by decide +kernel) rfl ⟨Nat.le_of_ble_eq_true rfl, Nat.le_of_ble_eq_true rfl⟩ ⟨Nat.zero_le _, Nat.zero_le _⟩ hP hK hN rfl rfl rfl (Nat.le_of_ble_eq_true rfl) dX4_layer_93 ?_
                    exact sn_ret hx hb hr hlk dX4_layer_96 (((if_pos c_1).trans ((congrArg (fun z => sn_RlayerN f n z 7) (nI_clamp (by omega))).trans (rfl))).symm)
                  · refine lv_tableOut (tgt := 97) hx hb dX4_layer_11 (by have e0 := lv_neT t_0 (a := 0) rfl; have e1 := lv_neT t_1 (a := 1) rfl; have e2 := lv_neT t_2 (a := 2) rfl; have e3 := lv_neT t_3 (a := 3) rfl; have e4 := lv_neT t_4 (a := 4) rfl; have e5 := lv_neT t_5 (a := 5) rfl; have e6 := lv_neT t_6 (a := 6) rfl; have e7 := lv_neT t_7 (a := 7) rfl; omega) (by decide) ?_
                    refine lv_bipush (v := (-2)) hx hb dX4_layer_97 (by decide) ?_
                    exact sn_ret hx hb hr hlk dX4_layer_99 (((if_pos c_1).trans (show sn_RlayerN f n _ y = -2 from (((if_neg t_0).trans ((if_neg t_1).trans ((if_neg t_2).trans ((if_neg t_3).trans ((if_neg t_4).trans ((if_neg t_5).trans ((if_neg t_6).trans ((if_neg t_7).trans (rfl))))))))).symm).symm)).symm)
  · have c_1 : ¬ (0 ≤ x ∧ x ≤ nI n - 1) := sn_b_z.mp c_1
    refine lv_iconst (v := (-1)) hx hb dX4_layer_8 (by decide) ?_
    exact sn_ret hx hb hr hlk dX4_layer_9 ((if_neg c_1).symm)
set_option maxRecDepth 100000 in
set_option maxHeartbeats 4000000 in
theorem ct_X4_isSteep (l : Launch) (D : va_G) (tys : List (ClassId × FieldType)) (w : va_W) (x : Int32) : sn_Rd l yX4_isSteep wsX4_isSteep 1 [.int x] D tys (w) (sn_b (0 ≤ x ∧ x ≤ 100)) := by
  refine sn_rd (cc := cX4_isSteep) (maxL := 1) (ret := (some .boolean)) (by decide) rfl (Nat.le_of_ble_eq_true rfl) ?_
  intro p e s m below meth c hx hb hml hr hlk hts hown hP hK hN ls hl
  have hC : CallFix p m c cX4_isSteep 1 s [.int x].toArray wsX4_isSteep RX4 := ⟨hx, hb, hml, hown, hts⟩
  have hl : lv_has ls 1 [(0, .int x)] := hl
  refine lv_iload_n hx hb dX4_isSteep_0 rfl (lv_at hl 0 rfl) ?_
  refine lv_iconst (v := 0) hx hb dX4_isSteep_1 (by decide) ?_
  refine lv_bipush (v := 100) hx hb dX4_isSteep_2 (by decide) ?_
  refine sn_cS 3 hC hl (ct_X4_in l D _ [] x 0 100) gX4_isSteep_X4_in rfl (by decide +kernel) rfl ⟨Nat.le_of_ble_eq_true rfl, Nat.le_of_ble_eq_true rfl⟩ ⟨Nat.zero_le _, Nat.zero_le _⟩ (fun _ _ h => by simp at h) hK hN rfl (Nat.le_of_ble_eq_true rfl) dX4_isSteep_4 ?_
  exact sn_zret hx hb hr hlk dX4_isSteep_7 (sn_b_01 _) (rfl)
set_option maxRecDepth 100000 in
set_option maxHeartbeats 4000000 in
theorem ct_X4_isSide (l : Launch) (D : va_G) (tys : List (ClassId × FieldType)) (w : va_W) (x : Int32) : sn_Rd l yX4_isSide wsX4_isSide 1 [.int x] D tys (w) (sn_b (0 ≤ x ∧ x ≤ 7)) := by
  refine sn_rd (cc := cX4_isSide) (maxL := 1) (ret := (some .boolean)) (by decide) rfl (Nat.le_of_ble_eq_true rfl) ?_
  intro p e s m below meth c hx hb hml hr hlk hts hown hP hK hN ls hl
  have hC : CallFix p m c cX4_isSide 1 s [.int x].toArray wsX4_isSide RX4 := ⟨hx, hb, hml, hown, hts⟩
  have hl : lv_has ls 1 [(0, .int x)] := hl
  refine lv_iload_n hx hb dX4_isSide_0 rfl (lv_at hl 0 rfl) ?_
  refine lv_iconst (v := 0) hx hb dX4_isSide_1 (by decide) ?_
  refine lv_bipush (v := 7) hx hb dX4_isSide_2 (by decide) ?_
  refine sn_cS 3 hC hl (ct_X4_in l D _ [] x 0 7) gX4_isSide_X4_in rfl (by decide +kernel) rfl ⟨Nat.le_of_ble_eq_true rfl, Nat.le_of_ble_eq_true rfl⟩ ⟨Nat.zero_le _, Nat.zero_le _⟩ (fun _ _ h => by simp at h) hK hN rfl (Nat.le_of_ble_eq_true rfl) dX4_isSide_4 ?_
  exact sn_zret hx hb hr hlk dX4_isSide_7 (sn_b_01 _) (rfl)
set_option maxRecDepth 100000 in
set_option maxHeartbeats 4000000 in
theorem ct_X4_slope (l : Launch) (D : va_G) (cI cZ cR : ClassId) (a : Nat → Nat) (f g kp tp ly : Nat → Int32) (nb : Int32) (n : Nat) (hI : sn_I f n) (x y z : Int32) : sn_Rd l yX4_slope wsX4_slope 4 [.ref (a 0), .int x, .int y, .int z] D (sn_ty cI cZ cR) (sn_wM cI cZ a f g kp tp ly nb) (sn_Rslope f n x y z) := by
  refine sn_rd (cc := cX4_slope) (maxL := 4) (ret := (some .int)) (by decide) rfl (Nat.le_of_ble_eq_true rfl) ?_
  intro p e s m below meth c hx hb hml hr hlk hts hown hP hK hN ls hl
  have hC : CallFix p m c cX4_slope 4 s [.ref (a 0), .int x, .int y, .int z].toArray wsX4_slope RX4 := ⟨hx, hb, hml, hown, hts⟩
  have hl : lv_has ls 4 [(0, .ref (a 0)), (1, .int x), (2, .int y), (3, .int z)] := hl
  have hn10 := hI.2.1
  refine lv_aload_n hx hb dX4_slope_0 rfl (lv_at hl 0 rfl) ?_
  refine lv_iload_n hx hb dX4_slope_1 rfl (lv_at hl 1 rfl) ?_
  refine sn_cV 1 0 hC hl (ct_X4_isLayer l D cI cZ cR a f g kp tp ly nb n hI x) gX4_slope_X4_isLayer rfl (by decide +kernel) rfl ⟨Nat.le_of_ble_eq_true rfl, Nat.le_of_ble_eq_true rfl⟩ ⟨Nat.zero_le _, Nat.zero_le _⟩ hP hK hN rfl rfl rfl (Nat.le_of_ble_eq_true rfl) dX4_slope_2 ?_
  refine lv_if_ne (tgt := 10) hx hb dX4_slope_5 (by decide) (fun c_1 => ?_) (fun c_1 => ?_)
  · have c_1 : 0 ≤ x ∧ x ≤ nI n - 1 := sn_b_nz.mp c_1
    obtain ⟨i, hi, hie⟩ := sn_isL hn10 c_1
    subst hie
    refine lv_iload_n hx hb dX4_slope_10 rfl (lv_at hl 2 rfl) ?_
    refine sn_cS 1 hC hl (ct_X4_isSteep l D _ [] y) gX4_slope_X4_isSteep rfl (by decide +kernel) rfl ⟨Nat.le_of_ble_eq_true rfl, Nat.le_of_ble_eq_true rfl⟩ ⟨Nat.zero_le _, Nat.zero_le _⟩ (fun _ _ h => by simp at h) hK hN rfl (Nat.le_of_ble_eq_true rfl) dX4_slope_11 ?_
    refine lv_if_eq (tgt := 26) hx hb dX4_slope_14 (by decide) (fun c_2 => ?_) (fun c_2 => ?_)
    · have c_2 : ¬ (0 ≤ y ∧ y ≤ 100) := sn_b_z.mp c_2
      refine lv_bipush (v := (-2)) hx hb dX4_slope_26 (by decide) ?_
      exact sn_ret hx hb hr hlk dX4_slope_28 (((if_pos c_1).trans (if_neg (fun h => c_2 h.1))).symm)
    · have c_2 : 0 ≤ y ∧ y ≤ 100 := sn_b_nz.mp c_2
      refine lv_iload_n hx hb dX4_slope_17 rfl (lv_at hl 3 rfl) ?_
      refine lv_iconst (v := 0) hx hb dX4_slope_18 (by decide) ?_
      refine lv_iconst (v := 1) hx hb dX4_slope_19 (by decide) ?_
      refine sn_cS 3 hC hl (ct_X4_in l D _ [] z 0 1) gX4_slope_X4_in rfl (by decide +kernel) rfl ⟨Nat.le_of_ble_eq_true rfl, Nat.le_of_ble_eq_true rfl⟩ ⟨Nat.zero_le _, Nat.zero_le _⟩ (fun _ _ h => by simp at h) hK hN rfl (Nat.le_of_ble_eq_true rfl) dX4_slope_20 ?_
      refine lv_if_ne (tgt := 29) hx hb dX4_slope_23 (by decide) (fun c_3 => ?_) (fun c_3 => ?_)
      · have c_3 : 0 ≤ z ∧ z ≤ 1 := sn_b_nz.mp c_3
        refine lv_iload_n hx hb dX4_slope_29 rfl (lv_at hl 3 rfl) ?_
        refine lv_if_ne (tgt := 42) hx hb dX4_slope_30 (by decide) (fun c_4 => ?_) (fun c_4 => ?_)
        · refine lv_aload_n hx hb dX4_slope_42 rfl (lv_at hl 0 rfl) ?_
          refine lv_iload_n hx hb dX4_slope_43 rfl (lv_at hl 1 rfl) ?_
          refine lv_iload_n hx hb dX4_slope_44 rfl (lv_at hl 2 rfl) ?_
          refine sn_cV 2 0 hC hl (ct_X4_margin l D cI cZ cR a f g kp tp ly nb n hI i (by omega) y) gX4_slope_X4_margin rfl (by decide +kernel) rfl ⟨Nat.le_of_ble_eq_true rfl, Nat.le_of_ble_eq_true rfl⟩ ⟨Nat.zero_le _, Nat.zero_le _⟩ hP hK hN rfl rfl rfl (Nat.le_of_ble_eq_true rfl) dX4_slope_45 ?_
          exact sn_ret hx hb hr hlk dX4_slope_48 (((if_pos c_1).trans ((if_pos (⟨c_2, c_3⟩)).trans ((if_neg c_4).trans (by rw [nI_clamp (by omega)])))).symm)
        · refine lv_aload_n hx hb dX4_slope_33 rfl (lv_at hl 0 rfl) ?_
          refine lv_iload_n hx hb dX4_slope_34 rfl (lv_at hl 1 rfl) ?_
          refine lv_iload_n hx hb dX4_slope_35 rfl (lv_at hl 2 rfl) ?_
          refine sn_cV 2 0 hC hl (ct_X4_shear l D cI cZ cR a f g kp tp ly nb n hI i (by omega) y) gX4_slope_X4_shear rfl (by decide +kernel) rfl ⟨Nat.le_of_ble_eq_true rfl, Nat.le_of_ble_eq_true rfl⟩ ⟨Nat.zero_le _, Nat.zero_le _⟩ hP hK hN rfl rfl rfl (Nat.le_of_ble_eq_true rfl) dX4_slope_36 ?_
          refine lv_goto (tgt := 48) hx hb dX4_slope_39 (by decide) ?_
          exact sn_ret hx hb hr hlk dX4_slope_48 (((if_pos c_1).trans ((if_pos (⟨c_2, c_3⟩)).trans ((if_pos c_4).trans (by rw [nI_clamp (by omega)])))).symm)
      · have c_3 : ¬ (0 ≤ z ∧ z ≤ 1) := sn_b_z.mp c_3
        refine lv_bipush (v := (-2)) hx hb dX4_slope_26 (by decide) ?_
        exact sn_ret hx hb hr hlk dX4_slope_28 (((if_pos c_1).trans (if_neg (fun h => c_3 h.2))).symm)
  · have c_1 : ¬ (0 ≤ x ∧ x ≤ nI n - 1) := sn_b_z.mp c_1
    refine lv_iconst (v := (-1)) hx hb dX4_slope_8 (by decide) ?_
    exact sn_ret hx hb hr hlk dX4_slope_9 ((if_neg c_1).symm)
