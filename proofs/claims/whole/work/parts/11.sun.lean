set_option maxRecDepth 100000 in
set_option maxHeartbeats 4000000 in
theorem ct_X1_heatIn (l : Launch) (D : va_G) (tys : List (ClassId × FieldType)) (w : va_W) (i h : Nat) (hi : i < 8) (hh : h < 24) : sn_Rd l yX1_heatIn wsX1_heatIn 1 [.int (nI i), .int (nI h)] D tys (w) (nI (sn_hv i h)) := by
  refine sn_rd (cc := cX1_heatIn) (maxL := 4) (ret := (some .int)) (by decide) rfl (Nat.le_of_ble_eq_true rfl) ?_
  intro p e s m below meth c hx hb hml hr hlk hts hown hP hK hN ls hl
  have hC : CallFix p m c cX1_heatIn 4 s [.int (nI i), .int (nI h)].toArray wsX1_heatIn RX1 := ⟨hx, hb, hml, hown, hts⟩
  have hl : lv_has ls 4 [(0, .int (nI i)), (1, .int (nI h))] := hl
  refine lv_iload_n hx hb dX1_heatIn_0 rfl (lv_at hl 1 rfl) ?_
  refine lv_bipush (v := 6) hx hb dX1_heatIn_1 (by decide) ?_
  refine lv_bipush (v := 18) hx hb dX1_heatIn_3 (by decide) ?_
  refine sn_cN 3 hC hl (ct_X3_within l D _ [] (nI h) 6 18) gX1_heatIn_X3_within_n9 rfl hN.2.2 (hts (.initialized RX3) (by decide +kernel)) (hts (.static yX3_within) (by decide +kernel)) (by decide +kernel) rfl ⟨Nat.le_of_ble_eq_true rfl, Nat.le_of_ble_eq_true rfl⟩ ⟨Nat.zero_le _, Nat.zero_le _⟩ (fun _ _ h => by simp at h) hK hN rfl (Nat.le_of_ble_eq_true rfl) dX1_heatIn_5 ?_
  refine lv_if_ne (tgt := 13) hx hb dX1_heatIn_8 (by decide) (fun c_1 => ?_) (fun c_1 => ?_)
  · have c_1 : 6 ≤ (nI h) ∧ (nI h) ≤ 18 := sn_b_nz.mp c_1
    refine lv_bipush (v := 45) hx hb dX1_heatIn_13 (by decide) ?_
    refine lv_iload_n hx hb dX1_heatIn_15 rfl (lv_at hl 0 rfl) ?_
    refine lv_imul hx hb dX1_heatIn_16 ?_
    refine sn_top (sn_nmul (a := 45) (b := i) rfl rfl) ?_
    refine lv_bipush (v := 15) hx hb dX1_heatIn_17 (by decide) ?_
    refine lv_iload_n hx hb dX1_heatIn_19 rfl (lv_at hl 1 rfl) ?_
    refine lv_imul hx hb dX1_heatIn_20 ?_
    refine sn_top (sn_nmul (a := 15) (b := h) rfl rfl) ?_
    refine lv_isub hx hb dX1_heatIn_21 ?_
    refine va_mabs hx hb (hml.trans hl.1.symm) hown (hts (.methodLink RX1 13 Lib.Math.abs.name) (by decide +kernel)) (hts (.static Lib.Math.abs.name) (by decide +kernel)) (hts (.initialized "java/lang/Math") (by decide +kernel)) (hts (.code Lib.Math.abs.name Lib.Math.abs.code 1 (some .int)) (by decide +kernel)) (Nat.le_of_ble_eq_true rfl) (Nat.le_of_ble_eq_true rfl) (Nat.zero_le _) (Nat.zero_le _) dX1_heatIn_22 ?_
    refine lv_istore_n (lv' := [(2, .int (if 0 ≤ ((nI (45 * i)) - (nI (15 * h))) then ((nI (45 * i)) - (nI (15 * h))) else 0 - ((nI (45 * i)) - (nI (15 * h))))), (0, .int (nI i)), (1, .int (nI h))]) hx hb dX1_heatIn_25 rfl hl (by decide) rfl (fun ls hl => ?_)
    refine lv_iload_n hx hb dX1_heatIn_26 rfl (lv_at hl 0 rfl) ?_
    refine lv_sipush (v := 360) hx hb dX1_heatIn_27 (by decide) ?_
    refine lv_iload_n hx hb dX1_heatIn_30 rfl (lv_at hl 0 rfl) ?_
    refine lv_isub hx hb dX1_heatIn_31 ?_
    refine va_mmin hx hb (hml.trans hl.1.symm) hown (hts (.methodLink RX1 19 Lib.Math.min.name) (by decide +kernel)) (hts (.static Lib.Math.min.name) (by decide +kernel)) (hts (.initialized "java/lang/Math") (by decide +kernel)) (hts (.code Lib.Math.min.name Lib.Math.min.code 2 (some .int)) (by decide +kernel)) (Nat.le_of_ble_eq_true rfl) (Nat.le_of_ble_eq_true rfl) (Nat.zero_le _) (Nat.zero_le _) dX1_heatIn_32 ?_
    refine lv_istore_n (lv' := [(3, .int (if (360 - (if 0 ≤ ((nI (45 * i)) - (nI (15 * h))) then ((nI (45 * i)) - (nI (15 * h))) else 0 - ((nI (45 * i)) - (nI (15 * h))))) < (if 0 ≤ ((nI (45 * i)) - (nI (15 * h))) then ((nI (45 * i)) - (nI (15 * h))) else 0 - ((nI (45 * i)) - (nI (15 * h)))) then (360 - (if 0 ≤ ((nI (45 * i)) - (nI (15 * h))) then ((nI (45 * i)) - (nI (15 * h))) else 0 - ((nI (45 * i)) - (nI (15 * h))))) else (if 0 ≤ ((nI (45 * i)) - (nI (15 * h))) then ((nI (45 * i)) - (nI (15 * h))) else 0 - ((nI (45 * i)) - (nI (15 * h)))))), (2, .int (if 0 ≤ ((nI (45 * i)) - (nI (15 * h))) then ((nI (45 * i)) - (nI (15 * h))) else 0 - ((nI (45 * i)) - (nI (15 * h))))), (0, .int (nI i)), (1, .int (nI h))]) hx hb dX1_heatIn_35 rfl hl (by decide) rfl (fun ls hl => ?_)
    refine lv_iconst (v := 0) hx hb dX1_heatIn_36 (by decide) ?_
    refine lv_bipush (v := 90) hx hb dX1_heatIn_37 (by decide) ?_
    refine lv_iload_n hx hb dX1_heatIn_39 rfl (lv_at hl 0 rfl) ?_
    refine lv_isub hx hb dX1_heatIn_40 ?_
    refine va_mmax hx hb (hml.trans hl.1.symm) hown (hts (.methodLink RX1 23 Lib.Math.max.name) (by decide +kernel)) (hts (.static Lib.Math.max.name) (by decide +kernel)) (hts (.initialized "java/lang/Math") (by decide +kernel)) (hts (.code Lib.Math.max.name Lib.Math.max.code 2 (some .int)) (by decide +kernel)) (Nat.le_of_ble_eq_true rfl) (Nat.le_of_ble_eq_true rfl) (Nat.zero_le _) (Nat.zero_le _) dX1_heatIn_41 ?_
    exact sn_ret hx hb hr hlk dX1_heatIn_44 (sn_hvC i hi h hh c_1)
  · have c_1 : ¬ (6 ≤ (nI h) ∧ (nI h) ≤ 18) := sn_b_z.mp c_1
    refine lv_iconst (v := 0) hx hb dX1_heatIn_11 (by decide) ?_
    exact sn_ret hx hb hr hlk dX1_heatIn_12 (sn_hv0 h hh c_1 i hi)
set_option maxRecDepth 100000 in
set_option maxHeartbeats 4000000 in
theorem ct_X4_heatIn (l : Launch) (D : va_G) (tys : List (ClassId × FieldType)) (w : va_W) (i h : Nat) (hi : i < 8) (hh : h < 24) : sn_Rd l yX4_heatIn wsX4_heatIn 1 [.int (nI i), .int (nI h)] D tys (w) (nI (sn_hv i h)) := by
  refine sn_rd (cc := cX4_heatIn) (maxL := 3) (ret := (some .int)) (by decide) rfl (Nat.le_of_ble_eq_true rfl) ?_
  intro p e s m below meth c hx hb hml hr hlk hts hown hP hK hN ls hl
  have hC : CallFix p m c cX4_heatIn 3 s [.int (nI i), .int (nI h)].toArray wsX4_heatIn RX4 := ⟨hx, hb, hml, hown, hts⟩
  have hl : lv_has ls 3 [(0, .int (nI i)), (1, .int (nI h))] := hl
  refine lv_iload_n hx hb dX4_heatIn_0 rfl (lv_at hl 1 rfl) ?_
  refine lv_bipush (v := 6) hx hb dX4_heatIn_1 (by decide) ?_
  refine lv_bipush (v := 18) hx hb dX4_heatIn_3 (by decide) ?_
  refine sn_cS 3 hC hl (ct_X4_in l D _ [] (nI h) 6 18) gX4_heatIn_X4_in rfl (by decide +kernel) rfl ⟨Nat.le_of_ble_eq_true rfl, Nat.le_of_ble_eq_true rfl⟩ ⟨Nat.zero_le _, Nat.zero_le _⟩ (fun _ _ h => by simp at h) hK hN rfl (Nat.le_of_ble_eq_true rfl) dX4_heatIn_5 ?_
  refine lv_if_ne (tgt := 13) hx hb dX4_heatIn_8 (by decide) (fun c_1 => ?_) (fun c_1 => ?_)
  · have c_1 : 6 ≤ (nI h) ∧ (nI h) ≤ 18 := sn_b_nz.mp c_1
    refine lv_bipush (v := 45) hx hb dX4_heatIn_13 (by decide) ?_
    refine lv_iload_n hx hb dX4_heatIn_15 rfl (lv_at hl 0 rfl) ?_
    refine lv_imul hx hb dX4_heatIn_16 ?_
    refine sn_top (sn_nmul (a := 45) (b := i) rfl rfl) ?_
    refine lv_bipush (v := 15) hx hb dX4_heatIn_17 (by decide) ?_
    refine lv_iload_n hx hb dX4_heatIn_19 rfl (lv_at hl 1 rfl) ?_
    refine lv_imul hx hb dX4_heatIn_20 ?_
    refine sn_top (sn_nmul (a := 15) (b := h) rfl rfl) ?_
    refine lv_isub hx hb dX4_heatIn_21 ?_
    refine lv_istore_n (lv' := [(2, .int ((nI (45 * i)) - (nI (15 * h)))), (0, .int (nI i)), (1, .int (nI h))]) hx hb dX4_heatIn_22 rfl hl (by decide) rfl (fun ls hl => ?_)
    refine lv_iload_n hx hb dX4_heatIn_23 rfl (lv_at hl 0 rfl) ?_
    refine lv_if_ge (tgt := 32) hx hb dX4_heatIn_24 (by decide) (fun c_2 => ?_) (fun c_2 => ?_)
    · refine lv_iload_n hx hb dX4_heatIn_32 rfl (lv_at hl 0 rfl) ?_
      refine lv_istore_n (lv' := [(2, .int ((nI (45 * i)) - (nI (15 * h)))), (0, .int (nI i)), (1, .int (nI h))]) hx hb dX4_heatIn_33 rfl hl (by decide) rfl (fun ls hl => ?_)
      refine lv_iload_n hx hb dX4_heatIn_34 rfl (lv_at hl 0 rfl) ?_
      refine lv_sipush (v := 180) hx hb dX4_heatIn_35 (by decide) ?_
      refine lv_icmp_le (tgt := 49) hx hb dX4_heatIn_38 (by decide) (fun c_3 => ?_) (fun c_3 => ?_)
      · refine lv_iload_n hx hb dX4_heatIn_49 rfl (lv_at hl 0 rfl) ?_
        refine lv_istore_n (lv' := [(2, .int ((nI (45 * i)) - (nI (15 * h)))), (0, .int (nI i)), (1, .int (nI h))]) hx hb dX4_heatIn_50 rfl hl (by decide) rfl (fun ls hl => ?_)
        refine lv_iload_n hx hb dX4_heatIn_51 rfl (lv_at hl 0 rfl) ?_
        refine lv_bipush (v := 90) hx hb dX4_heatIn_52 (by decide) ?_
        refine lv_icmp_le (tgt := 61) hx hb dX4_heatIn_54 (by decide) (fun c_4 => ?_) (fun c_4 => ?_)
        · refine lv_bipush (v := 90) hx hb dX4_heatIn_61 (by decide) ?_
          refine lv_iload_n hx hb dX4_heatIn_63 rfl (lv_at hl 0 rfl) ?_
          refine lv_isub hx hb dX4_heatIn_64 ?_
          exact sn_ret hx hb hr hlk dX4_heatIn_65 ((show ∀ i, i < 8 → ∀ h, h < 24 → ((6 ≤ (nI h) ∧ (nI h) ≤ 18) ∧ (0 ≤ ((nI (45 * i)) - (nI (15 * h)))) ∧ (((nI (45 * i)) - (nI (15 * h))) ≤ 180) ∧ (((nI (45 * i)) - (nI (15 * h))) ≤ 90)) → (90 - ((nI (45 * i)) - (nI (15 * h)))) = nI (sn_hv i h) by decide +kernel) i hi h hh ⟨c_1, c_2, c_3, c_4⟩)
        · refine lv_iconst (v := 0) hx hb dX4_heatIn_57 (by decide) ?_
          refine lv_goto (tgt := 65) hx hb dX4_heatIn_58 (by decide) ?_
          exact sn_ret hx hb hr hlk dX4_heatIn_65 ((show ∀ i, i < 8 → ∀ h, h < 24 → ((6 ≤ (nI h) ∧ (nI h) ≤ 18) ∧ (0 ≤ ((nI (45 * i)) - (nI (15 * h)))) ∧ (((nI (45 * i)) - (nI (15 * h))) ≤ 180) ∧ (¬ ((nI (45 * i)) - (nI (15 * h))) ≤ 90)) → 0 = nI (sn_hv i h) by decide +kernel) i hi h hh ⟨c_1, c_2, c_3, c_4⟩)
      · refine lv_sipush (v := 360) hx hb dX4_heatIn_41 (by decide) ?_
        refine lv_iload_n hx hb dX4_heatIn_44 rfl (lv_at hl 0 rfl) ?_
        refine lv_isub hx hb dX4_heatIn_45 ?_
        refine lv_goto (tgt := 50) hx hb dX4_heatIn_46 (by decide) ?_
        refine lv_istore_n (lv' := [(2, .int (360 - ((nI (45 * i)) - (nI (15 * h))))), (0, .int (nI i)), (1, .int (nI h))]) hx hb dX4_heatIn_50 rfl hl (by decide) rfl (fun ls hl => ?_)
        refine lv_iload_n hx hb dX4_heatIn_51 rfl (lv_at hl 0 rfl) ?_
        refine lv_bipush (v := 90) hx hb dX4_heatIn_52 (by decide) ?_
        refine lv_icmp_le (tgt := 61) hx hb dX4_heatIn_54 (by decide) (fun c_5 => ?_) (fun c_5 => ?_)
        · refine lv_bipush (v := 90) hx hb dX4_heatIn_61 (by decide) ?_
          refine lv_iload_n hx hb dX4_heatIn_63 rfl (lv_at hl 0 rfl) ?_
          refine lv_isub hx hb dX4_heatIn_64 ?_
          exact sn_ret hx hb hr hlk dX4_heatIn_65 ((show ∀ i, i < 8 → ∀ h, h < 24 → ((6 ≤ (nI h) ∧ (nI h) ≤ 18) ∧ (0 ≤ ((nI (45 * i)) - (nI (15 * h)))) ∧ (¬ ((nI (45 * i)) - (nI (15 * h))) ≤ 180) ∧ ((360 - ((nI (45 * i)) - (nI (15 * h)))) ≤ 90)) → (90 - (360 - ((nI (45 * i)) - (nI (15 * h))))) = nI (sn_hv i h) by decide +kernel) i hi h hh ⟨c_1, c_2, c_3, c_5⟩)
        · refine lv_iconst (v := 0) hx hb dX4_heatIn_57 (by decide) ?_
          refine lv_goto (tgt := 65) hx hb dX4_heatIn_58 (by decide) ?_
          exact sn_ret hx hb hr hlk dX4_heatIn_65 ((show ∀ i, i < 8 → ∀ h, h < 24 → ((6 ≤ (nI h) ∧ (nI h) ≤ 18) ∧ (0 ≤ ((nI (45 * i)) - (nI (15 * h)))) ∧ (¬ ((nI (45 * i)) - (nI (15 * h))) ≤ 180) ∧ (¬ (360 - ((nI (45 * i)) - (nI (15 * h)))) ≤ 90)) → 0 = nI (sn_hv i h) by decide +kernel) i hi h hh ⟨c_1, c_2, c_3, c_5⟩)
    · refine lv_iload_n hx hb dX4_heatIn_27 rfl (lv_at hl 0 rfl) ?_
      refine lv_ineg hx hb dX4_heatIn_28 ?_
      refine lv_goto (tgt := 33) hx hb dX4_heatIn_29 (by decide) ?_
      refine lv_istore_n (lv' := [(2, .int (-((nI (45 * i)) - (nI (15 * h))))), (0, .int (nI i)), (1, .int (nI h))]) hx hb dX4_heatIn_33 rfl hl (by decide) rfl (fun ls hl => ?_)
      refine lv_iload_n hx hb dX4_heatIn_34 rfl (lv_at hl 0 rfl) ?_
      refine lv_sipush (v := 180) hx hb dX4_heatIn_35 (by decide) ?_
      refine lv_icmp_le (tgt := 49) hx hb dX4_heatIn_38 (by decide) (fun c_6 => ?_) (fun c_6 => ?_)
      · refine lv_iload_n hx hb dX4_heatIn_49 rfl (lv_at hl 0 rfl) ?_
        refine lv_istore_n (lv' := [(2, .int (-((nI (45 * i)) - (nI (15 * h))))), (0, .int (nI i)), (1, .int (nI h))]) hx hb dX4_heatIn_50 rfl hl (by decide) rfl (fun ls hl => ?_)
        refine lv_iload_n hx hb dX4_heatIn_51 rfl (lv_at hl 0 rfl) ?_
        refine lv_bipush (v := 90) hx hb dX4_heatIn_52 (by decide) ?_
        refine lv_icmp_le (tgt := 61) hx hb dX4_heatIn_54 (by decide) (fun c_7 => ?_) (fun c_7 => ?_)
        · refine lv_bipush (v := 90) hx hb dX4_heatIn_61 (by decide) ?_
          refine lv_iload_n hx hb dX4_heatIn_63 rfl (lv_at hl 0 rfl) ?_
          refine lv_isub hx hb dX4_heatIn_64 ?_
          exact sn_ret hx hb hr hlk dX4_heatIn_65 ((show ∀ i, i < 8 → ∀ h, h < 24 → ((6 ≤ (nI h) ∧ (nI h) ≤ 18) ∧ (¬ 0 ≤ ((nI (45 * i)) - (nI (15 * h)))) ∧ ((-((nI (45 * i)) - (nI (15 * h)))) ≤ 180) ∧ ((-((nI (45 * i)) - (nI (15 * h)))) ≤ 90)) → (90 - (-((nI (45 * i)) - (nI (15 * h))))) = nI (sn_hv i h) by decide +kernel) i hi h hh ⟨c_1, c_2, c_6, c_7⟩)
        · refine lv_iconst (v := 0) hx hb dX4_heatIn_57 (by decide) ?_
          refine lv_goto (tgt := 65) hx hb dX4_heatIn_58 (by decide) ?_
          exact sn_ret hx hb hr hlk dX4_heatIn_65 ((show ∀ i, i < 8 → ∀ h, h < 24 → ((6 ≤ (nI h) ∧ (nI h) ≤ 18) ∧ (¬ 0 ≤ ((nI (45 * i)) - (nI (15 * h)))) ∧ ((-((nI (45 * i)) - (nI (15 * h)))) ≤ 180) ∧ (¬ (-((nI (45 * i)) - (nI (15 * h)))) ≤ 90)) → 0 = nI (sn_hv i h) by decide +kernel) i hi h hh ⟨c_1, c_2, c_6, c_7⟩)
      · refine lv_sipush (v := 360) hx hb dX4_heatIn_41 (by decide) ?_
        refine lv_iload_n hx hb dX4_heatIn_44 rfl (lv_at hl 0 rfl) ?_
        refine lv_isub hx hb dX4_heatIn_45 ?_
        refine lv_goto (tgt := 50) hx hb dX4_heatIn_46 (by decide) ?_
        refine lv_istore_n (lv' := [(2, .int (360 - (-((nI (45 * i)) - (nI (15 * h)))))), (0, .int (nI i)), (1, .int (nI h))]) hx hb dX4_heatIn_50 rfl hl (by decide) rfl (fun ls hl => ?_)
        refine lv_iload_n hx hb dX4_heatIn_51 rfl (lv_at hl 0 rfl) ?_
        refine lv_bipush (v := 90) hx hb dX4_heatIn_52 (by decide) ?_
        refine lv_icmp_le (tgt := 61) hx hb dX4_heatIn_54 (by decide) (fun c_8 => ?_) (fun c_8 => ?_)
        · refine lv_bipush (v := 90) hx hb dX4_heatIn_61 (by decide) ?_
          refine lv_iload_n hx hb dX4_heatIn_63 rfl (lv_at hl 0 rfl) ?_
          refine lv_isub hx hb dX4_heatIn_64 ?_
          exact sn_ret hx hb hr hlk dX4_heatIn_65 ((show ∀ i, i < 8 → ∀ h, h < 24 → ((6 ≤ (nI h) ∧ (nI h) ≤ 18) ∧ (¬ 0 ≤ ((nI (45 * i)) - (nI (15 * h)))) ∧ (¬ (-((nI (45 * i)) - (nI (15 * h)))) ≤ 180) ∧ ((360 - (-((nI (45 * i)) - (nI (15 * h))))) ≤ 90)) → (90 - (360 - (-((nI (45 * i)) - (nI (15 * h)))))) = nI (sn_hv i h) by decide +kernel) i hi h hh ⟨c_1, c_2, c_6, c_8⟩)
        · refine lv_iconst (v := 0) hx hb dX4_heatIn_57 (by decide) ?_
          refine lv_goto (tgt := 65) hx hb dX4_heatIn_58 (by decide) ?_
          exact sn_ret hx hb hr hlk dX4_heatIn_65 ((show ∀ i, i < 8 → ∀ h, h < 24 → ((6 ≤ (nI h) ∧ (nI h) ≤ 18) ∧ (¬ 0 ≤ ((nI (45 * i)) - (nI (15 * h)))) ∧ (¬ (-((nI (45 * i)) - (nI (15 * h)))) ≤ 180) ∧ (¬ (360 - (-((nI (45 * i)) - (nI (15 * h))))) ≤ 90)) → 0 = nI (sn_hv i h) by decide +kernel) i hi h hh ⟨c_1, c_2, c_6, c_8⟩)
  · have c_1 : ¬ (6 ≤ (nI h) ∧ (nI h) ≤ 18) := sn_b_z.mp c_1
    refine lv_iconst (v := 0) hx hb dX4_heatIn_11 (by decide) ?_
    exact sn_ret hx hb hr hlk dX4_heatIn_12 (sn_hv0 h hh c_1 i hi)
set_option maxRecDepth 100000 in
set_option maxHeartbeats 4000000 in
theorem ct_X1_heatUpTo (l : Launch) (D : va_G) (tys : List (ClassId × FieldType)) (w : va_W) (i h : Nat) (hi : i < 8) (hh : h < 24) : sn_Rd l yX1_heatUpTo wsX1_heatUpTo 2 [.int (nI i), .int (nI h)] D tys (w) (nI (sn_hs i (h + 1))) := by
  refine sn_rd (cc := cX1_heatUpTo) (maxL := 4) (ret := (some .int)) (by decide) rfl (Nat.le_of_ble_eq_true rfl) ?_
  intro p e s m below meth c hx hb hml hr hlk hts hown hP hK hN ls hl
  have hC : CallFix p m c cX1_heatUpTo 4 s [.int (nI i), .int (nI h)].toArray wsX1_heatUpTo RX1 := ⟨hx, hb, hml, hown, hts⟩
  have hl : lv_has ls 4 [(0, .int (nI i)), (1, .int (nI h))] := hl
  refine lv_iconst (v := 0) hx hb dX1_heatUpTo_0 (by decide) ?_
  refine lv_istore_n (lv' := [(2, .int 0), (0, .int (nI i)), (1, .int (nI h))]) hx hb dX1_heatUpTo_1 rfl hl (by decide) rfl (fun ls hl => ?_)
  refine lv_iconst (v := 0) hx hb dX1_heatUpTo_2 (by decide) ?_
  refine lv_istore_n (lv' := [(3, .int 0), (2, .int 0), (0, .int (nI i)), (1, .int (nI h))]) hx hb dX1_heatUpTo_3 rfl hl (by decide) rfl (fun ls hl => ?_)
  have loop : ∀ (fu : Nat) (k : Nat), (k ≤ h + 1) → h + 1 - k < fu → ∀ ls : Array Slot, lv_has ls 4 [(0, .int (nI i)), (1, .int (nI h)), (2, .int (nI (sn_hs i k))), (3, .int (nI k))] → W p l e (sn_rm 2 0 0) s m [.int (nI i), .int (nI h)].toArray below meth c s.heap [] 0 0 (MQ below (vp_Si (fun r_ => r_ = (nI (sn_hs i (h + 1))))) [.int (nI i), .int (nI h)].toArray s 0 0 (fun _ => False)) (F0 m 4 ls []) := by
    intro fu
    induction fu with
    | zero => intro k h1 hm; exact absurd hm (Nat.not_lt_zero _)
    | succ fu ih_loop =>
      intro k h1 hm ls hl
      refine lv_iload_n hx hb dX1_heatUpTo_4 rfl (lv_at hl 3 rfl) ?_
      refine lv_iload_n hx hb dX1_heatUpTo_5 rfl (lv_at hl 1 rfl) ?_
      refine lv_icmp_gt (tgt := 23) hx hb dX1_heatUpTo_6 (by decide) (fun c_1 => ?_) (fun c_1 => ?_)
      · have c_1 := (sn_cgtj (a := k) (b := h) rfl rfl (by omega) (by omega)).mp c_1
        refine lv_iload_n hx hb dX1_heatUpTo_23 rfl (lv_at hl 2 rfl) ?_
        exact sn_ret hx hb hr hlk dX1_heatUpTo_24 (by rw [show k = h + 1 by omega])
      · have c_1 := (sn_cgtf (a := k) (b := h) rfl rfl (by omega) (by omega)).mp c_1
        refine lv_iload_n hx hb dX1_heatUpTo_9 rfl (lv_at hl 2 rfl) ?_
        refine lv_iload_n hx hb dX1_heatUpTo_10 rfl (lv_at hl 0 rfl) ?_
        refine lv_iload_n hx hb dX1_heatUpTo_11 rfl (lv_at hl 3 rfl) ?_
        refine sn_cS 2 hC hl (ct_X1_heatIn l D _ [] i k (by omega) (by omega)) gX1_heatUpTo_X1_heatIn rfl (by decide +kernel) rfl ⟨Nat.le_of_ble_eq_true rfl, Nat.le_of_ble_eq_true rfl⟩ ⟨Nat.zero_le _, Nat.zero_le _⟩ (fun _ _ h => by simp at h) hK hN rfl (Nat.le_of_ble_eq_true rfl) dX1_heatUpTo_12 ?_
        refine lv_iadd hx hb dX1_heatUpTo_15 ?_
        refine sn_top (sn_nadd (a := sn_hs i k) (b := sn_hv i k) rfl rfl) ?_
        refine lv_istore_n (lv' := [(2, .int (nI (sn_hs i k + (sn_hv i k)))), (0, .int (nI i)), (1, .int (nI h)), (3, .int (nI k))]) hx hb dX1_heatUpTo_16 rfl hl (by decide) rfl (fun ls hl => ?_)
        refine lv_iinc (v := nI (k + 1)) (lv' := [(3, .int (nI (k + 1))), (2, .int (nI (sn_hs i k + (sn_hv i k)))), (0, .int (nI i)), (1, .int (nI h))]) hx hb dX1_heatUpTo_17 hl (k := 3) rfl (sn_inc _) (by decide) rfl (fun ls hl => ?_)
        refine lv_goto (tgt := 4) hx hb dX1_heatUpTo_20 (by decide) ?_
        exact ih_loop (k + 1) (by omega) (by omega) ls (lv_sub hl [2, 3, 1, 0] rfl)
  exact loop ((h + 1 - 0) + 1) 0 (Nat.zero_le _) (by omega) ls (lv_sub hl [2, 3, 1, 0] rfl)
set_option maxRecDepth 100000 in
set_option maxHeartbeats 4000000 in
theorem ct_X4_heatTill (l : Launch) (D : va_G) (tys : List (ClassId × FieldType)) (w : va_W) (i h : Nat) (hi : i < 8) (hh : h < 24) : sn_Rd l yX4_heatTill wsX4_heatTill 2 [.int (nI i), .int (nI h)] D tys (w) (nI (sn_hs i (h + 1))) := by
  refine sn_rd (cc := cX4_heatTill) (maxL := 4) (ret := (some .int)) (by decide) rfl (Nat.le_of_ble_eq_true rfl) ?_
  intro p e s m below meth c hx hb hml hr hlk hts hown hP hK hN ls hl
  have hC : CallFix p m c cX4_heatTill 4 s [.int (nI i), .int (nI h)].toArray wsX4_heatTill RX4 := ⟨hx, hb, hml, hown, hts⟩
  have hl : lv_has ls 4 [(0, .int (nI i)), (1, .int (nI h))] := hl
  refine lv_iconst (v := 0) hx hb dX4_heatTill_0 (by decide) ?_
  refine lv_istore_n (lv' := [(2, .int 0), (0, .int (nI i)), (1, .int (nI h))]) hx hb dX4_heatTill_1 rfl hl (by decide) rfl (fun ls hl => ?_)
  refine lv_iconst (v := 0) hx hb dX4_heatTill_2 (by decide) ?_
  refine lv_istore_n (lv' := [(3, .int 0), (2, .int 0), (0, .int (nI i)), (1, .int (nI h))]) hx hb dX4_heatTill_3 rfl hl (by decide) rfl (fun ls hl => ?_)
  have loop : ∀ (fu : Nat) (k : Nat), (k ≤ h + 1) → h + 1 - k < fu → ∀ ls : Array Slot, lv_has ls 4 [(0, .int (nI i)), (1, .int (nI h)), (2, .int (nI (sn_hs i k))), (3, .int (nI k))] → W p l e (sn_rm 2 0 0) s m [.int (nI i), .int (nI h)].toArray below meth c s.heap [] 0 0 (MQ below (vp_Si (fun r_ => r_ = (nI (sn_hs i (h + 1))))) [.int (nI i), .int (nI h)].toArray s 0 0 (fun _ => False)) (F0 m 4 ls []) := by
    intro fu
    induction fu with
    | zero => intro k h1 hm; exact absurd hm (Nat.not_lt_zero _)
    | succ fu ih_loop =>
      intro k h1 hm ls hl
      refine lv_iload_n hx hb dX4_heatTill_4 rfl (lv_at hl 3 rfl) ?_
      refine lv_iload_n hx hb dX4_heatTill_5 rfl (lv_at hl 1 rfl) ?_
      refine lv_icmp_gt (tgt := 23) hx hb dX4_heatTill_6 (by decide) (fun c_1 => ?_) (fun c_1 => ?_)
      · have c_1 := (sn_cgtj (a := k) (b := h) rfl rfl (by omega) (by omega)).mp c_1
        refine lv_iload_n hx hb dX4_heatTill_23 rfl (lv_at hl 2 rfl) ?_
        exact sn_ret hx hb hr hlk dX4_heatTill_24 (by rw [show k = h + 1 by omega])
      · have c_1 := (sn_cgtf (a := k) (b := h) rfl rfl (by omega) (by omega)).mp c_1
        refine lv_iload_n hx hb dX4_heatTill_9 rfl (lv_at hl 2 rfl) ?_
        refine lv_iload_n hx hb dX4_heatTill_10 rfl (lv_at hl 0 rfl) ?_
        refine lv_iload_n hx hb dX4_heatTill_11 rfl (lv_at hl 3 rfl) ?_
        refine sn_cS 2 hC hl (ct_X4_heatIn l D _ [] i k (by omega) (by omega)) gX4_heatTill_X4_heatIn rfl (by decide +kernel) rfl ⟨Nat.le_of_ble_eq_true rfl, Nat.le_of_ble_eq_true rfl⟩ ⟨Nat.zero_le _, Nat.zero_le _⟩ (fun _ _ h => by simp at h) hK hN rfl (Nat.le_of_ble_eq_true rfl) dX4_heatTill_12 ?_
        refine lv_iadd hx hb dX4_heatTill_15 ?_
        refine sn_top (sn_nadd (a := sn_hs i k) (b := sn_hv i k) rfl rfl) ?_
        refine lv_istore_n (lv' := [(2, .int (nI (sn_hs i k + (sn_hv i k)))), (0, .int (nI i)), (1, .int (nI h)), (3, .int (nI k))]) hx hb dX4_heatTill_16 rfl hl (by decide) rfl (fun ls hl => ?_)
        refine lv_iinc (v := nI (k + 1)) (lv' := [(3, .int (nI (k + 1))), (2, .int (nI (sn_hs i k + (sn_hv i k)))), (0, .int (nI i)), (1, .int (nI h))]) hx hb dX4_heatTill_17 hl (k := 3) rfl (sn_inc _) (by decide) rfl (fun ls hl => ?_)
        refine lv_goto (tgt := 4) hx hb dX4_heatTill_20 (by decide) ?_
        exact ih_loop (k + 1) (by omega) (by omega) ls (lv_sub hl [2, 3, 1, 0] rfl)
  exact loop ((h + 1 - 0) + 1) 0 (Nat.zero_le _) (by omega) ls (lv_sub hl [2, 3, 1, 0] rfl)
set_option maxRecDepth 100000 in
set_option maxHeartbeats 4000000 in
theorem ct_X1_warmHour (l : Launch) (D : va_G) (tys : List (ClassId × FieldType)) (w : va_W) (i t : Nat) (hi : i < 8) (ht : t ≤ 999) : sn_Rd l yX1_warmHour wsX1_warmHour 2 [.int (nI i), .int (nI t)] D tys (w) (sn_e24 (sn_wh i t)) := by
  refine sn_rd (cc := cX1_warmHour) (maxL := 4) (ret := (some .int)) (by decide) rfl (Nat.le_of_ble_eq_true rfl) ?_
  intro p e s m below meth c hx hb hml hr hlk hts hown hP hK hN ls hl
  have hC : CallFix p m c cX1_warmHour 4 s [.int (nI i), .int (nI t)].toArray wsX1_warmHour RX1 := ⟨hx, hb, hml, hown, hts⟩
  have hl : lv_has ls 4 [(0, .int (nI i)), (1, .int (nI t))] := hl
  refine lv_iconst (v := 0) hx hb dX1_warmHour_0 (by decide) ?_
  refine lv_istore_n (lv' := [(2, .int 0), (0, .int (nI i)), (1, .int (nI t))]) hx hb dX1_warmHour_1 rfl hl (by decide) rfl (fun ls hl => ?_)
  refine lv_iconst (v := 0) hx hb dX1_warmHour_2 (by decide) ?_
  refine lv_istore_n (lv' := [(3, .int 0), (2, .int 0), (0, .int (nI i)), (1, .int (nI t))]) hx hb dX1_warmHour_3 rfl hl (by decide) rfl (fun ls hl => ?_)
  have loop : ∀ (fu : Nat) (k : Nat), (k ≤ 24) → (sn_whA i t (24 - k) k = sn_wh i t) → 24 - k < fu → ∀ ls : Array Slot, lv_has ls 4 [(0, .int (nI i)), (1, .int (nI t)), (2, .int (nI (sn_hs i k))), (3, .int (nI k))] → W p l e (sn_rm 2 0 0) s m [.int (nI i), .int (nI t)].toArray below meth c s.heap [] 0 0 (MQ below (vp_Si (fun r_ => r_ = (sn_e24 (sn_wh i t)))) [.int (nI i), .int (nI t)].toArray s 0 0 (fun _ => False)) (F0 m 4 ls []) := by
    intro fu
    induction fu with
    | zero => intro k h1 hq hm; exact absurd hm (Nat.not_lt_zero _)
    | succ fu ih_loop =>
      intro k h1 hq hm ls hl
      refine lv_iload_n hx hb dX1_warmHour_4 rfl (lv_at hl 3 rfl) ?_
      refine lv_bipush (v := 24) hx hb dX1_warmHour_5 (by decide) ?_
      refine lv_icmp_ge (tgt := 31) hx hb dX1_warmHour_7 (by decide) (fun c_1 => ?_) (fun c_1 => ?_)
      · have c_1 := (sn_cgej (a := k) (b := 24) rfl rfl (by omega) (by omega)).mp c_1
        refine lv_bipush (v := (-6)) hx hb dX1_warmHour_31 (by decide) ?_
        exact sn_ret hx hb hr hlk dX1_warmHour_33 (by rw [← hq, show k = 24 by omega]; rfl)
      · have c_1 := (sn_cgef (a := k) (b := 24) rfl rfl (by omega) (by omega)).mp c_1
        refine lv_iload_n hx hb dX1_warmHour_10 rfl (lv_at hl 2 rfl) ?_
        refine lv_iload_n hx hb dX1_warmHour_11 rfl (lv_at hl 0 rfl) ?_
        refine lv_iload_n hx hb dX1_warmHour_12 rfl (lv_at hl 3 rfl) ?_
        refine sn_cS 2 hC hl (ct_X1_heatIn l D _ [] i k (by omega) (by omega)) gX1_warmHour_X1_heatIn rfl (by decide +kernel) rfl ⟨Nat.le_of_ble_eq_true rfl, Nat.le_of_ble_eq_true rfl⟩ ⟨Nat.zero_le _, Nat.zero_le _⟩ (fun _ _ h => by simp at h) hK hN rfl (Nat.le_of_ble_eq_true rfl) dX1_warmHour_13 ?_
        refine lv_iadd hx hb dX1_warmHour_16 ?_
        refine sn_top (sn_nadd (a := sn_hs i k) (b := sn_hv i k) rfl rfl) ?_
        refine sn_top (y := nI (sn_hs i (k + 1))) (rfl) ?_
        refine lv_istore_n (lv' := [(2, .int (nI (sn_hs i (k + 1)))), (0, .int (nI i)), (1, .int (nI t)), (3, .int (nI k))]) hx hb dX1_warmHour_17 rfl hl (by decide) rfl (fun ls hl => ?_)
        refine lv_iload_n hx hb dX1_warmHour_18 rfl (lv_at hl 0 rfl) ?_
        refine lv_iload_n hx hb dX1_warmHour_19 rfl (lv_at hl 2 rfl) ?_
        have hsb := sn_hs_le i (k + 1)
        refine lv_icmp_lt (tgt := 25) hx hb dX1_warmHour_20 (by decide) (fun c_2 => ?_) (fun c_2 => ?_)
        · have c_2 := (sn_cltj (a := sn_hs i (k + 1)) (b := t) rfl rfl (by omega) (by omega)).mp c_2
          refine lv_iinc (v := nI (k + 1)) (lv' := [(3, .int (nI (k + 1))), (2, .int (nI (sn_hs i (k + 1)))), (0, .int (nI i)), (1, .int (nI t))]) hx hb dX1_warmHour_25 hl (k := 3) rfl (sn_inc _) (by decide) rfl (fun ls hl => ?_)
          refine lv_goto (tgt := 4) hx hb dX1_warmHour_28 (by decide) ?_
          exact ih_loop (k + 1) (by omega) ((sn_whA_miss (by omega) (by omega)).symm.trans hq) (by omega) ls (lv_sub hl [2, 3, 1, 0] rfl)
        · have c_2 := (sn_cltf (a := sn_hs i (k + 1)) (b := t) rfl rfl (by omega) (by omega)).mp c_2
          refine lv_iload_n hx hb dX1_warmHour_23 rfl (lv_at hl 3 rfl) ?_
          exact sn_ret hx hb hr hlk dX1_warmHour_24 (by rw [← hq, sn_whA_hit (by omega) (by omega)]; exact (if_pos (by omega)).symm)
  exact loop ((24 - 0) + 1) 0 (Nat.zero_le _) rfl (by omega) ls (lv_sub hl [2, 3, 1, 0] rfl)
set_option maxRecDepth 100000 in
set_option maxHeartbeats 4000000 in
theorem ct_X4_warmHour (l : Launch) (D : va_G) (tys : List (ClassId × FieldType)) (w : va_W) (i t : Nat) (hi : i < 8) (ht : t ≤ 999) : sn_Rd l yX4_warmHour wsX4_warmHour 3 [.int (nI i), .int (nI t)] D tys (w) (sn_e24 (sn_wh i t)) := by
  refine sn_rd (cc := cX4_warmHour) (maxL := 3) (ret := (some .int)) (by decide) rfl (Nat.le_of_ble_eq_true rfl) ?_
  intro p e s m below meth c hx hb hml hr hlk hts hown hP hK hN ls hl
  have hC : CallFix p m c cX4_warmHour 3 s [.int (nI i), .int (nI t)].toArray wsX4_warmHour RX4 := ⟨hx, hb, hml, hown, hts⟩
  have hl : lv_has ls 3 [(0, .int (nI i)), (1, .int (nI t))] := hl
  refine lv_iconst (v := 0) hx hb dX4_warmHour_0 (by decide) ?_
  refine lv_istore_n (lv' := [(2, .int 0), (0, .int (nI i)), (1, .int (nI t))]) hx hb dX4_warmHour_1 rfl hl (by decide) rfl (fun ls hl => ?_)
  have loop : ∀ (fu : Nat) (k : Nat), (k ≤ 24) → (sn_whA i t (24 - k) k = sn_wh i t) → 24 - k < fu → ∀ ls : Array Slot, lv_has ls 3 [(0, .int (nI i)), (1, .int (nI t)), (2, .int (nI k))] → W p l e (sn_rm 3 0 0) s m [.int (nI i), .int (nI t)].toArray below meth c s.heap [] 0 0 (MQ below (vp_Si (fun r_ => r_ = (sn_e24 (sn_wh i t)))) [.int (nI i), .int (nI t)].toArray s 0 0 (fun _ => False)) (F0 m 2 ls []) := by
    intro fu
    induction fu with
    | zero => intro k h1 hq hm; exact absurd hm (Nat.not_lt_zero _)
    | succ fu ih_loop =>
      intro k h1 hq hm ls hl
      refine lv_iload_n hx hb dX4_warmHour_2 rfl (lv_at hl 2 rfl) ?_
      refine lv_bipush (v := 24) hx hb dX4_warmHour_3 (by decide) ?_
      refine lv_icmp_ge (tgt := 25) hx hb dX4_warmHour_5 (by decide) (fun c_1 => ?_) (fun c_1 => ?_)
      · have c_1 := (sn_cgej (a := k) (b := 24) rfl rfl (by omega) (by omega)).mp c_1
        refine lv_bipush (v := (-6)) hx hb dX4_warmHour_25 (by decide) ?_
        exact sn_ret hx hb hr hlk dX4_warmHour_27 (by rw [← hq, show k = 24 by omega]; rfl)
      · have c_1 := (sn_cgef (a := k) (b := 24) rfl rfl (by omega) (by omega)).mp c_1
        refine lv_iload_n hx hb dX4_warmHour_8 rfl (lv_at hl 0 rfl) ?_
        refine lv_iload_n hx hb dX4_warmHour_9 rfl (lv_at hl 2 rfl) ?_
        refine sn_cS 2 hC hl (ct_X4_heatTill l D _ [] i k (by omega) (by omega)) gX4_warmHour_X4_heatTill rfl (by decide +kernel) rfl ⟨Nat.le_of_ble_eq_true rfl, Nat.le_of_ble_eq_true rfl⟩ ⟨Nat.zero_le _, Nat.zero_le _⟩ (fun _ _ h => by simp at h) hK hN rfl (Nat.le_of_ble_eq_true rfl) dX4_warmHour_10 ?_
        refine lv_iload_n hx hb dX4_warmHour_13 rfl (lv_at hl 1 rfl) ?_
        have hsb := sn_hs_le i (k + 1)
        refine lv_icmp_lt (tgt := 19) hx hb dX4_warmHour_14 (by decide) (fun c_2 => ?_) (fun c_2 => ?_)
        · have c_2 := (sn_cltj (a := sn_hs i (k + 1)) (b := t) rfl rfl (by omega) (by omega)).mp c_2
          refine lv_iinc (v := nI (k + 1)) (lv' := [(2, .int (nI (k + 1))), (0, .int (nI i)), (1, .int (nI t))]) hx hb dX4_warmHour_19 hl (k := 2) rfl (sn_inc _) (by decide) rfl (fun ls hl => ?_)
          refine lv_goto (tgt := 2) hx hb dX4_warmHour_22 (by decide) ?_
          exact ih_loop (k + 1) (by omega) ((sn_whA_miss (by omega) (by omega)).symm.trans hq) (by omega) ls (lv_sub hl [1, 2, 0] rfl)
        · have c_2 := (sn_cltf (a := sn_hs i (k + 1)) (b := t) rfl rfl (by omega) (by omega)).mp c_2
          refine lv_iload_n hx hb dX4_warmHour_17 rfl (lv_at hl 2 rfl) ?_
          exact sn_ret hx hb hr hlk dX4_warmHour_18 (by rw [← hq, sn_whA_hit (by omega) (by omega)]; exact (if_pos (by omega)).symm)
  exact loop ((24 - 0) + 1) 0 (Nat.zero_le _) rfl (by omega) ls (lv_sub hl [1, 2, 0] rfl)
set_option maxRecDepth 100000 in
set_option maxHeartbeats 4000000 in
theorem ct_X1_warmSides (l : Launch) (D : va_G) (tys : List (ClassId × FieldType)) (w : va_W) (t : Nat) (ht : t ≤ 999) : sn_Rd l yX1_warmSides wsX1_warmSides 3 [.int (nI t)] D tys (w) (nI (sn_ws t 8)) := by
  refine sn_rd (cc := cX1_warmSides) (maxL := 3) (ret := (some .int)) (by decide) rfl (Nat.le_of_ble_eq_true rfl) ?_
  intro p e s m below meth c hx hb hml hr hlk hts hown hP hK hN ls hl
  have hC : CallFix p m c cX1_warmSides 3 s [.int (nI t)].toArray wsX1_warmSides RX1 := ⟨hx, hb, hml, hown, hts⟩
  have hl : lv_has ls 3 [(0, .int (nI t))] := hl
  refine lv_iconst (v := 0) hx hb dX1_warmSides_0 (by decide) ?_
  refine lv_istore_n (lv' := [(1, .int 0), (0, .int (nI t))]) hx hb dX1_warmSides_1 rfl hl (by decide) rfl (fun ls hl => ?_)
  refine lv_iconst (v := 0) hx hb dX1_warmSides_2 (by decide) ?_
  refine lv_istore_n (lv' := [(2, .int 0), (1, .int 0), (0, .int (nI t))]) hx hb dX1_warmSides_3 rfl hl (by decide) rfl (fun ls hl => ?_)
  have loop : ∀ (fu : Nat) (k : Nat), (k ≤ 8) → 8 - k < fu → ∀ ls : Array Slot, lv_has ls 3 [(0, .int (nI t)), (1, .int (nI (sn_ws t k))), (2, .int (nI k))] → W p l e (sn_rm 3 0 0) s m [.int (nI t)].toArray below meth c s.heap [] 0 0 (MQ below (vp_Si (fun r_ => r_ = (nI (sn_ws t 8)))) [.int (nI t)].toArray s 0 0 (fun _ => False)) (F0 m 4 ls []) := by
    intro fu
    induction fu with
    | zero => intro k h1 hm; exact absurd hm (Nat.not_lt_zero _)
    | succ fu ih_loop =>
      intro k h1 hm ls hl
      refine lv_iload_n hx hb dX1_warmSides_4 rfl (lv_at hl 2 rfl) ?_
      refine lv_bipush (v := 8) hx hb dX1_warmSides_5 (by decide) ?_
      refine lv_icmp_ge (tgt := 29) hx hb dX1_warmSides_7 (by decide) (fun c_1 => ?_) (fun c_1 => ?_)
      · have c_1 := (sn_cgej (a := k) (b := 8) rfl rfl (by omega) (by omega)).mp c_1
        refine lv_iload_n hx hb dX1_warmSides_29 rfl (lv_at hl 1 rfl) ?_
        exact sn_ret hx hb hr hlk dX1_warmSides_30 (by rw [show k = 8 by omega])
      · have c_1 := (sn_cgef (a := k) (b := 8) rfl rfl (by omega) (by omega)).mp c_1
        refine lv_iload_n hx hb dX1_warmSides_10 rfl (lv_at hl 2 rfl) ?_
        refine lv_iload_n hx hb dX1_warmSides_11 rfl (lv_at hl 0 rfl) ?_
        refine sn_cS 2 hC hl (ct_X1_warmHour l D _ [] k t (by omega) (by omega)) gX1_warmSides_X1_warmHour rfl (by decide +kernel) rfl ⟨Nat.le_of_ble_eq_true rfl, Nat.le_of_ble_eq_true rfl⟩ ⟨Nat.zero_le _, Nat.zero_le _⟩ (fun _ _ h => by simp at h) hK hN rfl (Nat.le_of_ble_eq_true rfl) dX1_warmSides_12 ?_
        refine lv_bipush (v := (-6)) hx hb dX1_warmSides_15 (by decide) ?_
        refine lv_icmp_eq (tgt := 23) hx hb dX1_warmSides_17 (by decide) (fun c_2 => ?_) (fun c_2 => ?_)
        · have c_2 := sn_e24_none.mp c_2
          refine lv_iinc (v := nI (k + 1)) (lv' := [(2, .int (nI (k + 1))), (0, .int (nI t)), (1, .int (nI (sn_ws t k)))]) hx hb dX1_warmSides_23 hl (k := 2) rfl (sn_inc _) (by decide) rfl (fun ls hl => ?_)
          refine lv_goto (tgt := 4) hx hb dX1_warmSides_26 (by decide) ?_
          have hv : sn_ws t k = sn_ws t (k + 1) := by show _ = sn_ws t k + _; rw [if_neg c_2, Nat.add_zero]
          rw [hv] at hl
          exact ih_loop (k + 1) (by omega) (by omega) ls (lv_sub hl [1, 2, 0] rfl)
        · have c_2 : sn_wh k t < 24 := Decidable.of_not_not (fun z => c_2 (sn_e24_none.mpr z))
          refine lv_iinc (v := nI (sn_ws t k + 1)) (lv' := [(1, .int (nI (sn_ws t k + 1))), (0, .int (nI t)), (2, .int (nI k))]) hx hb dX1_warmSides_20 hl (k := 1) rfl (sn_inc _) (by decide) rfl (fun ls hl => ?_)
          refine lv_iinc (v := nI (k + 1)) (lv' := [(2, .int (nI (k + 1))), (1, .int (nI (sn_ws t k + 1))), (0, .int (nI t))]) hx hb dX1_warmSides_23 hl (k := 2) rfl (sn_inc _) (by decide) rfl (fun ls hl => ?_)
          refine lv_goto (tgt := 4) hx hb dX1_warmSides_26 (by decide) ?_
          have hv : sn_ws t k + 1 = sn_ws t (k + 1) := by show _ = sn_ws t k + _; rw [if_pos c_2]
          rw [hv] at hl
          exact ih_loop (k + 1) (by omega) (by omega) ls (lv_sub hl [2, 1, 0] rfl)
  exact loop ((8 - 0) + 1) 0 (Nat.zero_le _) (by omega) ls (lv_sub hl [2, 1, 0] rfl)
set_option maxRecDepth 100000 in
set_option maxHeartbeats 4000000 in
theorem ct_X1_sideAtPlace (l : Launch) (D : va_G) (tys : List (ClassId × FieldType)) (w : va_W) (t : Nat) (ht : t ≤ 999) (y : Int32) : sn_Rd l yX1_sideAtPlace wsX1_sideAtPlace 3 [.int (nI t), .int y] D tys (w) (sn_pick (sn_ro t 24) 0 y) := by
  refine sn_rd (cc := cX1_sideAtPlace) (maxL := 5) (ret := (some .int)) (by decide) rfl (Nat.le_of_ble_eq_true rfl) ?_
  intro p e s m below meth c hx hb hml hr hlk hts hown hP hK hN ls hl
  have hC : CallFix p m c cX1_sideAtPlace 5 s [.int (nI t), .int y].toArray wsX1_sideAtPlace RX1 := ⟨hx, hb, hml, hown, hts⟩
  have hl : lv_has ls 5 [(0, .int (nI t)), (1, .int y)] := hl
  refine lv_iconst (v := 0) hx hb dX1_sideAtPlace_0 (by decide) ?_
  refine lv_istore_n (lv' := [(2, .int 0), (0, .int (nI t)), (1, .int y)]) hx hb dX1_sideAtPlace_1 rfl hl (by decide) rfl (fun ls hl => ?_)
  refine lv_iconst (v := 0) hx hb dX1_sideAtPlace_2 (by decide) ?_
  refine lv_istore_n (lv' := [(3, .int 0), (2, .int 0), (0, .int (nI t)), (1, .int y)]) hx hb dX1_sideAtPlace_3 rfl hl (by decide) rfl (fun ls hl => ?_)
  have loopO : ∀ (fu : Nat) (k : Nat) (v : Int32), (k ≤ 24) → (sn_pick (sn_ro t (24 - k)) v y = sn_pick (sn_ro t 24) 0 y) → 24 - k < fu → ∀ ls : Array Slot, lv_has ls 5 [(0, .int (nI t)), (1, .int y), (2, .int v), (3, .int (nI k))] → W p l e (sn_rm 3 0 0) s m [.int (nI t), .int y].toArray below meth c s.heap [] 0 0 (MQ below (vp_Si (fun r_ => r_ = (sn_pick (sn_ro t 24) 0 y))) [.int (nI t), .int y].toArray s 0 0 (fun _ => False)) (F0 m 4 ls []) := by
    intro fu
    induction fu with
    | zero => intro k v h1 hq hm; exact absurd hm (Nat.not_lt_zero _)
    | succ fu ih_loopO =>
      intro k v h1 hq hm ls hl
      refine lv_iload_n hx hb dX1_sideAtPlace_4 rfl (lv_at hl 3 rfl) ?_
      refine lv_bipush (v := 24) hx hb dX1_sideAtPlace_5 (by decide) ?_
      refine lv_icmp_ge (tgt := 53) hx hb dX1_sideAtPlace_7 (by decide) (fun c_1 => ?_) (fun c_1 => ?_)
      · have c_1 := (sn_cgej (a := k) (b := 24) rfl rfl (by omega) (by omega)).mp c_1
        refine lv_bipush (v := (-6)) hx hb dX1_sideAtPlace_53 (by decide) ?_
        exact sn_ret hx hb hr hlk dX1_sideAtPlace_55 (by rw [← hq, show k = 24 by omega]; rfl)
      · have c_1 := (sn_cgef (a := k) (b := 24) rfl rfl (by omega) (by omega)).mp c_1
        refine lv_iconst (v := 0) hx hb dX1_sideAtPlace_10 (by decide) ?_
        refine lv_istore (lv' := [(4, .int 0), (0, .int (nI t)), (1, .int y), (2, .int v), (3, .int (nI k))]) hx hb dX1_sideAtPlace_11 hl (by decide) rfl (fun ls hl => ?_)
        have loopI : ∀ (fu : Nat) (q : Nat) (v2 : Int32), (q ≤ 8) → (sn_pick (sn_ri t k (8 - q) ++ sn_ro t (24 - (k + 1))) v2 y = sn_pick (sn_ro t 24) 0 y) → 8 - q < fu → ∀ ls : Array Slot, lv_has ls 5 [(0, .int (nI t)), (1, .int y), (2, .int v2), (3, .int (nI k)), (4, .int (nI q))] → W p l e (sn_rm 3 0 0) s m [.int (nI t), .int y].toArray below meth c s.heap [] 0 0 (MQ below (vp_Si (fun r_ => r_ = (sn_pick (sn_ro t 24) 0 y))) [.int (nI t), .int y].toArray s 0 0 (fun _ => False)) (F0 m 13 ls []) := by
          intro fu
          induction fu with
          | zero => intro q v2 h2 hq2 hm; exact absurd hm (Nat.not_lt_zero _)
          | succ fu ih_loopI =>
            intro q v2 h2 hq2 hm ls hl
            refine lv_iload hx hb dX1_sideAtPlace_13 (lv_at hl 4 rfl) ?_
            refine lv_bipush (v := 8) hx hb dX1_sideAtPlace_15 (by decide) ?_
            refine lv_icmp_ge (tgt := 47) hx hb dX1_sideAtPlace_17 (by decide) (fun c_2 => ?_) (fun c_2 => ?_)
            · have c_2 := (sn_cgej (a := q) (b := 8) rfl rfl (by omega) (by omega)).mp c_2
              refine lv_iinc (v := nI (k + 1)) (lv' := [(3, .int (nI (k + 1))), (0, .int (nI t)), (1, .int y), (2, .int v2), (4, .int (nI q))]) hx hb dX1_sideAtPlace_47 hl (k := 3) rfl (sn_inc _) (by decide) rfl (fun ls hl => ?_)
              refine lv_goto (tgt := 4) hx hb dX1_sideAtPlace_50 (by decide) ?_
              exact ih_loopO (k + 1) v2 (by omega) (by rw [← hq2, show 8 - q = 0 by omega]; rfl) (by omega) ls (lv_sub hl [1, 2, 3, 0] rfl)
            · have c_2 := (sn_cgef (a := q) (b := 8) rfl rfl (by omega) (by omega)).mp c_2
              refine lv_iload hx hb dX1_sideAtPlace_20 (lv_at hl 4 rfl) ?_
              refine lv_iload_n hx hb dX1_sideAtPlace_22 rfl (lv_at hl 0 rfl) ?_
              refine sn_cS 2 hC hl (ct_X1_warmHour l D _ [] q t (by omega) (by omega)) gX1_sideAtPlace_X1_warmHour rfl (by decide +kernel) rfl ⟨Nat.le_of_ble_eq_true rfl, Nat.le_of_ble_eq_true rfl⟩ ⟨Nat.zero_le _, Nat.zero_le _⟩ (fun _ _ h => by simp at h) hK hN rfl (Nat.le_of_ble_eq_true rfl) dX1_sideAtPlace_23 ?_
              refine lv_iload_n hx hb dX1_sideAtPlace_26 rfl (lv_at hl 3 rfl) ?_
              refine lv_icmp_ne (tgt := 41) hx hb dX1_sideAtPlace_27 (by decide) (fun c_3 => ?_) (fun c_3 => ?_)
              · have c_3 : ¬ sn_wh q t = k := fun z => c_3 ((sn_e24_eq (by omega)).mpr z)
                refine lv_iinc (v := nI (q + 1)) (lv' := [(4, .int (nI (q + 1))), (0, .int (nI t)), (1, .int y), (2, .int v2), (3, .int (nI k))]) hx hb dX1_sideAtPlace_41 hl (k := 4) rfl (sn_inc _) (by decide) rfl (fun ls hl => ?_)
                refine lv_goto (tgt := 13) hx hb dX1_sideAtPlace_44 (by decide) ?_
                exact ih_loopI (q + 1) v2 (by omega) (by rw [← hq2, sn_ri_n (by omega) c_3]) (by omega) ls (lv_sub hl [1, 2, 3, 4, 0] rfl)
              · have c_3 : sn_wh q t = k := (sn_e24_eq (by omega)).mp c_3
                refine lv_iload_n hx hb dX1_sideAtPlace_30 rfl (lv_at hl 2 rfl) ?_
                refine lv_iload_n hx hb dX1_sideAtPlace_31 rfl (lv_at hl 1 rfl) ?_
                refine lv_icmp_ne (tgt := 38) hx hb dX1_sideAtPlace_32 (by decide) (fun c_4 => ?_) (fun c_4 => ?_)
                · refine lv_iinc (v := v2 + 1) (lv' := [(2, .int (v2 + 1)), (0, .int (nI t)), (1, .int y), (3, .int (nI k)), (4, .int (nI q))]) hx hb dX1_sideAtPlace_38 hl (k := 2) rfl (rfl) (by decide) rfl (fun ls hl => ?_)
                  refine lv_iinc (v := nI (q + 1)) (lv' := [(4, .int (nI (q + 1))), (2, .int (v2 + 1)), (0, .int (nI t)), (1, .int y), (3, .int (nI k))]) hx hb dX1_sideAtPlace_41 hl (k := 4) rfl (sn_inc _) (by decide) rfl (fun ls hl => ?_)
                  refine lv_goto (tgt := 13) hx hb dX1_sideAtPlace_44 (by decide) ?_
                  exact ih_loopI (q + 1) (v2 + 1) (by omega) (by rw [← hq2, sn_ri_y (by omega) c_3]; exact (if_neg c_4).symm) (by omega) ls (lv_sub hl [2, 3, 1, 4, 0] rfl)
                · refine lv_iload hx hb dX1_sideAtPlace_35 (lv_at hl 4 rfl) ?_
                  exact sn_ret hx hb hr hlk dX1_sideAtPlace_37 (by rw [← hq2, sn_ri_y (by omega) c_3]; exact (if_pos c_4).symm)
        exact loopI ((8 - 0) + 1) 0 v (Nat.zero_le _) (by rw [← hq, sn_ro_s (k := k) (by omega)]) (by omega) ls (lv_sub hl [1, 2, 3, 4, 0] rfl)
  exact loopO ((24 - 0) + 1) 0 0 (Nat.zero_le _) rfl (by omega) ls (lv_sub hl [2, 3, 1, 0] rfl)
set_option maxRecDepth 100000 in
set_option maxHeartbeats 4000000 in
theorem ct_X2_weightOf (l : Launch) (D : va_G) (tys : List (ClassId × FieldType)) (w : va_W) (t : Nat) (ht : t ≤ 30) (v : Int32) : sn_Rd l yX2_weightOf wsX2_weightOf 0 [.int (nI t), .int v] D tys (w) (sn_wt t v) := by
  refine sn_rd (cc := cX2_weightOf) (maxL := 2) (ret := (some .int)) (by decide) rfl (Nat.le_of_ble_eq_true rfl) ?_
  intro p e s m below meth c hx hb hml hr hlk hts hown hP hK hN ls hl
  have hC : CallFix p m c cX2_weightOf 2 s [.int (nI t), .int v].toArray wsX2_weightOf RX2 := ⟨hx, hb, hml, hown, hts⟩
  have hl : lv_has ls 2 [(0, .int (nI t)), (1, .int v)] := hl
  refine lv_iload_n hx hb dX2_weightOf_0 rfl (lv_at hl 0 rfl) ?_
  refine lv_bipush (v := 10) hx hb dX2_weightOf_1 (by decide) ?_
  refine lv_icmp_gt (tgt := 8) hx hb dX2_weightOf_3 (by decide) (fun c_1 => ?_) (fun c_1 => ?_)
  · have c_1 := (sn_cgtj (a := t) (b := 10) rfl rfl (by omega) (by omega)).mp c_1
    refine lv_iload_n hx hb dX2_weightOf_8 rfl (lv_at hl 0 rfl) ?_
    refine lv_bipush (v := 20) hx hb dX2_weightOf_9 (by decide) ?_
    refine lv_icmp_gt (tgt := 20) hx hb dX2_weightOf_11 (by decide) (fun c_2 => ?_) (fun c_2 => ?_)
    · have c_2 := (sn_cgtj (a := t) (b := 20) rfl rfl (by omega) (by omega)).mp c_2
      refine lv_iconst (v := 4) hx hb dX2_weightOf_20 (by decide) ?_
      refine lv_iload_n hx hb dX2_weightOf_21 rfl (lv_at hl 1 rfl) ?_
      refine lv_imul hx hb dX2_weightOf_22 ?_
      exact sn_ret hx hb hr hlk dX2_weightOf_23 (by unfold sn_wt; (repeat' split) <;> first | rfl | omega)
    · have c_2 := (sn_cgtf (a := t) (b := 20) rfl rfl (by omega) (by omega)).mp c_2
      refine lv_iconst (v := 2) hx hb dX2_weightOf_14 (by decide) ?_
      refine lv_iload_n hx hb dX2_weightOf_15 rfl (lv_at hl 1 rfl) ?_
      refine lv_imul hx hb dX2_weightOf_16 ?_
      refine lv_goto (tgt := 23) hx hb dX2_weightOf_17 (by decide) ?_
      exact sn_ret hx hb hr hlk dX2_weightOf_23 (by unfold sn_wt; (repeat' split) <;> first | rfl | omega)
  · have c_1 := (sn_cgtf (a := t) (b := 10) rfl rfl (by omega) (by omega)).mp c_1
    refine lv_iload_n hx hb dX2_weightOf_6 rfl (lv_at hl 1 rfl) ?_
    exact sn_ret hx hb hr hlk dX2_weightOf_7 (by unfold sn_wt; (repeat' split) <;> first | rfl | omega)
set_option maxRecDepth 100000 in
set_option maxHeartbeats 4000000 in
theorem ct_X4_weightOf (l : Launch) (D : va_G) (tys : List (ClassId × FieldType)) (w : va_W) (t : Nat) (ht : t ≤ 30) (v : Int32) : sn_Rd l yX4_weightOf wsX4_weightOf 0 [.int (nI t), .int v] D tys (w) (sn_wt t v) := by
  refine sn_rd (cc := cX4_weightOf) (maxL := 2) (ret := (some .int)) (by decide) rfl (Nat.le_of_ble_eq_true rfl) ?_
  intro p e s m below meth c hx hb hml hr hlk hts hown hP hK hN ls hl
  have hC : CallFix p m c cX4_weightOf 2 s [.int (nI t), .int v].toArray wsX4_weightOf RX4 := ⟨hx, hb, hml, hown, hts⟩
  have hl : lv_has ls 2 [(0, .int (nI t)), (1, .int v)] := hl
  refine lv_iload_n hx hb dX4_weightOf_0 rfl (lv_at hl 0 rfl) ?_
  refine lv_bipush (v := 20) hx hb dX4_weightOf_1 (by decide) ?_
  refine lv_icmp_le (tgt := 12) hx hb dX4_weightOf_3 (by decide) (fun c_1 => ?_) (fun c_1 => ?_)
  · have c_1 := (sn_clej (a := t) (b := 20) rfl rfl (by omega) (by omega)).mp c_1
    refine lv_iload_n hx hb dX4_weightOf_12 rfl (lv_at hl 0 rfl) ?_
    refine lv_bipush (v := 10) hx hb dX4_weightOf_13 (by decide) ?_
    refine lv_icmp_le (tgt := 24) hx hb dX4_weightOf_15 (by decide) (fun c_2 => ?_) (fun c_2 => ?_)
    · have c_2 := (sn_clej (a := t) (b := 10) rfl rfl (by omega) (by omega)).mp c_2
      refine lv_iload_n hx hb dX4_weightOf_24 rfl (lv_at hl 1 rfl) ?_
      exact sn_ret hx hb hr hlk dX4_weightOf_25 (by unfold sn_wt; (repeat' split) <;> first | rfl | omega)
    · have c_2 := (sn_clef (a := t) (b := 10) rfl rfl (by omega) (by omega)).mp c_2
      refine lv_iconst (v := 2) hx hb dX4_weightOf_18 (by decide) ?_
      refine lv_iload_n hx hb dX4_weightOf_19 rfl (lv_at hl 1 rfl) ?_
      refine lv_imul hx hb dX4_weightOf_20 ?_
      refine lv_goto (tgt := 25) hx hb dX4_weightOf_21 (by decide) ?_
      exact sn_ret hx hb hr hlk dX4_weightOf_25 (by unfold sn_wt; (repeat' split) <;> first | rfl | omega)
  · have c_1 := (sn_clef (a := t) (b := 20) rfl rfl (by omega) (by omega)).mp c_1
    refine lv_iconst (v := 4) hx hb dX4_weightOf_6 (by decide) ?_
    refine lv_iload_n hx hb dX4_weightOf_7 rfl (lv_at hl 1 rfl) ?_
    refine lv_imul hx hb dX4_weightOf_8 ?_
    refine lv_goto (tgt := 25) hx hb dX4_weightOf_9 (by decide) ?_
    exact sn_ret hx hb hr hlk dX4_weightOf_25 (by unfold sn_wt; (repeat' split) <;> first | rfl | omega)
