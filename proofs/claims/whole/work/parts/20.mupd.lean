set_option maxRecDepth 100000 in
set_option maxHeartbeats 4000000 in
theorem ct_X4_storm (l : Launch) (D : va_G) (cI cZ cR : ClassId) (a : Nat → Nat) (f g kp tp ly : Nat → Int32) (nb : Int32) (n : Nat) (hI : sn_I f n) (x y z u : Int32) (sz : Nat) : sn_Up l yX4_storm wsX4_storm 1 0 0 [.ref (a 0), .int x, .int y, .int z, .int u] D (sn_ty cI cZ cR) (sn_wM cI cZ a f g kp tp ly nb) sz (fun u_ : Nat → Int32 => u_ = sn_Fstorm f n x y z u) (fun u_ => sn_Rstorm n x y z u) (fun u_ => sn_wM cI cZ a u_ g kp tp ly nb) := by
  refine sn_up (cc := cX4_storm) (maxL := 6) (ret := (some .int)) (by decide) rfl (Nat.le_of_ble_eq_true rfl) ?_
  intro p e s m below meth c A hx hb hml hr hlk hts hown hA hF0 hK hN H locs hP hD hS ls hl
  have hC : CallFix p m c cX4_storm 6 s [.ref (a 0), .int x, .int y, .int z, .int u].toArray wsX4_storm RX4 := ⟨hx, hb, hml, hown, hts⟩
  have hl : lv_has ls 6 [(0, .ref (a 0)), (1, .int x), (2, .int y), (3, .int z), (4, .int u)] := hl
  have huX4 : ∀ w ∈ wsX40, w ∈ wsX4_storm := by decide +kernel
  have hn10 := hI.2.1
  refine lv_iload_n hx hb dX4_storm_0 rfl (lv_at hl 1 rfl) ?_
  refine lv_iconst (v := 1) hx hb dX4_storm_1 (by decide) ?_
  refine lv_sipush (v := 200) hx hb dX4_storm_2 (by decide) ?_
  refine sn_cS 3 hC hl (ct_X4_in l D _ [] x 1 200) gX4_storm_X4_in rfl (by decide +kernel) rfl ⟨Nat.le_of_ble_eq_true rfl, Nat.le_of_ble_eq_true rfl⟩ ⟨Nat.zero_le _, Nat.zero_le _⟩ (fun _ _ h => by simp at h) hK hN rfl (Nat.le_of_ble_eq_true rfl) dX4_storm_5 ?_
  refine lv_if_eq (tgt := 42) hx hb dX4_storm_8 (by decide) (fun c_1 => ?_) (fun c_1 => ?_)
  · have c_1 : ¬ (1 ≤ x ∧ x ≤ 200) := sn_b_z.mp c_1
    refine lv_bipush (v := (-2)) hx hb dX4_storm_42 (by decide) ?_
    exact sn_uret (f) hx hb hr hlk dX4_storm_44 hP hD hS ((if_neg (fun h => c_1 h.1.1)).symm) ((if_neg (fun h => c_1 h.1.1)).symm) (Nat.le_of_ble_eq_true rfl) (Nat.le_of_ble_eq_true rfl)
  · have c_1 : 1 ≤ x ∧ x ≤ 200 := sn_b_nz.mp c_1
    refine lv_iload_n hx hb dX4_storm_11 rfl (lv_at hl 2 rfl) ?_
    refine lv_bipush (v := 30) hx hb dX4_storm_12 (by decide) ?_
    refine lv_sipush (v := 600) hx hb dX4_storm_14 (by decide) ?_
    refine sn_cS 3 hC hl (ct_X4_in l D _ [] y 30 600) gX4_storm_X4_in rfl (by decide +kernel) rfl ⟨Nat.le_of_ble_eq_true rfl, Nat.le_of_ble_eq_true rfl⟩ ⟨Nat.zero_le _, Nat.zero_le _⟩ (fun _ _ h => by simp at h) hK hN rfl (Nat.le_of_ble_eq_true rfl) dX4_storm_17 ?_
    refine lv_if_eq (tgt := 42) hx hb dX4_storm_20 (by decide) (fun c_2 => ?_) (fun c_2 => ?_)
    · have c_2 : ¬ (30 ≤ y ∧ y ≤ 600) := sn_b_z.mp c_2
      refine lv_bipush (v := (-2)) hx hb dX4_storm_42 (by decide) ?_
      exact sn_uret (f) hx hb hr hlk dX4_storm_44 hP hD hS ((if_neg (fun h => c_2 h.1.2)).symm) ((if_neg (fun h => c_2 h.1.2)).symm) (Nat.le_of_ble_eq_true rfl) (Nat.le_of_ble_eq_true rfl)
    · have c_2 : 30 ≤ y ∧ y ≤ 600 := sn_b_nz.mp c_2
      refine lv_iload_n hx hb dX4_storm_23 rfl (lv_at hl 3 rfl) ?_
      refine lv_iconst (v := 0) hx hb dX4_storm_24 (by decide) ?_
      refine lv_iconst (v := 4) hx hb dX4_storm_25 (by decide) ?_
      refine sn_cS 3 hC hl (ct_X4_in l D _ [] z 0 4) gX4_storm_X4_in rfl (by decide +kernel) rfl ⟨Nat.le_of_ble_eq_true rfl, Nat.le_of_ble_eq_true rfl⟩ ⟨Nat.zero_le _, Nat.zero_le _⟩ (fun _ _ h => by simp at h) hK hN rfl (Nat.le_of_ble_eq_true rfl) dX4_storm_26 ?_
      refine lv_if_eq (tgt := 42) hx hb dX4_storm_29 (by decide) (fun c_3 => ?_) (fun c_3 => ?_)
      · have c_3 : ¬ (0 ≤ z ∧ z ≤ 4) := sn_b_z.mp c_3
        refine lv_bipush (v := (-2)) hx hb dX4_storm_42 (by decide) ?_
        exact sn_uret (f) hx hb hr hlk dX4_storm_44 hP hD hS ((if_neg (fun h => c_3 h.2.1)).symm) ((if_neg (fun h => c_3 h.2.1)).symm) (Nat.le_of_ble_eq_true rfl) (Nat.le_of_ble_eq_true rfl)
      · have c_3 : 0 ≤ z ∧ z ≤ 4 := sn_b_nz.mp c_3
        refine lv_iload hx hb dX4_storm_32 (lv_at hl 4 rfl) ?_
        refine lv_iconst (v := 1) hx hb dX4_storm_34 (by decide) ?_
        refine lv_iconst (v := 5) hx hb dX4_storm_35 (by decide) ?_
        refine sn_cS 3 hC hl (ct_X4_in l D _ [] u 1 5) gX4_storm_X4_in rfl (by decide +kernel) rfl ⟨Nat.le_of_ble_eq_true rfl, Nat.le_of_ble_eq_true rfl⟩ ⟨Nat.zero_le _, Nat.zero_le _⟩ (fun _ _ h => by simp at h) hK hN rfl (Nat.le_of_ble_eq_true rfl) dX4_storm_36 ?_
        refine lv_if_ne (tgt := 45) hx hb dX4_storm_39 (by decide) (fun c_4 => ?_) (fun c_4 => ?_)
        · have c_4 : 1 ≤ u ∧ u ≤ 5 := sn_b_nz.mp c_4
          refine lv_aload_n hx hb dX4_storm_45 rfl (lv_at hl 0 rfl) ?_
          refine va_get (D := D) (ci := 3) (v := .ref (a 1)) (C := RX4) (T := TX4) (N := 6) hx hb hts huX4 hown hK hP 0 rfl rfl 0 (by decide) (hts (.fieldLink RX4 7 "SnowSlabsModel" "state" "[I") (by decide +kernel)) (fun _ h9 => h9) rfl dX4_storm_46 ?_
          refine lv_iconst (v := 0) hx hb dX4_storm_49 (by decide) ?_
          refine sn_ild (k := 0) (v := f 0) 1 0 hx hb hK hP rfl rfl (by omega) (by decide) rfl (rfl) dX4_storm_50 ?_
          refine sn_top (hI.1) ?_
          refine lv_bipush (v := 10) hx hb dX4_storm_51 (by decide) ?_
          refine lv_icmp_ne (tgt := 59) hx hb dX4_storm_53 (by decide) (fun c_5 => ?_) (fun c_5 => ?_)
          · have c_5 := (sn_cnej (a := n) (b := 10) rfl rfl (by omega) (by omega)).mp c_5
            refine lv_aload_n hx hb dX4_storm_59 rfl (lv_at hl 0 rfl) ?_
            refine va_get (D := D) (ci := 3) (v := .ref (a 1)) (C := RX4) (T := TX4) (N := 6) hx hb hts huX4 hown hK hP 0 rfl rfl 0 (by decide) (hts (.fieldLink RX4 7 "SnowSlabsModel" "state" "[I") (by decide +kernel)) (fun _ h9 => h9) rfl dX4_storm_60 ?_
            refine lv_iconst (v := 0) hx hb dX4_storm_63 (by decide) ?_
            refine sn_ild (k := 0) (v := f 0) 1 0 hx hb hK hP rfl rfl (by omega) (by decide) rfl (rfl) dX4_storm_64 ?_
            refine sn_top (hI.1) ?_
            refine lv_istore (lv' := [(5, .int (nI n)), (0, .ref (a 0)), (1, .int x), (2, .int y), (3, .int z), (4, .int u)]) hx hb dX4_storm_65 hl (by decide) rfl (fun ls hl => ?_)
            refine lv_aload_n hx hb dX4_storm_67 rfl (lv_at hl 1 rfl) ?_
            refine va_get (D := D) (ci := 3) (v := .ref (a 1)) (C := RX4) (T := TX4) (N := 6) hx hb hts huX4 hown hK hP 0 rfl rfl 0 (by decide) (hts (.fieldLink RX4 7 "SnowSlabsModel" "state" "[I") (by decide +kernel)) (fun _ h9 => h9) rfl dX4_storm_68 ?_
            refine lv_iload hx hb dX4_storm_71 (lv_at hl 0 rfl) ?_
            refine lv_iconst (v := 0) hx hb dX4_storm_73 (by decide) ?_
            refine sn_cS 2 hC hl (ct_X4_at l D _ [] n 0) gX4_storm_X4_at rfl (by decide +kernel) rfl ⟨Nat.le_of_ble_eq_true rfl, Nat.le_of_ble_eq_true rfl⟩ ⟨Nat.zero_le _, Nat.zero_le _⟩ (fun _ _ h => by simp at h) hK hN rfl (Nat.le_of_ble_eq_true rfl) dX4_storm_74 ?_
            refine sn_top (y := nI (7 + 5 * n)) (congrArg nI (show _ = 7 + 5 * n by omega)) ?_
            refine lv_iload_n hx hb dX4_storm_77 rfl (lv_at hl 2 rfl) ?_
            refine sn_ist (k := 7 + 5 * n) 1 0 hx hb hK hP hD hS rfl rfl (by omega) (by decide) rfl dX4_storm_78 (fun H locs hP hD hS => ?_)
            have hP : va_P D vwCl ([(a 0, .inr (3, [.ref (a 1), .ref (a 2), .ref (a 3), .ref (a 4), .ref (a 5), .int nb])), (a 1, .inl (cI, 57, .inl (upd f (7 + 5 * n) x))), (a 2, .inl (cI, 114, .inl g)), (a 3, .inl (cZ, 2, .inl kp)), (a 4, .inl (cI, 30, .inl tp)), (a 5, .inl (cI, 30, .inl ly))]) H := hP
            have hD : va_D A ([(a 0, .inr (3, [.ref (a 1), .ref (a 2), .ref (a 3), .ref (a 4), .ref (a 5), .int nb])), (a 1, .inl (cI, 57, .inl (upd f (7 + 5 * n) x))), (a 2, .inl (cI, 114, .inl g)), (a 3, .inl (cZ, 2, .inl kp)), (a 4, .inl (cI, 30, .inl tp)), (a 5, .inl (cI, 30, .inl ly))]) := hD
            refine lv_aload_n hx hb dX4_storm_79 rfl (lv_at hl 1 rfl) ?_
            refine va_get (D := D) (ci := 3) (v := .ref (a 1)) (C := RX4) (T := TX4) (N := 6) hx hb hts huX4 hown hK hP 0 rfl rfl 0 (by decide) (hts (.fieldLink RX4 7 "SnowSlabsModel" "state" "[I") (by decide +kernel)) (fun _ h9 => h9) rfl dX4_storm_80 ?_
            refine lv_iload hx hb dX4_storm_83 (lv_at hl 0 rfl) ?_
            refine lv_iconst (v := 1) hx hb dX4_storm_85 (by decide) ?_
            refine sn_cS 2 hC hl (ct_X4_at l D _ [] n 1) gX4_storm_X4_at rfl (by decide +kernel) rfl ⟨Nat.le_of_ble_eq_true rfl, Nat.le_of_ble_eq_true rfl⟩ ⟨Nat.zero_le _, Nat.zero_le _⟩ (fun _ _ h => by simp at h) hK hN rfl (Nat.le_of_ble_eq_true rfl) dX4_storm_86 ?_
            refine sn_top (y := nI (8 + 5 * n)) (congrArg nI (show _ = 8 + 5 * n by omega)) ?_
            refine lv_iload_n hx hb dX4_storm_89 rfl (lv_at hl 3 rfl) ?_
            refine sn_ist (k := 8 + 5 * n) 1 0 hx hb hK hP hD hS rfl rfl (by omega) (by decide) rfl dX4_storm_90 (fun H locs hP hD hS => ?_)
            have hP : va_P D vwCl ([(a 0, .inr (3, [.ref (a 1), .ref (a 2), .ref (a 3), .ref (a 4), .ref (a 5), .int nb])), (a 1, .inl (cI, 57, .inl (upd (upd f (7 + 5 * n) x) (8 + 5 * n) y))), (a 2, .inl (cI, 114, .inl g)), (a 3, .inl (cZ, 2, .inl kp)), (a 4, .inl (cI, 30, .inl tp)), (a 5, .inl (cI, 30, .inl ly))]) H := hP
            have hD : va_D A ([(a 0, .inr (3, [.ref (a 1), .ref (a 2), .ref (a 3), .ref (a 4), .ref (a 5), .int nb])), (a 1, .inl (cI, 57, .inl (upd (upd f (7 + 5 * n) x) (8 + 5 * n) y))), (a 2, .inl (cI, 114, .inl g)), (a 3, .inl (cZ, 2, .inl kp)), (a 4, .inl (cI, 30, .inl tp)), (a 5, .inl (cI, 30, .inl ly))]) := hD
            refine lv_aload_n hx hb dX4_storm_91 rfl (lv_at hl 1 rfl) ?_
            refine va_get (D := D) (ci := 3) (v := .ref (a 1)) (C := RX4) (T := TX4) (N := 6) hx hb hts huX4 hown hK hP 0 rfl rfl 0 (by decide) (hts (.fieldLink RX4 7 "SnowSlabsModel" "state" "[I") (by decide +kernel)) (fun _ h9 => h9) rfl dX4_storm_92 ?_
            refine lv_iload hx hb dX4_storm_95 (lv_at hl 0 rfl) ?_
            refine lv_iconst (v := 2) hx hb dX4_storm_97 (by decide) ?_
            refine sn_cS 2 hC hl (ct_X4_at l D _ [] n 2) gX4_storm_X4_at rfl (by decide +kernel) rfl ⟨Nat.le_of_ble_eq_true rfl, Nat.le_of_ble_eq_true rfl⟩ ⟨Nat.zero_le _, Nat.zero_le _⟩ (fun _ _ h => by simp at h) hK hN rfl (Nat.le_of_ble_eq_true rfl) dX4_storm_98 ?_
            refine sn_top (y := nI (9 + 5 * n)) (congrArg nI (show _ = 9 + 5 * n by omega)) ?_
            refine lv_iload_n hx hb dX4_storm_101 rfl (lv_at hl 4 rfl) ?_
            refine sn_ist (k := 9 + 5 * n) 1 0 hx hb hK hP hD hS rfl rfl (by omega) (by decide) rfl dX4_storm_102 (fun H locs hP hD hS => ?_)
            have hP : va_P D vwCl ([(a 0, .inr (3, [.ref (a 1), .ref (a 2), .ref (a 3), .ref (a 4), .ref (a 5), .int nb])), (a 1, .inl (cI, 57, .inl (upd (upd (upd f (7 + 5 * n) x) (8 + 5 * n) y) (9 + 5 * n) z))), (a 2, .inl (cI, 114, .inl g)), (a 3, .inl (cZ, 2, .inl kp)), (a 4, .inl (cI, 30, .inl tp)), (a 5, .inl (cI, 30, .inl ly))]) H := hP
            have hD : va_D A ([(a 0, .inr (3, [.ref (a 1), .ref (a 2), .ref (a 3), .ref (a 4), .ref (a 5), .int nb])), (a 1, .inl (cI, 57, .inl (upd (upd (upd f (7 + 5 * n) x) (8 + 5 * n) y) (9 + 5 * n) z))), (a 2, .inl (cI, 114, .inl g)), (a 3, .inl (cZ, 2, .inl kp)), (a 4, .inl (cI, 30, .inl tp)), (a 5, .inl (cI, 30, .inl ly))]) := hD
            refine lv_aload_n hx hb dX4_storm_103 rfl (lv_at hl 1 rfl) ?_
            refine va_get (D := D) (ci := 3) (v := .ref (a 1)) (C := RX4) (T := TX4) (N := 6) hx hb hts huX4 hown hK hP 0 rfl rfl 0 (by decide) (hts (.fieldLink RX4 7 "SnowSlabsModel" "state" "[I") (by decide +kernel)) (fun _ h9 => h9) rfl dX4_storm_104 ?_
            refine lv_iload hx hb dX4_storm_107 (lv_at hl 0 rfl) ?_
            refine lv_iconst (v := 3) hx hb dX4_storm_109 (by decide) ?_
            refine sn_cS 2 hC hl (ct_X4_at l D _ [] n 3) gX4_storm_X4_at rfl (by decide +kernel) rfl ⟨Nat.le_of_ble_eq_true rfl, Nat.le_of_ble_eq_true rfl⟩ ⟨Nat.zero_le _, Nat.zero_le _⟩ (fun _ _ h => by simp at h) hK hN rfl (Nat.le_of_ble_eq_true rfl) dX4_storm_110 ?_
            refine sn_top (y := nI (10 + 5 * n)) (congrArg nI (show _ = 10 + 5 * n by omega)) ?_
            refine lv_iload hx hb dX4_storm_113 (lv_at hl 5 rfl) ?_
            refine sn_ist (k := 10 + 5 * n) 1 0 hx hb hK hP hD hS rfl rfl (by omega) (by decide) rfl dX4_storm_115 (fun H locs hP hD hS => ?_)
            have hP : va_P D vwCl ([(a 0, .inr (3, [.ref (a 1), .ref (a 2), .ref (a 3), .ref (a 4), .ref (a 5), .int nb])), (a 1, .inl (cI, 57, .inl (upd (upd (upd (upd f (7 + 5 * n) x) (8 + 5 * n) y) (9 + 5 * n) z) (10 + 5 * n) u))), (a 2, .inl (cI, 114, .inl g)), (a 3, .inl (cZ, 2, .inl kp)), (a 4, .inl (cI, 30, .inl tp)), (a 5, .inl (cI, 30, .inl ly))]) H := hP
            have hD : va_D A ([(a 0, .inr (3, [.ref (a 1), .ref (a 2), .ref (a 3), .ref (a 4), .ref (a 5), .int nb])), (a 1, .inl (cI, 57, .inl (upd (upd (upd (upd f (7 + 5 * n) x) (8 + 5 * n) y) (9 + 5 * n) z) (10 + 5 * n) u))), (a 2, .inl (cI, 114, .inl g)), (a 3, .inl (cZ, 2, .inl kp)), (a 4, .inl (cI, 30, .inl tp)), (a 5, .inl (cI, 30, .inl ly))]) := hD
            refine lv_aload_n hx hb dX4_storm_116 rfl (lv_at hl 1 rfl) ?_
            refine va_get (D := D) (ci := 3) (v := .ref (a 1)) (C := RX4) (T := TX4) (N := 6) hx hb hts huX4 hown hK hP 0 rfl rfl 0 (by decide) (hts (.fieldLink RX4 7 "SnowSlabsModel" "state" "[I") (by decide +kernel)) (fun _ h9 => h9) rfl dX4_storm_117 ?_
            refine lv_iload hx hb dX4_storm_120 (lv_at hl 0 rfl) ?_
            refine lv_iconst (v := 4) hx hb dX4_storm_122 (by decide) ?_
            refine sn_cS 2 hC hl (ct_X4_at l D _ [] n 4) gX4_storm_X4_at rfl (by decide +kernel) rfl ⟨Nat.le_of_ble_eq_true rfl, Nat.le_of_ble_eq_true rfl⟩ ⟨Nat.zero_le _, Nat.zero_le _⟩ (fun _ _ h => by simp at h) hK hN rfl (Nat.le_of_ble_eq_true rfl) dX4_storm_123 ?_
            refine sn_top (y := nI (11 + 5 * n)) (congrArg nI (show _ = 11 + 5 * n by omega)) ?_
            refine lv_iconst (v := 0) hx hb dX4_storm_126 (by decide) ?_
            refine sn_ist (k := 11 + 5 * n) 1 0 hx hb hK hP hD hS rfl rfl (by omega) (by decide) rfl dX4_storm_127 (fun H locs hP hD hS => ?_)
            have hP : va_P D vwCl ([(a 0, .inr (3, [.ref (a 1), .ref (a 2), .ref (a 3), .ref (a 4), .ref (a 5), .int nb])), (a 1, .inl (cI, 57, .inl (upd (upd (upd (upd (upd f (7 + 5 * n) x) (8 + 5 * n) y) (9 + 5 * n) z) (10 + 5 * n) u) (11 + 5 * n) 0))), (a 2, .inl (cI, 114, .inl g)), (a 3, .inl (cZ, 2, .inl kp)), (a 4, .inl (cI, 30, .inl tp)), (a 5, .inl (cI, 30, .inl ly))]) H := hP
            have hD : va_D A ([(a 0, .inr (3, [.ref (a 1), .ref (a 2), .ref (a 3), .ref (a 4), .ref (a 5), .int nb])), (a 1, .inl (cI, 57, .inl (upd (upd (upd (upd (upd f (7 + 5 * n) x) (8 + 5 * n) y) (9 + 5 * n) z) (10 + 5 * n) u) (11 + 5 * n) 0))), (a 2, .inl (cI, 114, .inl g)), (a 3, .inl (cZ, 2, .inl kp)), (a 4, .inl (cI, 30, .inl tp)), (a 5, .inl (cI, 30, .inl ly))]) := hD
            refine lv_aload_n hx hb dX4_storm_128 rfl (lv_at hl 1 rfl) ?_
            refine va_get (D := D) (ci := 3) (v := .ref (a 1)) (C := RX4) (T := TX4) (N := 6) hx hb hts huX4 hown hK hP 0 rfl rfl 0 (by decide) (hts (.fieldLink RX4 7 "SnowSlabsModel" "state" "[I") (by decide +kernel)) (fun _ h9 => h9) rfl dX4_storm_129 ?_
            refine lv_iconst (v := 0) hx hb dX4_storm_132 (by decide) ?_
            refine lv_dup2_11 hx hb dX4_storm_133 rfl rfl ?_
            refine sn_ild (k := 0) (v := (upd (upd (upd (upd (upd f (7 + 5 * n) x) (8 + 5 * n) y) (9 + 5 * n) z) (10 + 5 * n) u) (11 + 5 * n) 0) 0) 1 0 hx hb hK hP rfl rfl (by omega) (by decide) rfl (rfl) dX4_storm_134 ?_
            refine sn_top (y := nI n) (by rw [pk_un (by omega), pk_un (by omega), pk_un (by omega), pk_un (by omega), pk_un (by omega)]; exact hI.1) ?_
            refine lv_iconst (v := 1) hx hb dX4_storm_135 (by decide) ?_
            refine lv_iadd hx hb dX4_storm_136 ?_
            refine sn_top (sn_nadd (a := n) (b := 1) rfl rfl) ?_
            refine sn_ist (k := 0) 1 0 hx hb hK hP hD hS rfl rfl (by omega) (by decide) rfl dX4_storm_137 (fun H locs hP hD hS => ?_)
            have hP : va_P D vwCl ([(a 0, .inr (3, [.ref (a 1), .ref (a 2), .ref (a 3), .ref (a 4), .ref (a 5), .int nb])), (a 1, .inl (cI, 57, .inl (upd (upd (upd (upd (upd (upd f (7 + 5 * n) x) (8 + 5 * n) y) (9 + 5 * n) z) (10 + 5 * n) u) (11 + 5 * n) 0) 0 (nI (n + 1))))), (a 2, .inl (cI, 114, .inl g)), (a 3, .inl (cZ, 2, .inl kp)), (a 4, .inl (cI, 30, .inl tp)), (a 5, .inl (cI, 30, .inl ly))]) H := hP
            have hD : va_D A ([(a 0, .inr (3, [.ref (a 1), .ref (a 2), .ref (a 3), .ref (a 4), .ref (a 5), .int nb])), (a 1, .inl (cI, 57, .inl (upd (upd (upd (upd (upd (upd f (7 + 5 * n) x) (8 + 5 * n) y) (9 + 5 * n) z) (10 + 5 * n) u) (11 + 5 * n) 0) 0 (nI (n + 1))))), (a 2, .inl (cI, 114, .inl g)), (a 3, .inl (cZ, 2, .inl kp)), (a 4, .inl (cI, 30, .inl tp)), (a 5, .inl (cI, 30, .inl ly))]) := hD
            refine lv_iload hx hb dX4_storm_138 (lv_at hl 0 rfl) ?_
            exact sn_uret (sn_stF f n x y z u) hx hb hr hlk dX4_storm_140 hP hD hS (((if_pos (⟨⟨c_1, c_2⟩, c_3, c_4⟩)).trans (if_neg (by omega))).symm) (((if_pos (⟨⟨c_1, c_2⟩, c_3, c_4⟩)).trans (if_neg (by omega))).symm) (Nat.le_of_ble_eq_true rfl) (Nat.le_of_ble_eq_true rfl)
          · have c_5 := (sn_cnef (a := n) (b := 10) rfl rfl (by omega) (by omega)).mp c_5
            refine lv_bipush (v := (-4)) hx hb dX4_storm_56 (by decide) ?_
            exact sn_uret (f) hx hb hr hlk dX4_storm_58 hP hD hS (((if_pos (⟨⟨c_1, c_2⟩, c_3, c_4⟩)).trans (if_pos (by omega))).symm) (((if_pos (⟨⟨c_1, c_2⟩, c_3, c_4⟩)).trans (if_pos (by omega))).symm) (Nat.le_of_ble_eq_true rfl) (Nat.le_of_ble_eq_true rfl)
        · have c_4 : ¬ (1 ≤ u ∧ u ≤ 5) := sn_b_z.mp c_4
          refine lv_bipush (v := (-2)) hx hb dX4_storm_42 (by decide) ?_
          exact sn_uret (f) hx hb hr hlk dX4_storm_44 hP hD hS ((if_neg (fun h => c_4 h.2.2)).symm) ((if_neg (fun h => c_4 h.2.2)).symm) (Nat.le_of_ble_eq_true rfl) (Nat.le_of_ble_eq_true rfl)
set_option maxRecDepth 100000 in
set_option maxHeartbeats 4000000 in
theorem ct_X4_firm (l : Launch) (D : va_G) (cI cZ cR : ClassId) (a : Nat → Nat) (f g kp tp ly : Nat → Int32) (nb : Int32) (x y : Int32) (sz : Nat) : sn_Up l yX4_firm wsX4_firm 1 0 0 [.ref (a 0), .int x, .int y] D (sn_ty cI cZ cR) (sn_wM cI cZ a f g kp tp ly nb) sz (fun u_ : Nat → Int32 => u_ = sn_Ffirm f x y) (fun u_ => sn_Rfirm f x y) (fun u_ => sn_wM cI cZ a u_ g kp tp ly nb) := by
  refine sn_up (cc := cX4_firm) (maxL := 4) (ret := (some .int)) (by decide) rfl (Nat.le_of_ble_eq_true rfl) ?_
  intro p e s m below meth c A hx hb hml hr hlk hts hown hA hF0 hK hN H locs hP hD hS ls hl
  have hC : CallFix p m c cX4_firm 4 s [.ref (a 0), .int x, .int y].toArray wsX4_firm RX4 := ⟨hx, hb, hml, hown, hts⟩
  have hl : lv_has ls 4 [(0, .ref (a 0)), (1, .int x), (2, .int y)] := hl
  have huX4 : ∀ w ∈ wsX40, w ∈ wsX4_firm := by decide +kernel
  refine lv_iload_n hx hb dX4_firm_0 rfl (lv_at hl 1 rfl) ?_
  refine lv_iconst (v := 0) hx hb dX4_firm_1 (by decide) ?_
  refine lv_iconst (v := 4) hx hb dX4_firm_2 (by decide) ?_
  refine sn_cS 3 hC hl (ct_X4_in l D _ [] x 0 4) gX4_firm_X4_in rfl (by decide +kernel) rfl ⟨Nat.le_of_ble_eq_true rfl, Nat.le_of_ble_eq_true rfl⟩ ⟨Nat.zero_le _, Nat.zero_le _⟩ (fun _ _ h => by simp at h) hK hN rfl (Nat.le_of_ble_eq_true rfl) dX4_firm_3 ?_
  refine lv_if_ne (tgt := 11) hx hb dX4_firm_6 (by decide) (fun c_1 => ?_) (fun c_1 => ?_)
  · have c_1 : 0 ≤ x ∧ x ≤ 4 := sn_b_nz.mp c_1
    refine lv_iload_n hx hb dX4_firm_11 rfl (lv_at hl 2 rfl) ?_
    refine lv_iconst (v := 1) hx hb dX4_firm_12 (by decide) ?_
    refine lv_bipush (v := 99) hx hb dX4_firm_13 (by decide) ?_
    refine sn_cS 3 hC hl (ct_X4_in l D _ [] y 1 99) gX4_firm_X4_in rfl (by decide +kernel) rfl ⟨Nat.le_of_ble_eq_true rfl, Nat.le_of_ble_eq_true rfl⟩ ⟨Nat.zero_le _, Nat.zero_le _⟩ (fun _ _ h => by simp at h) hK hN rfl (Nat.le_of_ble_eq_true rfl) dX4_firm_15 ?_
    refine lv_if_ne (tgt := 24) hx hb dX4_firm_18 (by decide) (fun c_2 => ?_) (fun c_2 => ?_)
    · have c_2 : 1 ≤ y ∧ y ≤ 99 := sn_b_nz.mp c_2
      obtain ⟨i, hi1, hi2, hi3⟩ := sn_rng (lo := 0) (hi := 4) c_1 (by decide)
      subst hi3
      refine lv_aload_n hx hb dX4_firm_24 rfl (lv_at hl 0 rfl) ?_
      refine va_get (D := D) (ci := 3) (v := .ref (a 1)) (C := RX4) (T := TX4) (N := 6) hx hb hts huX4 hown hK hP 0 rfl rfl 0 (by decide) (hts (.fieldLink RX4 7 "SnowSlabsModel" "state" "[I") (by decide +kernel)) (fun _ h9 => h9) rfl dX4_firm_25 ?_
      refine lv_iconst (v := 2) hx hb dX4_firm_28 (by decide) ?_
      refine lv_iload_n hx hb dX4_firm_29 rfl (lv_at hl 1 rfl) ?_
      refine lv_iadd hx hb dX4_firm_30 ?_
      refine sn_top (sn_nadd (a := 2) (b := i) rfl rfl) ?_
      refine sn_ild (k := 2 + i) (v := f (2 + i)) 1 0 hx hb hK hP rfl rfl (by omega) (by decide) rfl (rfl) dX4_firm_31 ?_
      refine lv_istore_n (lv' := [(3, .int (f (2 + i))), (0, .ref (a 0)), (1, .int (nI i)), (2, .int y)]) hx hb dX4_firm_32 rfl hl (by decide) rfl (fun ls hl => ?_)
      refine lv_aload_n hx hb dX4_firm_33 rfl (lv_at hl 1 rfl) ?_
      refine va_get (D := D) (ci := 3) (v := .ref (a 1)) (C := RX4) (T := TX4) (N := 6) hx hb hts huX4 hown hK hP 0 rfl rfl 0 (by decide) (hts (.fieldLink RX4 7 "SnowSlabsModel" "state" "[I") (by decide +kernel)) (fun _ h9 => h9) rfl dX4_firm_34 ?_
      refine lv_iconst (v := 2) hx hb dX4_firm_37 (by decide) ?_
      refine lv_iload_n hx hb dX4_firm_38 rfl (lv_at hl 2 rfl) ?_
      refine lv_iadd hx hb dX4_firm_39 ?_
      refine sn_top (sn_nadd (a := 2) (b := i) rfl rfl) ?_
      refine lv_iload_n hx hb dX4_firm_40 rfl (lv_at hl 3 rfl) ?_
      refine sn_ist (k := 2 + i) 1 0 hx hb hK hP hD hS rfl rfl (by omega) (by decide) rfl dX4_firm_41 (fun H locs hP hD hS => ?_)
      have hP : va_P D vwCl ([(a 0, .inr (3, [.ref (a 1), .ref (a 2), .ref (a 3), .ref (a 4), .ref (a 5), .int nb])), (a 1, .inl (cI, 57, .inl (upd f (2 + i) y))), (a 2, .inl (cI, 114, .inl g)), (a 3, .inl (cZ, 2, .inl kp)), (a 4, .inl (cI, 30, .inl tp)), (a 5, .inl (cI, 30, .inl ly))]) H := hP
      have hD : va_D A ([(a 0, .inr (3, [.ref (a 1), .ref (a 2), .ref (a 3), .ref (a 4), .ref (a 5), .int nb])), (a 1, .inl (cI, 57, .inl (upd f (2 + i) y))), (a 2, .inl (cI, 114, .inl g)), (a 3, .inl (cZ, 2, .inl kp)), (a 4, .inl (cI, 30, .inl tp)), (a 5, .inl (cI, 30, .inl ly))]) := hD
      refine lv_iload_n hx hb dX4_firm_42 rfl (lv_at hl 0 rfl) ?_
      exact sn_uret (upd f (2 + i) y) hx hb hr hlk dX4_firm_43 hP hD hS (((if_pos c_1).trans ((if_pos c_2).trans (by rw [nI_clamp (by omega)]))).symm) (((if_pos c_1).trans ((if_pos c_2).trans (by rw [nI_clamp (by omega)]))).symm) (Nat.le_of_ble_eq_true rfl) (Nat.le_of_ble_eq_true rfl)
    · have c_2 : ¬ (1 ≤ y ∧ y ≤ 99) := sn_b_z.mp c_2
      refine lv_bipush (v := (-2)) hx hb dX4_firm_21 (by decide) ?_
      exact sn_uret (f) hx hb hr hlk dX4_firm_23 hP hD hS (((if_pos c_1).trans (if_neg c_2)).symm) (((if_pos c_1).trans (if_neg c_2)).symm) (Nat.le_of_ble_eq_true rfl) (Nat.le_of_ble_eq_true rfl)
  · have c_1 : ¬ (0 ≤ x ∧ x ≤ 4) := sn_b_z.mp c_1
    refine lv_iconst (v := (-1)) hx hb dX4_firm_9 (by decide) ?_
    exact sn_uret (f) hx hb hr hlk dX4_firm_10 hP hD hS ((if_neg c_1).symm) ((if_neg c_1).symm) (Nat.le_of_ble_eq_true rfl) (Nat.le_of_ble_eq_true rfl)
set_option maxRecDepth 100000 in
set_option maxHeartbeats 4000000 in
theorem ct_X4_blow (l : Launch) (D : va_G) (cI cZ cR : ClassId) (a : Nat → Nat) (f g kp tp ly : Nat → Int32) (nb : Int32) (x : Int32) (sz : Nat) : sn_Up l yX4_blow wsX4_blow 1 0 0 [.ref (a 0), .int x] D (sn_ty cI cZ cR) (sn_wM cI cZ a f g kp tp ly nb) sz (fun u_ : Nat → Int32 => u_ = sn_Fblow f x) (fun u_ => sn_Rblow f x) (fun u_ => sn_wM cI cZ a u_ g kp tp ly nb) := by
  refine sn_up (cc := cX4_blow) (maxL := 3) (ret := (some .int)) (by decide) rfl (Nat.le_of_ble_eq_true rfl) ?_
  intro p e s m below meth c A hx hb hml hr hlk hts hown hA hF0 hK hN H locs hP hD hS ls hl
  have hC : CallFix p m c cX4_blow 3 s [.ref (a 0), .int x].toArray wsX4_blow RX4 := ⟨hx, hb, hml, hown, hts⟩
  have hl : lv_has ls 3 [(0, .ref (a 0)), (1, .int x)] := hl
  have huX4 : ∀ w ∈ wsX40, w ∈ wsX4_blow := by decide +kernel
  refine lv_iload_n hx hb dX4_blow_0 rfl (lv_at hl 1 rfl) ?_
  refine lv_iconst (v := 1) hx hb dX4_blow_1 (by decide) ?_
  refine lv_bipush (v := 50) hx hb dX4_blow_2 (by decide) ?_
  refine sn_cS 3 hC hl (ct_X4_in l D _ [] x 1 50) gX4_blow_X4_in rfl (by decide +kernel) rfl ⟨Nat.le_of_ble_eq_true rfl, Nat.le_of_ble_eq_true rfl⟩ ⟨Nat.zero_le _, Nat.zero_le _⟩ (fun _ _ h => by simp at h) hK hN rfl (Nat.le_of_ble_eq_true rfl) dX4_blow_4 ?_
  refine lv_if_ne (tgt := 13) hx hb dX4_blow_7 (by decide) (fun c_1 => ?_) (fun c_1 => ?_)
  · have c_1 : 1 ≤ x ∧ x ≤ 50 := sn_b_nz.mp c_1
    refine lv_aload_n hx hb dX4_blow_13 rfl (lv_at hl 0 rfl) ?_
    refine va_get (D := D) (ci := 3) (v := .ref (a 1)) (C := RX4) (T := TX4) (N := 6) hx hb hts huX4 hown hK hP 0 rfl rfl 0 (by decide) (hts (.fieldLink RX4 7 "SnowSlabsModel" "state" "[I") (by decide +kernel)) (fun _ h9 => h9) rfl dX4_blow_14 ?_
    refine lv_iconst (v := 1) hx hb dX4_blow_17 (by decide) ?_
    refine sn_ild (k := 1) (v := f 1) 1 0 hx hb hK hP rfl rfl (by omega) (by decide) rfl (rfl) dX4_blow_18 ?_
    refine lv_istore_n (lv' := [(2, .int (f 1)), (0, .ref (a 0)), (1, .int x)]) hx hb dX4_blow_19 rfl hl (by decide) rfl (fun ls hl => ?_)
    refine lv_aload_n hx hb dX4_blow_20 rfl (lv_at hl 1 rfl) ?_
    refine va_get (D := D) (ci := 3) (v := .ref (a 1)) (C := RX4) (T := TX4) (N := 6) hx hb hts huX4 hown hK hP 0 rfl rfl 0 (by decide) (hts (.fieldLink RX4 7 "SnowSlabsModel" "state" "[I") (by decide +kernel)) (fun _ h9 => h9) rfl dX4_blow_21 ?_
    refine lv_iconst (v := 1) hx hb dX4_blow_24 (by decide) ?_
    refine lv_iload_n hx hb dX4_blow_25 rfl (lv_at hl 2 rfl) ?_
    refine sn_ist (k := 1) 1 0 hx hb hK hP hD hS rfl rfl (by omega) (by decide) rfl dX4_blow_26 (fun H locs hP hD hS => ?_)
    have hP : va_P D vwCl ([(a 0, .inr (3, [.ref (a 1), .ref (a 2), .ref (a 3), .ref (a 4), .ref (a 5), .int nb])), (a 1, .inl (cI, 57, .inl (upd f 1 x))), (a 2, .inl (cI, 114, .inl g)), (a 3, .inl (cZ, 2, .inl kp)), (a 4, .inl (cI, 30, .inl tp)), (a 5, .inl (cI, 30, .inl ly))]) H := hP
    have hD : va_D A ([(a 0, .inr (3, [.ref (a 1), .ref (a 2), .ref (a 3), .ref (a 4), .ref (a 5), .int nb])), (a 1, .inl (cI, 57, .inl (upd f 1 x))), (a 2, .inl (cI, 114, .inl g)), (a 3, .inl (cZ, 2, .inl kp)), (a 4, .inl (cI, 30, .inl tp)), (a 5, .inl (cI, 30, .inl ly))]) := hD
    refine lv_iload_n hx hb dX4_blow_27 rfl (lv_at hl 0 rfl) ?_
    exact sn_uret (upd f 1 x) hx hb hr hlk dX4_blow_28 hP hD hS ((if_pos c_1).symm) ((if_pos c_1).symm) (Nat.le_of_ble_eq_true rfl) (Nat.le_of_ble_eq_true rfl)
  · have c_1 : ¬ (1 ≤ x ∧ x ≤ 50) := sn_b_z.mp c_1
    refine lv_bipush (v := (-2)) hx hb dX4_blow_10 (by decide) ?_
    exact sn_uret (f) hx hb hr hlk dX4_blow_12 hP hD hS ((if_neg c_1).symm) ((if_neg c_1).symm) (Nat.le_of_ble_eq_true rfl) (Nat.le_of_ble_eq_true rfl)
set_option maxRecDepth 100000 in
set_option maxHeartbeats 4000000 in
theorem ct_X4_pack (l : Launch) (D : va_G) (cI cZ cR : ClassId) (a : Nat → Nat) (f g kp tp ly : Nat → Int32) (nb : Int32) (n : Nat) (hI : sn_I f n) (x : Int32) (sz : Nat) : sn_Up l yX4_pack wsX4_pack 1 0 0 [.ref (a 0), .int x] D (sn_ty cI cZ cR) (sn_wM cI cZ a f g kp tp ly nb) sz (fun u_ : Nat → Int32 => u_ = sn_Fpack f n x) (fun u_ => sn_Rpack f n x) (fun u_ => sn_wM cI cZ a u_ g kp tp ly nb) := by
  refine sn_up (cc := cX4_pack) (maxL := 5) (ret := (some .int)) (by decide) rfl (Nat.le_of_ble_eq_true rfl) ?_
  intro p e s m below meth c A hx hb hml hr hlk hts hown hA hF0 hK hN H locs hP hD hS ls hl
  have hC : CallFix p m c cX4_pack 5 s [.ref (a 0), .int x].toArray wsX4_pack RX4 := ⟨hx, hb, hml, hown, hts⟩
  have hl : lv_has ls 5 [(0, .ref (a 0)), (1, .int x)] := hl
  have huX4 : ∀ w ∈ wsX40, w ∈ wsX4_pack := by decide +kernel
  have hn10 := hI.2.1
  refine lv_iload_n hx hb dX4_pack_0 rfl (lv_at hl 1 rfl) ?_
  refine lv_iconst (v := 1) hx hb dX4_pack_1 (by decide) ?_
  refine lv_sipush (v := 200) hx hb dX4_pack_2 (by decide) ?_
  refine sn_cS 3 hC hl (ct_X4_in l D _ [] x 1 200) gX4_pack_X4_in rfl (by decide +kernel) rfl ⟨Nat.le_of_ble_eq_true rfl, Nat.le_of_ble_eq_true rfl⟩ ⟨Nat.zero_le _, Nat.zero_le _⟩ (fun _ _ h => by simp at h) hK hN rfl (Nat.le_of_ble_eq_true rfl) dX4_pack_5 ?_
  refine lv_if_ne (tgt := 14) hx hb dX4_pack_8 (by decide) (fun c_1 => ?_) (fun c_1 => ?_)
  · have c_1 : 1 ≤ x ∧ x ≤ 200 := sn_b_nz.mp c_1
    refine lv_aload_n hx hb dX4_pack_14 rfl (lv_at hl 0 rfl) ?_
    refine va_get (D := D) (ci := 3) (v := .ref (a 1)) (C := RX4) (T := TX4) (N := 6) hx hb hts huX4 hown hK hP 0 rfl rfl 0 (by decide) (hts (.fieldLink RX4 7 "SnowSlabsModel" "state" "[I") (by decide +kernel)) (fun _ h9 => h9) rfl dX4_pack_15 ?_
    refine lv_iconst (v := 0) hx hb dX4_pack_18 (by decide) ?_
    refine sn_ild (k := 0) (v := f 0) 1 0 hx hb hK hP rfl rfl (by omega) (by decide) rfl (rfl) dX4_pack_19 ?_
    refine sn_top (hI.1) ?_
    refine lv_if_ne (tgt := 26) hx hb dX4_pack_20 (by decide) (fun c_2 => ?_) (fun c_2 => ?_)
    · have c_2 := (sn_cnej (a := n) (b := 0) rfl rfl (by omega) (by omega)).mp c_2
      have hL := hI.2.2.2 (n - 1) (by omega)
      refine lv_aload_n hx hb dX4_pack_26 rfl (lv_at hl 0 rfl) ?_
      refine va_get (D := D) (ci := 3) (v := .ref (a 1)) (C := RX4) (T := TX4) (N := 6) hx hb hts huX4 hown hK hP 0 rfl rfl 0 (by decide) (hts (.fieldLink RX4 7 "SnowSlabsModel" "state" "[I") (by decide +kernel)) (fun _ h9 => h9) rfl dX4_pack_27 ?_
      refine lv_aload_n hx hb dX4_pack_30 rfl (lv_at hl 0 rfl) ?_
      refine sn_cV 0 0 hC hl (ct_X4_top l D cI cZ cR a f g kp tp ly nb n hI.1) gX4_pack_X4_top rfl (by decide +kernel) rfl ⟨Nat.le_of_ble_eq_true rfl, Nat.le_of_ble_eq_true rfl⟩ ⟨Nat.zero_le _, Nat.zero_le _⟩ hP hK hN rfl rfl rfl (Nat.le_of_ble_eq_true rfl) dX4_pack_31 ?_
      refine sn_top (y := nI (n - 1)) (sn_nsub (a := n) (b := 1) rfl rfl (by omega)) ?_
      refine lv_iconst (v := 1) hx hb dX4_pack_34 (by decide) ?_
      refine sn_cS 2 hC hl (ct_X4_at l D _ [] (n - 1) 1) gX4_pack_X4_at rfl (by decide +kernel) rfl ⟨Nat.le_of_ble_eq_true rfl, Nat.le_of_ble_eq_true rfl⟩ ⟨Nat.zero_le _, Nat.zero_le _⟩ (fun _ _ h => by simp at h) hK hN rfl (Nat.le_of_ble_eq_true rfl) dX4_pack_35 ?_
      refine sn_top (y := nI (8 + 5 * (n - 1))) (congrArg nI (show _ = 8 + 5 * (n - 1) by omega)) ?_
      refine sn_ild (k := 8 + 5 * (n - 1)) (v := f (8 + 5 * (n - 1))) 1 0 hx hb hK hP rfl rfl (by omega) (by decide) rfl (rfl) dX4_pack_38 ?_
      refine lv_istore_n (lv' := [(2, .int (f (8 + 5 * (n - 1)))), (0, .ref (a 0)), (1, .int x)]) hx hb dX4_pack_39 rfl hl (by decide) rfl (fun ls hl => ?_)
      refine lv_iload_n hx hb dX4_pack_40 rfl (lv_at hl 0 rfl) ?_
      refine lv_iload_n hx hb dX4_pack_41 rfl (lv_at hl 2 rfl) ?_
      refine lv_iadd hx hb dX4_pack_42 ?_
      refine lv_sipush (v := 600) hx hb dX4_pack_43 (by decide) ?_
      refine lv_icmp_le (tgt := 55) hx hb dX4_pack_46 (by decide) (fun c_3 => ?_) (fun c_3 => ?_)
      · refine lv_iload_n hx hb dX4_pack_55 rfl (lv_at hl 0 rfl) ?_
        refine lv_iload_n hx hb dX4_pack_56 rfl (lv_at hl 2 rfl) ?_
        refine lv_iadd hx hb dX4_pack_57 ?_
        refine sn_top (y := sn_mn6 (f (8 + 5 * (n - 1)) + x)) ((if_neg (Int32.not_lt.mpr c_3)).symm) ?_
        refine lv_istore_n (lv' := [(3, .int (sn_mn6 (f (8 + 5 * (n - 1)) + x))), (2, .int (f (8 + 5 * (n - 1)))), (0, .ref (a 0)), (1, .int x)]) hx hb dX4_pack_58 rfl hl (by decide) rfl (fun ls hl => ?_)
        refine lv_aload_n hx hb dX4_pack_59 rfl (lv_at hl 2 rfl) ?_
        refine va_get (D := D) (ci := 3) (v := .ref (a 1)) (C := RX4) (T := TX4) (N := 6) hx hb hts huX4 hown hK hP 0 rfl rfl 0 (by decide) (hts (.fieldLink RX4 7 "SnowSlabsModel" "state" "[I") (by decide +kernel)) (fun _ h9 => h9) rfl dX4_pack_60 ?_
        refine lv_aload_n hx hb dX4_pack_63 rfl (lv_at hl 2 rfl) ?_
        refine sn_cV 0 0 hC hl (ct_X4_top l D cI cZ cR a f g kp tp ly nb n hI.1) gX4_pack_X4_top rfl (by decide +kernel) rfl ⟨Nat.le_of_ble_eq_true rfl, Nat.le_of_ble_eq_true rfl⟩ ⟨Nat.zero_le _, Nat.zero_le _⟩ hP hK hN rfl rfl rfl (Nat.le_of_ble_eq_true rfl) dX4_pack_64 ?_
        refine sn_top (y := nI (n - 1)) (sn_nsub (a := n) (b := 1) rfl rfl (by omega)) ?_
        refine lv_iconst (v := 0) hx hb dX4_pack_67 (by decide) ?_
        refine sn_cS 2 hC hl (ct_X4_at l D _ [] (n - 1) 0) gX4_pack_X4_at rfl (by decide +kernel) rfl ⟨Nat.le_of_ble_eq_true rfl, Nat.le_of_ble_eq_true rfl⟩ ⟨Nat.zero_le _, Nat.zero_le _⟩ (fun _ _ h => by simp at h) hK hN rfl (Nat.le_of_ble_eq_true rfl) dX4_pack_68 ?_
        refine sn_top (y := nI (7 + 5 * (n - 1))) (congrArg nI (show _ = 7 + 5 * (n - 1) by omega)) ?_
        refine sn_ild (k := 7 + 5 * (n - 1)) (v := f (7 + 5 * (n - 1))) 1 0 hx hb hK hP rfl rfl (by omega) (by decide) rfl (rfl) dX4_pack_71 ?_
        refine lv_iload_n hx hb dX4_pack_72 rfl (lv_at hl 1 rfl) ?_
        refine lv_imul hx hb dX4_pack_73 ?_
        refine lv_iload_n hx hb dX4_pack_74 rfl (lv_at hl 0 rfl) ?_
        refine lv_idiv hx hb dX4_pack_75 (sn_mn6_ne hL.2.1.1 hL.2.1.2 c_1) ?_
        refine lv_istore (lv' := [(4, .int (((f (7 + 5 * (n - 1))) * (f (8 + 5 * (n - 1)))) / (sn_mn6 (f (8 + 5 * (n - 1)) + x)))), (3, .int (sn_mn6 (f (8 + 5 * (n - 1)) + x))), (2, .int (f (8 + 5 * (n - 1)))), (0, .ref (a 0)), (1, .int x)]) hx hb dX4_pack_76 hl (by decide) rfl (fun ls hl => ?_)
        refine lv_aload_n hx hb dX4_pack_78 rfl (lv_at hl 3 rfl) ?_
        refine va_get (D := D) (ci := 3) (v := .ref (a 1)) (C := RX4) (T := TX4) (N := 6) hx hb hts huX4 hown hK hP 0 rfl rfl 0 (by decide) (hts (.fieldLink RX4 7 "SnowSlabsModel" "state" "[I") (by decide +kernel)) (fun _ h9 => h9) rfl dX4_pack_79 ?_
        refine lv_aload_n hx hb dX4_pack_82 rfl (lv_at hl 3 rfl) ?_
        refine sn_cV 0 0 hC hl (ct_X4_top l D cI cZ cR a f g kp tp ly nb n hI.1) gX4_pack_X4_top rfl (by decide +kernel) rfl ⟨Nat.le_of_ble_eq_true rfl, Nat.le_of_ble_eq_true rfl⟩ ⟨Nat.zero_le _, Nat.zero_le _⟩ hP hK hN rfl rfl rfl (Nat.le_of_ble_eq_true rfl) dX4_pack_83 ?_
        refine sn_top (y := nI (n - 1)) (sn_nsub (a := n) (b := 1) rfl rfl (by omega)) ?_
        refine lv_iconst (v := 1) hx hb dX4_pack_86 (by decide) ?_
        refine sn_cS 2 hC hl (ct_X4_at l D _ [] (n - 1) 1) gX4_pack_X4_at rfl (by decide +kernel) rfl ⟨Nat.le_of_ble_eq_true rfl, Nat.le_of_ble_eq_true rfl⟩ ⟨Nat.zero_le _, Nat.zero_le _⟩ (fun _ _ h => by simp at h) hK hN rfl (Nat.le_of_ble_eq_true rfl) dX4_pack_87 ?_
        refine sn_top (y := nI (8 + 5 * (n - 1))) (congrArg nI (show _ = 8 + 5 * (n - 1) by omega)) ?_
        refine lv_iload_n hx hb dX4_pack_90 rfl (lv_at hl 1 rfl) ?_
        refine sn_ist (k := 8 + 5 * (n - 1)) 1 0 hx hb hK hP hD hS rfl rfl (by omega) (by decide) rfl dX4_pack_91 (fun H locs hP hD hS => ?_)
        have hP : va_P D vwCl ([(a 0, .inr (3, [.ref (a 1), .ref (a 2), .ref (a 3), .ref (a 4), .ref (a 5), .int nb])), (a 1, .inl (cI, 57, .inl (upd f (8 + 5 * (n - 1)) (sn_mn6 (f (8 + 5 * (n - 1)) + x))))), (a 2, .inl (cI, 114, .inl g)), (a 3, .inl (cZ, 2, .inl kp)), (a 4, .inl (cI, 30, .inl tp)), (a 5, .inl (cI, 30, .inl ly))]) H := hP
        have hD : va_D A ([(a 0, .inr (3, [.ref (a 1), .ref (a 2), .ref (a 3), .ref (a 4), .ref (a 5), .int nb])), (a 1, .inl (cI, 57, .inl (upd f (8 + 5 * (n - 1)) (sn_mn6 (f (8 + 5 * (n - 1)) + x))))), (a 2, .inl (cI, 114, .inl g)), (a 3, .inl (cZ, 2, .inl kp)), (a 4, .inl (cI, 30, .inl tp)), (a 5, .inl (cI, 30, .inl ly))]) := hD
        refine lv_aload_n hx hb dX4_pack_92 rfl (lv_at hl 3 rfl) ?_
        refine va_get (D := D) (ci := 3) (v := .ref (a 1)) (C := RX4) (T := TX4) (N := 6) hx hb hts huX4 hown hK hP 0 rfl rfl 0 (by decide) (hts (.fieldLink RX4 7 "SnowSlabsModel" "state" "[I") (by decide +kernel)) (fun _ h9 => h9) rfl dX4_pack_93 ?_
        refine lv_aload_n hx hb dX4_pack_96 rfl (lv_at hl 3 rfl) ?_
        refine sn_cV 0 0 hC hl (ct_X4_top l D cI cZ cR a (upd f (8 + 5 * (n - 1)) (sn_mn6 (f (8 + 5 * (n - 1)) + x))) g kp tp ly nb n (by rw [pk_un (by omega)]; exact hI.1)) gX4_pack_X4_top rfl (by decide +kernel) rfl ⟨Nat.le_of_ble_eq_true rfl, Nat.le_of_ble_eq_true rfl⟩ ⟨Nat.zero_le _, Nat.zero_le _⟩ hP hK hN rfl rfl rfl (Nat.le_of_ble_eq_true rfl) dX4_pack_97 ?_
        refine sn_top (y := nI (n - 1)) (sn_nsub (a := n) (b := 1) rfl rfl (by omega)) ?_
        refine lv_iconst (v := 0) hx hb dX4_pack_100 (by decide) ?_
        refine sn_cS 2 hC hl (ct_X4_at l D _ [] (n - 1) 0) gX4_pack_X4_at rfl (by decide +kernel) rfl ⟨Nat.le_of_ble_eq_true rfl, Nat.le_of_ble_eq_true rfl⟩ ⟨Nat.zero_le _, Nat.zero_le _⟩ (fun _ _ h => by simp at h) hK hN rfl (Nat.le_of_ble_eq_true rfl) dX4_pack_101 ?_
        refine sn_top (y := nI (7 + 5 * (n - 1))) (congrArg nI (show _ = 7 + 5 * (n - 1) by omega)) ?_
        refine lv_iload hx hb dX4_pack_104 (lv_at hl 0 rfl) ?_
        refine lv_iconst (v := 1) hx hb dX4_pack_106 (by decide) ?_
        refine lv_icmp_ge (tgt := 114) hx hb dX4_pack_107 (by decide) (fun c_4 => ?_) (fun c_4 => ?_)
        · refine lv_iload hx hb dX4_pack_114 (lv_at hl 0 rfl) ?_
          refine sn_top (y := sn_mx1 (f (7 + 5 * (n - 1)) * f (8 + 5 * (n - 1)) / sn_mn6 (f (8 + 5 * (n - 1)) + x))) ((if_neg (Int32.not_lt.mpr c_4)).symm) ?_
          refine sn_ist (k := 7 + 5 * (n - 1)) 1 0 hx hb hK hP hD hS rfl rfl (by omega) (by decide) rfl dX4_pack_116 (fun H locs hP hD hS => ?_)
          have hP : va_P D vwCl ([(a 0, .inr (3, [.ref (a 1), .ref (a 2), .ref (a 3), .ref (a 4), .ref (a 5), .int nb])), (a 1, .inl (cI, 57, .inl (upd (upd f (8 + 5 * (n - 1)) (sn_mn6 (f (8 + 5 * (n - 1)) + x))) (7 + 5 * (n - 1)) (sn_mx1 (f (7 + 5 * (n - 1)) * f (8 + 5 * (n - 1)) / sn_mn6 (f (8 + 5 * (n - 1)) + x)))))), (a 2, .inl (cI, 114, .inl g)), (a 3, .inl (cZ, 2, .inl kp)), (a 4, .inl (cI, 30, .inl tp)), (a 5, .inl (cI, 30, .inl ly))]) H := hP
          have hD : va_D A ([(a 0, .inr (3, [.ref (a 1), .ref (a 2), .ref (a 3), .ref (a 4), .ref (a 5), .int nb])), (a 1, .inl (cI, 57, .inl (upd (upd f (8 + 5 * (n - 1)) (sn_mn6 (f (8 + 5 * (n - 1)) + x))) (7 + 5 * (n - 1)) (sn_mx1 (f (7 + 5 * (n - 1)) * f (8 + 5 * (n - 1)) / sn_mn6 (f (8 + 5 * (n - 1)) + x)))))), (a 2, .inl (cI, 114, .inl g)), (a 3, .inl (cZ, 2, .inl kp)), (a 4, .inl (cI, 30, .inl tp)), (a 5, .inl (cI, 30, .inl ly))]) := hD
          refine lv_aload_n hx hb dX4_pack_117 rfl (lv_at hl 3 rfl) ?_
          refine va_get (D := D) (ci := 3) (v := .ref (a 1)) (C := RX4) (T := TX4) (N := 6) hx hb hts huX4 hown hK hP 0 rfl rfl 0 (by decide) (hts (.fieldLink RX4 7 "SnowSlabsModel" "state" "[I") (by decide +kernel)) (fun _ h9 => h9) rfl dX4_pack_118 ?_
          refine lv_aload_n hx hb dX4_pack_121 rfl (lv_at hl 3 rfl) ?_
          refine sn_cV 0 0 hC hl (ct_X4_top l D cI cZ cR a (upd (upd f (8 + 5 * (n - 1)) (sn_mn6 (f (8 + 5 * (n - 1)) + x))) (7 + 5 * (n - 1)) (sn_mx1 (f (7 + 5 * (n - 1)) * f (8 + 5 * (n - 1)) / sn_mn6 (f (8 + 5 * (n - 1)) + x)))) g kp tp ly nb n (by rw [pk_un (by omega), pk_un (by omega)]; exact hI.1)) gX4_pack_X4_top rfl (by decide +kernel) rfl ⟨Nat.le_of_ble_eq_true rfl, Nat.le_of_ble_eq_true rfl⟩ ⟨Nat.zero_le _, Nat.zero_le _⟩ hP hK hN rfl rfl rfl (Nat.le_of_ble_eq_true rfl) dX4_pack_122 ?_
          refine sn_top (y := nI (n - 1)) (sn_nsub (a := n) (b := 1) rfl rfl (by omega)) ?_
          refine lv_iconst (v := 3) hx hb dX4_pack_125 (by decide) ?_
          refine sn_cS 2 hC hl (ct_X4_at l D _ [] (n - 1) 3) gX4_pack_X4_at rfl (by decide +kernel) rfl ⟨Nat.le_of_ble_eq_true rfl, Nat.le_of_ble_eq_true rfl⟩ ⟨Nat.zero_le _, Nat.zero_le _⟩ (fun _ _ h => by simp at h) hK hN rfl (Nat.le_of_ble_eq_true rfl) dX4_pack_126 ?_
          refine sn_top (y := nI (10 + 5 * (n - 1))) (congrArg nI (show _ = 10 + 5 * (n - 1) by omega)) ?_
          refine lv_dup2_11 hx hb dX4_pack_129 rfl rfl ?_
          refine sn_ild (k := 10 + 5 * (n - 1)) (v := (upd (upd f (8 + 5 * (n - 1)) (sn_mn6 (f (8 + 5 * (n - 1)) + x))) (7 + 5 * (n - 1)) (sn_mx1 (f (7 + 5 * (n - 1)) * f (8 + 5 * (n - 1)) / sn_mn6 (f (8 + 5 * (n - 1)) + x)))) (10 + 5 * (n - 1))) 1 0 hx hb hK hP rfl rfl (by omega) (by decide) rfl (rfl) dX4_pack_130 ?_
          refine sn_top (y := f (10 + 5 * (n - 1))) (by rw [pk_un (by omega), pk_un (by omega)]) ?_
          refine lv_aload_n hx hb dX4_pack_131 rfl (lv_at hl 3 rfl) ?_
          refine va_get (D := D) (ci := 3) (v := .ref (a 1)) (C := RX4) (T := TX4) (N := 6) hx hb hts huX4 hown hK hP 0 rfl rfl 0 (by decide) (hts (.fieldLink RX4 7 "SnowSlabsModel" "state" "[I") (by decide +kernel)) (fun _ h9 => h9) rfl dX4_pack_132 ?_
          refine lv_aload_n hx hb dX4_pack_135 rfl (lv_at hl 3 rfl) ?_
          refine sn_cV 0 0 hC hl (ct_X4_top l D cI cZ cR a (upd (upd f (8 + 5 * (n - 1)) (sn_mn6 (f (8 + 5 * (n - 1)) + x))) (7 + 5 * (n - 1)) (sn_mx1 (f (7 + 5 * (n - 1)) * f (8 + 5 * (n - 1)) / sn_mn6 (f (8 + 5 * (n - 1)) + x)))) g kp tp ly nb n (by rw [pk_un (by omega), pk_un (by omega)]; exact hI.1)) gX4_pack_X4_top rfl (by decide +kernel) rfl ⟨Nat.le_of_ble_eq_true rfl, Nat.le_of_ble_eq_true rfl⟩ ⟨Nat.zero_le _, Nat.zero_le _⟩ hP hK hN rfl rfl rfl (Nat.le_of_ble_eq_true rfl) dX4_pack_136 ?_
          refine sn_top (y := nI (n - 1)) (sn_nsub (a := n) (b := 1) rfl rfl (by omega)) ?_
          refine lv_iconst (v := 3) hx hb dX4_pack_139 (by decide) ?_
          refine sn_cS 2 hC hl (ct_X4_at l D _ [] (n - 1) 3) gX4_pack_X4_at rfl (by decide +kernel) rfl ⟨Nat.le_of_ble_eq_true rfl, Nat.le_of_ble_eq_true rfl⟩ ⟨Nat.zero_le _, Nat.zero_le _⟩ (fun _ _ h => by simp at h) hK hN rfl (Nat.le_of_ble_eq_true rfl) dX4_pack_140 ?_
          refine sn_top (y := nI (10 + 5 * (n - 1))) (congrArg nI (show _ = 10 + 5 * (n - 1) by omega)) ?_
          refine sn_ild (k := 10 + 5 * (n - 1)) (v := (upd (upd f (8 + 5 * (n - 1)) (sn_mn6 (f (8 + 5 * (n - 1)) + x))) (7 + 5 * (n - 1)) (sn_mx1 (f (7 + 5 * (n - 1)) * f (8 + 5 * (n - 1)) / sn_mn6 (f (8 + 5 * (n - 1)) + x)))) (10 + 5 * (n - 1))) 1 0 hx hb hK hP rfl rfl (by omega) (by decide) rfl (rfl) dX4_pack_143 ?_
          refine sn_top (y := f (10 + 5 * (n - 1))) (by rw [pk_un (by omega), pk_un (by omega)]) ?_
          refine lv_iconst (v := 5) hx hb dX4_pack_144 (by decide) ?_
          refine lv_icmp_ge (tgt := 152) hx hb dX4_pack_145 (by decide) (fun c_5 => ?_) (fun c_5 => ?_)
          · refine lv_iconst (v := 0) hx hb dX4_pack_152 (by decide) ?_
            refine lv_iadd hx hb dX4_pack_153 ?_
            refine sn_top (y := sn_hd (f (10 + 5 * (n - 1)))) (by unfold sn_hd; rw [if_neg (Int32.not_lt.mpr c_5)]) ?_
            refine sn_ist (k := 10 + 5 * (n - 1)) 1 0 hx hb hK hP hD hS rfl rfl (by omega) (by decide) rfl dX4_pack_154 (fun H locs hP hD hS => ?_)
            have hP : va_P D vwCl ([(a 0, .inr (3, [.ref (a 1), .ref (a 2), .ref (a 3), .ref (a 4), .ref (a 5), .int nb])), (a 1, .inl (cI, 57, .inl (upd (upd (upd f (8 + 5 * (n - 1)) (sn_mn6 (f (8 + 5 * (n - 1)) + x))) (7 + 5 * (n - 1)) (sn_mx1 (f (7 + 5 * (n - 1)) * f (8 + 5 * (n - 1)) / sn_mn6 (f (8 + 5 * (n - 1)) + x)))) (10 + 5 * (n - 1)) (sn_hd (f (10 + 5 * (n - 1))))))), (a 2, .inl (cI, 114, .inl g)), (a 3, .inl (cZ, 2, .inl kp)), (a 4, .inl (cI, 30, .inl tp)), (a 5, .inl (cI, 30, .inl ly))]) H := hP
            have hD : va_D A ([(a 0, .inr (3, [.ref (a 1), .ref (a 2), .ref (a 3), .ref (a 4), .ref (a 5), .int nb])), (a 1, .inl (cI, 57, .inl (upd (upd (upd f (8 + 5 * (n - 1)) (sn_mn6 (f (8 + 5 * (n - 1)) + x))) (7 + 5 * (n - 1)) (sn_mx1 (f (7 + 5 * (n - 1)) * f (8 + 5 * (n - 1)) / sn_mn6 (f (8 + 5 * (n - 1)) + x)))) (10 + 5 * (n - 1)) (sn_hd (f (10 + 5 * (n - 1))))))), (a 2, .inl (cI, 114, .inl g)), (a 3, .inl (cZ, 2, .inl kp)), (a 4, .inl (cI, 30, .inl tp)), (a 5, .inl (cI, 30, .inl ly))]) := hD
            refine lv_aload_n hx hb dX4_pack_155 rfl (lv_at hl 3 rfl) ?_
            refine va_get (D := D) (ci := 3) (v := .ref (a 1)) (C := RX4) (T := TX4) (N := 6) hx hb hts huX4 hown hK hP 0 rfl rfl 0 (by decide) (hts (.fieldLink RX4 7 "SnowSlabsModel" "state" "[I") (by decide +kernel)) (fun _ h9 => h9) rfl dX4_pack_156 ?_
            refine lv_aload_n hx hb dX4_pack_159 rfl (lv_at hl 3 rfl) ?_
            refine sn_cV 0 0 hC hl (ct_X4_top l D cI cZ cR a (upd (upd (upd f (8 + 5 * (n - 1)) (sn_mn6 (f (8 + 5 * (n - 1)) + x))) (7 + 5 * (n - 1)) (sn_mx1 (f (7 + 5 * (n - 1)) * f (8 + 5 * (n - 1)) / sn_mn6 (f (8 + 5 * (n - 1)) + x)))) (10 + 5 * (n - 1)) (sn_hd (f (10 + 5 * (n - 1))))) g kp tp ly nb n (by rw [pk_un (by omega), pk_un (by omega), pk_un (by omega)]; exact hI.1)) gX4_pack_X4_top rfl (by decide +kernel) rfl ⟨Nat.le_of_ble_eq_true rfl, Nat.le_of_ble_eq_true rfl⟩ ⟨Nat.zero_le _, Nat.zero_le _⟩ hP hK hN rfl rfl rfl (Nat.le_of_ble_eq_true rfl) dX4_pack_160 ?_
            refine sn_top (y := nI (n - 1)) (sn_nsub (a := n) (b := 1) rfl rfl (by omega)) ?_
            refine lv_iconst (v := 3) hx hb dX4_pack_163 (by decide) ?_
            refine sn_cS 2 hC hl (ct_X4_at l D _ [] (n - 1) 3) gX4_pack_X4_at rfl (by decide +kernel) rfl ⟨Nat.le_of_ble_eq_true rfl, Nat.le_of_ble_eq_true rfl⟩ ⟨Nat.zero_le _, Nat.zero_le _⟩ (fun _ _ h => by simp at h) hK hN rfl (Nat.le_of_ble_eq_true rfl) dX4_pack_164 ?_
            refine sn_top (y := nI (10 + 5 * (n - 1))) (congrArg nI (show _ = 10 + 5 * (n - 1) by omega)) ?_
            refine sn_ild (k := 10 + 5 * (n - 1)) (v := sn_hd (f (10 + 5 * (n - 1)))) 1 0 hx hb hK hP rfl rfl (by omega) (by decide) rfl (pk_us) dX4_pack_167 ?_
            exact sn_uret (sn_pkF f (n - 1) x) hx hb hr hlk dX4_pack_168 hP hD hS (((if_pos c_1).trans (if_neg c_2)).symm) (((if_pos c_1).trans (if_neg c_2)).symm) (Nat.le_of_ble_eq_true rfl) (Nat.le_of_ble_eq_true rfl)
          · refine lv_iconst (v := 1) hx hb dX4_pack_148 (by decide) ?_
            refine lv_goto (tgt := 153) hx hb dX4_pack_149 (by decide) ?_
            refine lv_iadd hx hb dX4_pack_153 ?_
            refine sn_top (y := sn_hd (f (10 + 5 * (n - 1)))) (by unfold sn_hd; rw [if_pos (Int32.not_le.mp c_5)]) ?_
            refine sn_ist (k := 10 + 5 * (n - 1)) 1 0 hx hb hK hP hD hS rfl rfl (by omega) (by decide) rfl dX4_pack_154 (fun H locs hP hD hS => ?_)
            have hP : va_P D vwCl ([(a 0, .inr (3, [.ref (a 1), .ref (a 2), .ref (a 3), .ref (a 4), .ref (a 5), .int nb])), (a 1, .inl (cI, 57, .inl (upd (upd (upd f (8 + 5 * (n - 1)) (sn_mn6 (f (8 + 5 * (n - 1)) + x))) (7 + 5 * (n - 1)) (sn_mx1 (f (7 + 5 * (n - 1)) * f (8 + 5 * (n - 1)) / sn_mn6 (f (8 + 5 * (n - 1)) + x)))) (10 + 5 * (n - 1)) (sn_hd (f (10 + 5 * (n - 1))))))), (a 2, .inl (cI, 114, .inl g)), (a 3, .inl (cZ, 2, .inl kp)), (a 4, .inl (cI, 30, .inl tp)), (a 5, .inl (cI, 30, .inl ly))]) H := hP
            have hD : va_D A ([(a 0, .inr (3, [.ref (a 1), .ref (a 2), .ref (a 3), .ref (a 4), .ref (a 5), .int nb])), (a 1, .inl (cI, 57, .inl (upd (upd (upd f (8 + 5 * (n - 1)) (sn_mn6 (f (8 + 5 * (n - 1)) + x))) (7 + 5 * (n - 1)) (sn_mx1 (f (7 + 5 * (n - 1)) * f (8 + 5 * (n - 1)) / sn_mn6 (f (8 + 5 * (n - 1)) + x)))) (10 + 5 * (n - 1)) (sn_hd (f (10 + 5 * (n - 1))))))), (a 2, .inl (cI, 114, .inl g)), (a 3, .inl (cZ, 2, .inl kp)), (a 4, .inl (cI, 30, .inl tp)), (a 5, .inl (cI, 30, .inl ly))]) := hD
            refine lv_aload_n hx hb dX4_pack_155 rfl (lv_at hl 3 rfl) ?_
            refine va_get (D := D) (ci := 3) (v := .ref (a 1)) (C := RX4) (T := TX4) (N := 6) hx hb hts huX4 hown hK hP 0 rfl rfl 0 (by decide) (hts (.fieldLink RX4 7 "SnowSlabsModel" "state" "[I") (by decide +kernel)) (fun _ h9 => h9) rfl dX4_pack_156 ?_
            refine lv_aload_n hx hb dX4_pack_159 rfl (lv_at hl 3 rfl) ?_
            refine sn_cV 0 0 hC hl (ct_X4_top l D cI cZ cR a (upd (upd (upd f (8 + 5 * (n - 1)) (sn_mn6 (f (8 + 5 * (n - 1)) + x))) (7 + 5 * (n - 1)) (sn_mx1 (f (7 + 5 * (n - 1)) * f (8 + 5 * (n - 1)) / sn_mn6 (f (8 + 5 * (n - 1)) + x)))) (10 + 5 * (n - 1)) (sn_hd (f (10 + 5 * (n - 1))))) g kp tp ly nb n (by rw [pk_un (by omega), pk_un (by omega), pk_un (by omega)]; exact hI.1)) gX4_pack_X4_top rfl (by decide +kernel) rfl ⟨Nat.le_of_ble_eq_true rfl, Nat.le_of_ble_eq_true rfl⟩ ⟨Nat.zero_le _, Nat.zero_le _⟩ hP hK hN rfl rfl rfl (Nat.le_of_ble_eq_true rfl) dX4_pack_160 ?_
            refine sn_top (y := nI (n - 1)) (sn_nsub (a := n) (b := 1) rfl rfl (by omega)) ?_
            refine lv_iconst (v := 3) hx hb dX4_pack_163 (by decide) ?_
            refine sn_cS 2 hC hl (ct_X4_at l D _ [] (n - 1) 3) gX4_pack_X4_at rfl (by decide +kernel) rfl ⟨Nat.le_of_ble_eq_true rfl, Nat.le_of_ble_eq_true rfl⟩ ⟨Nat.zero_le _, Nat.zero_le _⟩ (fun _ _ h => by simp at h) hK hN rfl (Nat.le_of_ble_eq_true rfl) dX4_pack_164 ?_
            refine sn_top (y := nI (10 + 5 * (n - 1))) (congrArg nI (show _ = 10 + 5 * (n - 1) by omega)) ?_
            refine sn_ild (k := 10 + 5 * (n - 1)) (v := sn_hd (f (10 + 5 * (n - 1)))) 1 0 hx hb hK hP rfl rfl (by omega) (by decide) rfl (pk_us) dX4_pack_167 ?_
            exact sn_uret (sn_pkF f (n - 1) x) hx hb hr hlk dX4_pack_168 hP hD hS (((if_pos c_1).trans (if_neg c_2)).symm) (((if_pos c_1).trans (if_neg c_2)).symm) (Nat.le_of_ble_eq_true rfl) (Nat.le_of_ble_eq_true rfl)
        · refine lv_iconst (v := 1) hx hb dX4_pack_110 (by decide) ?_
          refine lv_goto (tgt := 116) hx hb dX4_pack_111 (by decide) ?_
          refine sn_top (y := sn_mx1 (f (7 + 5 * (n - 1)) * f (8 + 5 * (n - 1)) / sn_mn6 (f (8 + 5 * (n - 1)) + x))) ((if_pos (Int32.not_le.mp c_4)).symm) ?_
          refine sn_ist (k := 7 + 5 * (n - 1)) 1 0 hx hb hK hP hD hS rfl rfl (by omega) (by decide) rfl dX4_pack_116 (fun H locs hP hD hS => ?_)
          have hP : va_P D vwCl ([(a 0, .inr (3, [.ref (a 1), .ref (a 2), .ref (a 3), .ref (a 4), .ref (a 5), .int nb])), (a 1, .inl (cI, 57, .inl (upd (upd f (8 + 5 * (n - 1)) (sn_mn6 (f (8 + 5 * (n - 1)) + x))) (7 + 5 * (n - 1)) (sn_mx1 (f (7 + 5 * (n - 1)) * f (8 + 5 * (n - 1)) / sn_mn6 (f (8 + 5 * (n - 1)) + x)))))), (a 2, .inl (cI, 114, .inl g)), (a 3, .inl (cZ, 2, .inl kp)), (a 4, .inl (cI, 30, .inl tp)), (a 5, .inl (cI, 30, .inl ly))]) H := hP
          have hD : va_D A ([(a 0, .inr (3, [.ref (a 1), .ref (a 2), .ref (a 3), .ref (a 4), .ref (a 5), .int nb])), (a 1, .inl (cI, 57, .inl (upd (upd f (8 + 5 * (n - 1)) (sn_mn6 (f (8 + 5 * (n - 1)) + x))) (7 + 5 * (n - 1)) (sn_mx1 (f (7 + 5 * (n - 1)) * f (8 + 5 * (n - 1)) / sn_mn6 (f (8 + 5 * (n - 1)) + x)))))), (a 2, .inl (cI, 114, .inl g)), (a 3, .inl (cZ, 2, .inl kp)), (a 4, .inl (cI, 30, .inl tp)), (a 5, .inl (cI, 30, .inl ly))]) := hD
          refine lv_aload_n hx hb dX4_pack_117 rfl (lv_at hl 3 rfl) ?_
          refine va_get (D := D) (ci := 3) (v := .ref (a 1)) (C := RX4) (T := TX4) (N := 6) hx hb hts huX4 hown hK hP 0 rfl rfl 0 (by decide) (hts (.fieldLink RX4 7 "SnowSlabsModel" "state" "[I") (by decide +kernel)) (fun _ h9 => h9) rfl dX4_pack_118 ?_
          refine lv_aload_n hx hb dX4_pack_121 rfl (lv_at hl 3 rfl) ?_
          refine sn_cV 0 0 hC hl (ct_X4_top l D cI cZ cR a (upd (upd f (8 + 5 * (n - 1)) (sn_mn6 (f (8 + 5 * (n - 1)) + x))) (7 + 5 * (n - 1)) (sn_mx1 (f (7 + 5 * (n - 1)) * f (8 + 5 * (n - 1)) / sn_mn6 (f (8 + 5 * (n - 1)) + x)))) g kp tp ly nb n (by rw [pk_un (by omega), pk_un (by omega)]; exact hI.1)) gX4_pack_X4_top rfl (by decide +kernel) rfl ⟨Nat.le_of_ble_eq_true rfl, Nat.le_of_ble_eq_true rfl⟩ ⟨Nat.zero_le _, Nat.zero_le _⟩ hP hK hN rfl rfl rfl (Nat.le_of_ble_eq_true rfl) dX4_pack_122 ?_
          refine sn_top (y := nI (n - 1)) (sn_nsub (a := n) (b := 1) rfl rfl (by omega)) ?_
          refine lv_iconst (v := 3) hx hb dX4_pack_125 (by decide) ?_
          refine sn_cS 2 hC hl (ct_X4_at l D _ [] (n - 1) 3) gX4_pack_X4_at rfl (by decide +kernel) rfl ⟨Nat.le_of_ble_eq_true rfl, Nat.le_of_ble_eq_true rfl⟩ ⟨Nat.zero_le _, Nat.zero_le _⟩ (fun _ _ h => by simp at h) hK hN rfl (Nat.le_of_ble_eq_true rfl) dX4_pack_126 ?_
          refine sn_top (y := nI (10 + 5 * (n - 1))) (congrArg nI (show _ = 10 + 5 * (n - 1) by omega)) ?_
          refine lv_dup2_11 hx hb dX4_pack_129 rfl rfl ?_
          refine sn_ild (k := 10 + 5 * (n - 1)) (v := (upd (upd f (8 + 5 * (n - 1)) (sn_mn6 (f (8 + 5 * (n - 1)) + x))) (7 + 5 * (n - 1)) (sn_mx1 (f (7 + 5 * (n - 1)) * f (8 + 5 * (n - 1)) / sn_mn6 (f (8 + 5 * (n - 1)) + x)))) (10 + 5 * (n - 1))) 1 0 hx hb hK hP rfl rfl (by omega) (by decide) rfl (rfl) dX4_pack_130 ?_
          refine sn_top (y := f (10 + 5 * (n - 1))) (by rw [pk_un (by omega), pk_un (by omega)]) ?_
          refine lv_aload_n hx hb dX4_pack_131 rfl (lv_at hl 3 rfl) ?_
          refine va_get (D := D) (ci := 3) (v := .ref (a 1)) (C := RX4) (T := TX4) (N := 6) hx hb hts huX4 hown hK hP 0 rfl rfl 0 (by decide) (hts (.fieldLink RX4 7 "SnowSlabsModel" "state" "[I") (by decide +kernel)) (fun _ h9 => h9) rfl dX4_pack_132 ?_
          refine lv_aload_n hx hb dX4_pack_135 rfl (lv_at hl 3 rfl) ?_
          refine sn_cV 0 0 hC hl (ct_X4_top l D cI cZ cR a (upd (upd f (8 + 5 * (n - 1)) (sn_mn6 (f (8 + 5 * (n - 1)) + x))) (7 + 5 * (n - 1)) (sn_mx1 (f (7 + 5 * (n - 1)) * f (8 + 5 * (n - 1)) / sn_mn6 (f (8 + 5 * (n - 1)) + x)))) g kp tp ly nb n (by rw [pk_un (by omega), pk_un (by omega)]; exact hI.1)) gX4_pack_X4_top rfl (by decide +kernel) rfl ⟨Nat.le_of_ble_eq_true rfl, Nat.le_of_ble_eq_true rfl⟩ ⟨Nat.zero_le _, Nat.zero_le _⟩ hP hK hN rfl rfl rfl (Nat.le_of_ble_eq_true rfl) dX4_pack_136 ?_
          refine sn_top (y := nI (n - 1)) (sn_nsub (a := n) (b := 1) rfl rfl (by omega)) ?_
          refine lv_iconst (v := 3) hx hb dX4_pack_139 (by decide) ?_
          refine sn_cS 2 hC hl (ct_X4_at l D _ [] (n - 1) 3) gX4_pack_X4_at rfl (by decide +kernel) rfl ⟨Nat.le_of_ble_eq_true rfl, Nat.le_of_ble_eq_true rfl⟩ ⟨Nat.zero_le _, Nat.zero_le _⟩ (fun _ _ h => by simp at h) hK hN rfl (Nat.le_of_ble_eq_true rfl) dX4_pack_140 ?_
          refine sn_top (y := nI (10 + 5 * (n - 1))) (congrArg nI (show _ = 10 + 5 * (n - 1) by omega)) ?_
          refine sn_ild (k := 10 + 5 * (n - 1)) (v := (upd (upd f (8 + 5 * (n - 1)) (sn_mn6 (f (8 + 5 * (n - 1)) + x))) (7 + 5 * (n - 1)) (sn_mx1 (f (7 + 5 * (n - 1)) * f (8 + 5 * (n - 1)) / sn_mn6 (f (8 + 5 * (n - 1)) + x)))) (10 + 5 * (n - 1))) 1 0 hx hb hK hP rfl rfl (by omega) (by decide) rfl (rfl) dX4_pack_143 ?_
          refine sn_top (y := f (10 + 5 * (n - 1))) (by rw [pk_un (by omega), pk_un (by omega)]) ?_
          refine lv_iconst (v := 5) hx hb dX4_pack_144 (by decide) ?_
          refine lv_icmp_ge (tgt := 152) hx hb dX4_pack_145 (by decide) (fun c_6 => ?_) (fun c_6 => ?_)
          · refine lv_iconst (v := 0) hx hb dX4_pack_152 (by decide) ?_
            refine lv_iadd hx hb dX4_pack_153 ?_
            refine sn_top (y := sn_hd (f (10 + 5 * (n - 1)))) (by unfold sn_hd; rw [if_neg (Int32.not_lt.mpr c_6)]) ?_
            refine sn_ist (k := 10 + 5 * (n - 1)) 1 0 hx hb hK hP hD hS rfl rfl (by omega) (by decide) rfl dX4_pack_154 (fun H locs hP hD hS => ?_)
            have hP : va_P D vwCl ([(a 0, .inr (3, [.ref (a 1), .ref (a 2), .ref (a 3), .ref (a 4), .ref (a 5), .int nb])), (a 1, .inl (cI, 57, .inl (upd (upd (upd f (8 + 5 * (n - 1)) (sn_mn6 (f (8 + 5 * (n - 1)) + x))) (7 + 5 * (n - 1)) (sn_mx1 (f (7 + 5 * (n - 1)) * f (8 + 5 * (n - 1)) / sn_mn6 (f (8 + 5 * (n - 1)) + x)))) (10 + 5 * (n - 1)) (sn_hd (f (10 + 5 * (n - 1))))))), (a 2, .inl (cI, 114, .inl g)), (a 3, .inl (cZ, 2, .inl kp)), (a 4, .inl (cI, 30, .inl tp)), (a 5, .inl (cI, 30, .inl ly))]) H := hP
            have hD : va_D A ([(a 0, .inr (3, [.ref (a 1), .ref (a 2), .ref (a 3), .ref (a 4), .ref (a 5), .int nb])), (a 1, .inl (cI, 57, .inl (upd (upd (upd f (8 + 5 * (n - 1)) (sn_mn6 (f (8 + 5 * (n - 1)) + x))) (7 + 5 * (n - 1)) (sn_mx1 (f (7 + 5 * (n - 1)) * f (8 + 5 * (n - 1)) / sn_mn6 (f (8 + 5 * (n - 1)) + x)))) (10 + 5 * (n - 1)) (sn_hd (f (10 + 5 * (n - 1))))))), (a 2, .inl (cI, 114, .inl g)), (a 3, .inl (cZ, 2, .inl kp)), (a 4, .inl (cI, 30, .inl tp)), (a 5, .inl (cI, 30, .inl ly))]) := hD
            refine lv_aload_n hx hb dX4_pack_155 rfl (lv_at hl 3 rfl) ?_
            refine va_get (D := D) (ci := 3) (v := .ref (a 1)) (C := RX4) (T := TX4) (N := 6) hx hb hts huX4 hown hK hP 0 rfl rfl 0 (by decide) (hts (.fieldLink RX4 7 "SnowSlabsModel" "state" "[I") (by decide +kernel)) (fun _ h9 => h9) rfl dX4_pack_156 ?_
            refine lv_aload_n hx hb dX4_pack_159 rfl (lv_at hl 3 rfl) ?_
            refine sn_cV 0 0 hC hl (ct_X4_top l D cI cZ cR a (upd (upd (upd f (8 + 5 * (n - 1)) (sn_mn6 (f (8 + 5 * (n - 1)) + x))) (7 + 5 * (n - 1)) (sn_mx1 (f (7 + 5 * (n - 1)) * f (8 + 5 * (n - 1)) / sn_mn6 (f (8 + 5 * (n - 1)) + x)))) (10 + 5 * (n - 1)) (sn_hd (f (10 + 5 * (n - 1))))) g kp tp ly nb n (by rw [pk_un (by omega), pk_un (by omega), pk_un (by omega)]; exact hI.1)) gX4_pack_X4_top rfl (by decide +kernel) rfl ⟨Nat.le_of_ble_eq_true rfl, Nat.le_of_ble_eq_true rfl⟩ ⟨Nat.zero_le _, Nat.zero_le _⟩ hP hK hN rfl rfl rfl (Nat.le_of_ble_eq_true rfl) dX4_pack_160 ?_
            refine sn_top (y := nI (n - 1)) (sn_nsub (a := n) (b := 1) rfl rfl (by omega)) ?_
            refine lv_iconst (v := 3) hx hb dX4_pack_163 (by decide) ?_
            refine sn_cS 2 hC hl (ct_X4_at l D _ [] (n - 1) 3) gX4_pack_X4_at rfl (by decide +kernel) rfl ⟨Nat.le_of_ble_eq_true rfl, Nat.le_of_ble_eq_true rfl⟩ ⟨Nat.zero_le _, Nat.zero_le _⟩ (fun _ _ h => by simp at h) hK hN rfl (Nat.le_of_ble_eq_true rfl) dX4_pack_164 ?_
            refine sn_top (y := nI (10 + 5 * (n - 1))) (congrArg nI (show _ = 10 + 5 * (n - 1) by omega)) ?_
            refine sn_ild (k := 10 + 5 * (n - 1)) (v := sn_hd (f (10 + 5 * (n - 1)))) 1 0 hx hb hK hP rfl rfl (by omega) (by decide) rfl (pk_us) dX4_pack_167 ?_
            exact sn_uret (sn_pkF f (n - 1) x) hx hb hr hlk dX4_pack_168 hP hD hS (((if_pos c_1).trans (if_neg c_2)).symm) (((if_pos c_1).trans (if_neg c_2)).symm) (Nat.le_of_ble_eq_true rfl) (Nat.le_of_ble_eq_true rfl)
          · refine lv_iconst (v := 1) hx hb dX4_pack_148 (by decide) ?_
            refine lv_goto (tgt := 153) hx hb dX4_pack_149 (by decide) ?_
            refine lv_iadd hx hb dX4_pack_153 ?_
            refine sn_top (y := sn_hd (f (10 + 5 * (n - 1)))) (by unfold sn_hd; rw [if_pos (Int32.not_le.mp c_6)]) ?_
            refine sn_ist (k := 10 + 5 * (n - 1)) 1 0 hx hb hK hP hD hS rfl rfl (by omega) (by decide) rfl dX4_pack_154 (fun H locs hP hD hS => ?_)
            have hP : va_P D vwCl ([(a 0, .inr (3, [.ref (a 1), .ref (a 2), .ref (a 3), .ref (a 4), .ref (a 5), .int nb])), (a 1, .inl (cI, 57, .inl (upd (upd (upd f (8 + 5 * (n - 1)) (sn_mn6 (f (8 + 5 * (n - 1)) + x))) (7 + 5 * (n - 1)) (sn_mx1 (f (7 + 5 * (n - 1)) * f (8 + 5 * (n - 1)) / sn_mn6 (f (8 + 5 * (n - 1)) + x)))) (10 + 5 * (n - 1)) (sn_hd (f (10 + 5 * (n - 1))))))), (a 2, .inl (cI, 114, .inl g)), (a 3, .inl (cZ, 2, .inl kp)), (a 4, .inl (cI, 30, .inl tp)), (a 5, .inl (cI, 30, .inl ly))]) H := hP
            have hD : va_D A ([(a 0, .inr (3, [.ref (a 1), .ref (a 2), .ref (a 3), .ref (a 4), .ref (a 5), .int nb])), (a 1, .inl (cI, 57, .inl (upd (upd (upd f (8 + 5 * (n - 1)) (sn_mn6 (f (8 + 5 * (n - 1)) + x))) (7 + 5 * (n - 1)) (sn_mx1 (f (7 + 5 * (n - 1)) * f (8 + 5 * (n - 1)) / sn_mn6 (f (8 + 5 * (n - 1)) + x)))) (10 + 5 * (n - 1)) (sn_hd (f (10 + 5 * (n - 1))))))), (a 2, .inl (cI, 114, .inl g)), (a 3, .inl (cZ, 2, .inl kp)), (a 4, .inl (cI, 30, .inl tp)), (a 5, .inl (cI, 30, .inl ly))]) := hD
            refine lv_aload_n hx hb dX4_pack_155 rfl (lv_at hl 3 rfl) ?_
            refine va_get (D := D) (ci := 3) (v := .ref (a 1)) (C := RX4) (T := TX4) (N := 6) hx hb hts huX4 hown hK hP 0 rfl rfl 0 (by decide) (hts (.fieldLink RX4 7 "SnowSlabsModel" "state" "[I") (by decide +kernel)) (fun _ h9 => h9) rfl dX4_pack_156 ?_
            refine lv_aload_n hx hb dX4_pack_159 rfl (lv_at hl 3 rfl) ?_
            refine sn_cV 0 0 hC hl (ct_X4_top l D cI cZ cR a (upd (upd (upd f (8 + 5 * (n - 1)) (sn_mn6 (f (8 + 5 * (n - 1)) + x))) (7 + 5 * (n - 1)) (sn_mx1 (f (7 + 5 * (n - 1)) * f (8 + 5 * (n - 1)) / sn_mn6 (f (8 + 5 * (n - 1)) + x)))) (10 + 5 * (n - 1)) (sn_hd (f (10 + 5 * (n - 1))))) g kp tp ly nb n (by rw [pk_un (by omega), pk_un (by omega), pk_un (by omega)]; exact hI.1)) gX4_pack_X4_top rfl (by decide +kernel) rfl ⟨Nat.le_of_ble_eq_true rfl, Nat.le_of_ble_eq_true rfl⟩ ⟨Nat.zero_le _, Nat.zero_le _⟩ hP hK hN rfl rfl rfl (Nat.le_of_ble_eq_true rfl) dX4_pack_160 ?_
            refine sn_top (y := nI (n - 1)) (sn_nsub (a := n) (b := 1) rfl rfl (by omega)) ?_
            refine lv_iconst (v := 3) hx hb dX4_pack_163 (by decide) ?_
            refine sn_cS 2 hC hl (ct_X4_at l D _ [] (n - 1) 3) gX4_pack_X4_at rfl (by decide +kernel) rfl ⟨Nat.le_of_ble_eq_true rfl, Nat.le_of_ble_eq_true rfl⟩ ⟨Nat.zero_le _, Nat.zero_le _⟩ (fun _ _ h => by simp at h) hK hN rfl (Nat.le_of_ble_eq_true rfl) dX4_pack_164 ?_
            refine sn_top (y := nI (10 + 5 * (n - 1))) (congrArg nI (show _ = 10 + 5 * (n - 1) by omega)) ?_
            refine sn_ild (k := 10 + 5 * (n - 1)) (v := sn_hd (f (10 + 5 * (n - 1)))) 1 0 hx hb hK hP rfl rfl (by omega) (by decide) rfl (pk_us) dX4_pack_167 ?_
            exact sn_uret (sn_pkF f (n - 1) x) hx hb hr hlk dX4_pack_168 hP hD hS (((if_pos c_1).trans (if_neg c_2)).symm) (((if_pos c_1).trans (if_neg c_2)).symm) (Nat.le_of_ble_eq_true rfl) (Nat.le_of_ble_eq_true rfl)
      · refine lv_sipush (v := 600) hx hb dX4_pack_49 (by decide) ?_
        refine lv_goto (tgt := 58) hx hb dX4_pack_52 (by decide) ?_
        refine sn_top (y := sn_mn6 (f (8 + 5 * (n - 1)) + x)) ((if_pos (Int32.not_le.mp c_3)).symm) ?_
        refine lv_istore_n (lv' := [(3, .int (sn_mn6 (f (8 + 5 * (n - 1)) + x))), (2, .int (f (8 + 5 * (n - 1)))), (0, .ref (a 0)), (1, .int x)]) hx hb dX4_pack_58 rfl hl (by decide) rfl (fun ls hl => ?_)
        refine lv_aload_n hx hb dX4_pack_59 rfl (lv_at hl 2 rfl) ?_
        refine va_get (D := D) (ci := 3) (v := .ref (a 1)) (C := RX4) (T := TX4) (N := 6) hx hb hts huX4 hown hK hP 0 rfl rfl 0 (by decide) (hts (.fieldLink RX4 7 "SnowSlabsModel" "state" "[I") (by decide +kernel)) (fun _ h9 => h9) rfl dX4_pack_60 ?_
        refine lv_aload_n hx hb dX4_pack_63 rfl (lv_at hl 2 rfl) ?_
        refine sn_cV 0 0 hC hl (ct_X4_top l D cI cZ cR a f g kp tp ly nb n hI.1) gX4_pack_X4_top rfl (by decide +kernel) rfl ⟨Nat.le_of_ble_eq_true rfl, Nat.le_of_ble_eq_true rfl⟩ ⟨Nat.zero_le _, Nat.zero_le _⟩ hP hK hN rfl rfl rfl (Nat.le_of_ble_eq_true rfl) dX4_pack_64 ?_
        refine sn_top (y := nI (n - 1)) (sn_nsub (a := n) (b := 1) rfl rfl (by omega)) ?_
        refine lv_iconst (v := 0) hx hb dX4_pack_67 (by decide) ?_
        refine sn_cS 2 hC hl (ct_X4_at l D _ [] (n - 1) 0) gX4_pack_X4_at rfl (by decide +kernel) rfl ⟨Nat.le_of_ble_eq_true rfl, Nat.le_of_ble_eq_true rfl⟩ ⟨Nat.zero_le _, Nat.zero_le _⟩ (fun _ _ h => by simp at h) hK hN rfl (Nat.le_of_ble_eq_true rfl) dX4_pack_68 ?_
        refine sn_top (y := nI (7 + 5 * (n - 1))) (congrArg nI (show _ = 7 + 5 * (n - 1) by omega)) ?_
        refine sn_ild (k := 7 + 5 * (n - 1)) (v := f (7 + 5 * (n - 1))) 1 0 hx hb hK hP rfl rfl (by omega) (by decide) rfl (rfl) dX4_pack_71 ?_
        refine lv_iload_n hx hb dX4_pack_72 rfl (lv_at hl 1 rfl) ?_
        refine lv_imul hx hb dX4_pack_73 ?_
        refine lv_iload_n hx hb dX4_pack_74 rfl (lv_at hl 0 rfl) ?_
        refine lv_idiv hx hb dX4_pack_75 (sn_mn6_ne hL.2.1.1 hL.2.1.2 c_1) ?_
        refine lv_istore (lv' := [(4, .int (((f (7 + 5 * (n - 1))) * (f (8 + 5 * (n - 1)))) / (sn_mn6 (f (8 + 5 * (n - 1)) + x)))), (3, .int (sn_mn6 (f (8 + 5 * (n - 1)) + x))), (2, .int (f (8 + 5 * (n - 1)))), (0, .ref (a 0)), (1, .int x)]) hx hb dX4_pack_76 hl (by decide) rfl (fun ls hl => ?_)
        refine lv_aload_n hx hb dX4_pack_78 rfl (lv_at hl 3 rfl) ?_
        refine va_get (D := D) (ci := 3) (v := .ref (a 1)) (C := RX4) (T := TX4) (N := 6) hx hb hts huX4 hown hK hP 0 rfl rfl 0 (by decide) (hts (.fieldLink RX4 7 "SnowSlabsModel" "state" "[I") (by decide +kernel)) (fun _ h9 => h9) rfl dX4_pack_79 ?_
        refine lv_aload_n hx hb dX4_pack_82 rfl (lv_at hl 3 rfl) ?_
        refine sn_cV 0 0 hC hl (ct_X4_top l D cI cZ cR a f g kp tp ly nb n hI.1) gX4_pack_X4_top rfl (by decide +kernel) rfl ⟨Nat.le_of_ble_eq_true rfl, Nat.le_of_ble_eq_true rfl⟩ ⟨Nat.zero_le _, Nat.zero_le _⟩ hP hK hN rfl rfl rfl (Nat.le_of_ble_eq_true rfl) dX4_pack_83 ?_
        refine sn_top (y := nI (n - 1)) (sn_nsub (a := n) (b := 1) rfl rfl (by omega)) ?_
        refine lv_iconst (v := 1) hx hb dX4_pack_86 (by decide) ?_
        refine sn_cS 2 hC hl (ct_X4_at l D _ [] (n - 1) 1) gX4_pack_X4_at rfl (by decide +kernel) rfl ⟨Nat.le_of_ble_eq_true rfl, Nat.le_of_ble_eq_true rfl⟩ ⟨Nat.zero_le _, Nat.zero_le _⟩ (fun _ _ h => by simp at h) hK hN rfl (Nat.le_of_ble_eq_true rfl) dX4_pack_87 ?_
        refine sn_top (y := nI (8 + 5 * (n - 1))) (congrArg nI (show _ = 8 + 5 * (n - 1) by omega)) ?_
        refine lv_iload_n hx hb dX4_pack_90 rfl (lv_at hl 1 rfl) ?_
        refine sn_ist (k := 8 + 5 * (n - 1)) 1 0 hx hb hK hP hD hS rfl rfl (by omega) (by decide) rfl dX4_pack_91 (fun H locs hP hD hS => ?_)
        have hP : va_P D vwCl ([(a 0, .inr (3, [.ref (a 1), .ref (a 2), .ref (a 3), .ref (a 4), .ref (a 5), .int nb])), (a 1, .inl (cI, 57, .inl (upd f (8 + 5 * (n - 1)) (sn_mn6 (f (8 + 5 * (n - 1)) + x))))), (a 2, .inl (cI, 114, .inl g)), (a 3, .inl (cZ, 2, .inl kp)), (a 4, .inl (cI, 30, .inl tp)), (a 5, .inl (cI, 30, .inl ly))]) H := hP
        have hD : va_D A ([(a 0, .inr (3, [.ref (a 1), .ref (a 2), .ref (a 3), .ref (a 4), .ref (a 5), .int nb])), (a 1, .inl (cI, 57, .inl (upd f (8 + 5 * (n - 1)) (sn_mn6 (f (8 + 5 * (n - 1)) + x))))), (a 2, .inl (cI, 114, .inl g)), (a 3, .inl (cZ, 2, .inl kp)), (a 4, .inl (cI, 30, .inl tp)), (a 5, .inl (cI, 30, .inl ly))]) := hD
        refine lv_aload_n hx hb dX4_pack_92 rfl (lv_at hl 3 rfl) ?_
        refine va_get (D := D) (ci := 3) (v := .ref (a 1)) (C := RX4) (T := TX4) (N := 6) hx hb hts huX4 hown hK hP 0 rfl rfl 0 (by decide) (hts (.fieldLink RX4 7 "SnowSlabsModel" "state" "[I") (by decide +kernel)) (fun _ h9 => h9) rfl dX4_pack_93 ?_
        refine lv_aload_n hx hb dX4_pack_96 rfl (lv_at hl 3 rfl) ?_
        refine sn_cV 0 0 hC hl (ct_X4_top l D cI cZ cR a (upd f (8 + 5 * (n - 1)) (sn_mn6 (f (8 + 5 * (n - 1)) + x))) g kp tp ly nb n (by rw [pk_un (by omega)]; exact hI.1)) gX4_pack_X4_top rfl (by decide +kernel) rfl ⟨Nat.le_of_ble_eq_true rfl, Nat.le_of_ble_eq_true rfl⟩ ⟨Nat.zero_le _, Nat.zero_le _⟩ hP hK hN rfl rfl rfl (Nat.le_of_ble_eq_true rfl) dX4_pack_97 ?_
        refine sn_top (y := nI (n - 1)) (sn_nsub (a := n) (b := 1) rfl rfl (by omega)) ?_
        refine lv_iconst (v := 0) hx hb dX4_pack_100 (by decide) ?_
        refine sn_cS 2 hC hl (ct_X4_at l D _ [] (n - 1) 0) gX4_pack_X4_at rfl (by decide +kernel) rfl ⟨Nat.le_of_ble_eq_true rfl, Nat.le_of_ble_eq_true rfl⟩ ⟨Nat.zero_le _, Nat.zero_le _⟩ (fun _ _ h => by simp at h) hK hN rfl (Nat.le_of_ble_eq_true rfl) dX4_pack_101 ?_
        refine sn_top (y := nI (7 + 5 * (n - 1))) (congrArg nI (show _ = 7 + 5 * (n - 1) by omega)) ?_
        refine lv_iload hx hb dX4_pack_104 (lv_at hl 0 rfl) ?_
        refine lv_iconst (v := 1) hx hb dX4_pack_106 (by decide) ?_
        refine lv_icmp_ge (tgt := 114) hx hb dX4_pack_107 (by decide) (fun c_7 => ?_) (fun c_7 => ?_)
        · refine lv_iload hx hb dX4_pack_114 (lv_at hl 0 rfl) ?_
          refine sn_top (y := sn_mx1 (f (7 + 5 * (n - 1)) * f (8 + 5 * (n - 1)) / sn_mn6 (f (8 + 5 * (n - 1)) + x))) ((if_neg (Int32.not_lt.mpr c_7)).symm) ?_
          refine sn_ist (k := 7 + 5 * (n - 1)) 1 0 hx hb hK hP hD hS rfl rfl (by omega) (by decide) rfl dX4_pack_116 (fun H locs hP hD hS => ?_)
          have hP : va_P D vwCl ([(a 0, .inr (3, [.ref (a 1), .ref (a 2), .ref (a 3), .ref (a 4), .ref (a 5), .int nb])), (a 1, .inl (cI, 57, .inl (upd (upd f (8 + 5 * (n - 1)) (sn_mn6 (f (8 + 5 * (n - 1)) + x))) (7 + 5 * (n - 1)) (sn_mx1 (f (7 + 5 * (n - 1)) * f (8 + 5 * (n - 1)) / sn_mn6 (f (8 + 5 * (n - 1)) + x)))))), (a 2, .inl (cI, 114, .inl g)), (a 3, .inl (cZ, 2, .inl kp)), (a 4, .inl (cI, 30, .inl tp)), (a 5, .inl (cI, 30, .inl ly))]) H := hP
          have hD : va_D A ([(a 0, .inr (3, [.ref (a 1), .ref (a 2), .ref (a 3), .ref (a 4), .ref (a 5), .int nb])), (a 1, .inl (cI, 57, .inl (upd (upd f (8 + 5 * (n - 1)) (sn_mn6 (f (8 + 5 * (n - 1)) + x))) (7 + 5 * (n - 1)) (sn_mx1 (f (7 + 5 * (n - 1)) * f (8 + 5 * (n - 1)) / sn_mn6 (f (8 + 5 * (n - 1)) + x)))))), (a 2, .inl (cI, 114, .inl g)), (a 3, .inl (cZ, 2, .inl kp)), (a 4, .inl (cI, 30, .inl tp)), (a 5, .inl (cI, 30, .inl ly))]) := hD
          refine lv_aload_n hx hb dX4_pack_117 rfl (lv_at hl 3 rfl) ?_
          refine va_get (D := D) (ci := 3) (v := .ref (a 1)) (C := RX4) (T := TX4) (N := 6) hx hb hts huX4 hown hK hP 0 rfl rfl 0 (by decide) (hts (.fieldLink RX4 7 "SnowSlabsModel" "state" "[I") (by decide +kernel)) (fun _ h9 => h9) rfl dX4_pack_118 ?_
          refine lv_aload_n hx hb dX4_pack_121 rfl (lv_at hl 3 rfl) ?_
          refine sn_cV 0 0 hC hl (ct_X4_top l D cI cZ cR a (upd (upd f (8 + 5 * (n - 1)) (sn_mn6 (f (8 + 5 * (n - 1)) + x))) (7 + 5 * (n - 1)) (sn_mx1 (f (7 + 5 * (n - 1)) * f (8 + 5 * (n - 1)) / sn_mn6 (f (8 + 5 * (n - 1)) + x)))) g kp tp ly nb n (by rw [pk_un (by omega), pk_un (by omega)]; exact hI.1)) gX4_pack_X4_top rfl (by decide +kernel) rfl ⟨Nat.le_of_ble_eq_true rfl, Nat.le_of_ble_eq_true rfl⟩ ⟨Nat.zero_le _, Nat.zero_le _⟩ hP hK hN rfl rfl rfl (Nat.le_of_ble_eq_true rfl) dX4_pack_122 ?_
          refine sn_top (y := nI (n - 1)) (sn_nsub (a := n) (b := 1) rfl rfl (by omega)) ?_
          refine lv_iconst (v := 3) hx hb dX4_pack_125 (by decide) ?_
          refine sn_cS 2 hC hl (ct_X4_at l D _ [] (n - 1) 3) gX4_pack_X4_at rfl (by decide +kernel) rfl ⟨Nat.le_of_ble_eq_true rfl, Nat.le_of_ble_eq_true rfl⟩ ⟨Nat.zero_le _, Nat.zero_le _⟩ (fun _ _ h => by simp at h) hK hN rfl (Nat.le_of_ble_eq_true rfl) dX4_pack_126 ?_
          refine sn_top (y := nI (10 + 5 * (n - 1))) (congrArg nI (show _ = 10 + 5 * (n - 1) by omega)) ?_
          refine lv_dup2_11 hx hb dX4_pack_129 rfl rfl ?_
          refine sn_ild (k := 10 + 5 * (n - 1)) (v := (upd (upd f (8 + 5 * (n - 1)) (sn_mn6 (f (8 + 5 * (n - 1)) + x))) (7 + 5 * (n - 1)) (sn_mx1 (f (7 + 5 * (n - 1)) * f (8 + 5 * (n - 1)) / sn_mn6 (f (8 + 5 * (n - 1)) + x)))) (10 + 5 * (n - 1))) 1 0 hx hb hK hP rfl rfl (by omega) (by decide) rfl (rfl) dX4_pack_130 ?_
          refine sn_top (y := f (10 + 5 * (n - 1))) (by rw [pk_un (by omega), pk_un (by omega)]) ?_
          refine lv_aload_n hx hb dX4_pack_131 rfl (lv_at hl 3 rfl) ?_
          refine va_get (D := D) (ci := 3) (v := .ref (a 1)) (C := RX4) (T := TX4) (N := 6) hx hb hts huX4 hown hK hP 0 rfl rfl 0 (by decide) (hts (.fieldLink RX4 7 "SnowSlabsModel" "state" "[I") (by decide +kernel)) (fun _ h9 => h9) rfl dX4_pack_132 ?_
          refine lv_aload_n hx hb dX4_pack_135 rfl (lv_at hl 3 rfl) ?_
          refine sn_cV 0 0 hC hl (ct_X4_top l D cI cZ cR a (upd (upd f (8 + 5 * (n - 1)) (sn_mn6 (f (8 + 5 * (n - 1)) + x))) (7 + 5 * (n - 1)) (sn_mx1 (f (7 + 5 * (n - 1)) * f (8 + 5 * (n - 1)) / sn_mn6 (f (8 + 5 * (n - 1)) + x)))) g kp tp ly nb n (by rw [pk_un (by omega), pk_un (by omega)]; exact hI.1)) gX4_pack_X4_top rfl (by decide +kernel) rfl ⟨Nat.le_of_ble_eq_true rfl, Nat.le_of_ble_eq_true rfl⟩ ⟨Nat.zero_le _, Nat.zero_le _⟩ hP hK hN rfl rfl rfl (Nat.le_of_ble_eq_true rfl) dX4_pack_136 ?_
          refine sn_top (y := nI (n - 1)) (sn_nsub (a := n) (b := 1) rfl rfl (by omega)) ?_
          refine lv_iconst (v := 3) hx hb dX4_pack_139 (by decide) ?_
          refine sn_cS 2 hC hl (ct_X4_at l D _ [] (n - 1) 3) gX4_pack_X4_at rfl (by decide +kernel) rfl ⟨Nat.le_of_ble_eq_true rfl, Nat.le_of_ble_eq_true rfl⟩ ⟨Nat.zero_le _, Nat.zero_le _⟩ (fun _ _ h => by simp at h) hK hN rfl (Nat.le_of_ble_eq_true rfl) dX4_pack_140 ?_
          refine sn_top (y := nI (10 + 5 * (n - 1))) (congrArg nI (show _ = 10 + 5 * (n - 1) by omega)) ?_
          refine sn_ild (k := 10 + 5 * (n - 1)) (v := (upd (upd f (8 + 5 * (n - 1)) (sn_mn6 (f (8 + 5 * (n - 1)) + x))) (7 + 5 * (n - 1)) (sn_mx1 (f (7 + 5 * (n - 1)) * f (8 + 5 * (n - 1)) / sn_mn6 (f (8 + 5 * (n - 1)) + x)))) (10 + 5 * (n - 1))) 1 0 hx hb hK hP rfl rfl (by omega) (by decide) rfl (rfl) dX4_pack_143 ?_
          refine sn_top (y := f (10 + 5 * (n - 1))) (by rw [pk_un (by omega), pk_un (by omega)]) ?_
          refine lv_iconst (v := 5) hx hb dX4_pack_144 (by decide) ?_
          refine lv_icmp_ge (tgt := 152) hx hb dX4_pack_145 (by decide) (fun c_8 => ?_) (fun c_8 => ?_)
          · refine lv_iconst (v := 0) hx hb dX4_pack_152 (by decide) ?_
            refine lv_iadd hx hb dX4_pack_153 ?_
            refine sn_top (y := sn_hd (f (10 + 5 * (n - 1)))) (by unfold sn_hd; rw [if_neg (Int32.not_lt.mpr c_8)]) ?_
            refine sn_ist (k := 10 + 5 * (n - 1)) 1 0 hx hb hK hP hD hS rfl rfl (by omega) (by decide) rfl dX4_pack_154 (fun H locs hP hD hS => ?_)
            have hP : va_P D vwCl ([(a 0, .inr (3, [.ref (a 1), .ref (a 2), .ref (a 3), .ref (a 4), .ref (a 5), .int nb])), (a 1, .inl (cI, 57, .inl (upd (upd (upd f (8 + 5 * (n - 1)) (sn_mn6 (f (8 + 5 * (n - 1)) + x))) (7 + 5 * (n - 1)) (sn_mx1 (f (7 + 5 * (n - 1)) * f (8 + 5 * (n - 1)) / sn_mn6 (f (8 + 5 * (n - 1)) + x)))) (10 + 5 * (n - 1)) (sn_hd (f (10 + 5 * (n - 1))))))), (a 2, .inl (cI, 114, .inl g)), (a 3, .inl (cZ, 2, .inl kp)), (a 4, .inl (cI, 30, .inl tp)), (a 5, .inl (cI, 30, .inl ly))]) H := hP
            have hD : va_D A ([(a 0, .inr (3, [.ref (a 1), .ref (a 2), .ref (a 3), .ref (a 4), .ref (a 5), .int nb])), (a 1, .inl (cI, 57, .inl (upd (upd (upd f (8 + 5 * (n - 1)) (sn_mn6 (f (8 + 5 * (n - 1)) + x))) (7 + 5 * (n - 1)) (sn_mx1 (f (7 + 5 * (n - 1)) * f (8 + 5 * (n - 1)) / sn_mn6 (f (8 + 5 * (n - 1)) + x)))) (10 + 5 * (n - 1)) (sn_hd (f (10 + 5 * (n - 1))))))), (a 2, .inl (cI, 114, .inl g)), (a 3, .inl (cZ, 2, .inl kp)), (a 4, .inl (cI, 30, .inl tp)), (a 5, .inl (cI, 30, .inl ly))]) := hD
            refine lv_aload_n hx hb dX4_pack_155 rfl (lv_at hl 3 rfl) ?_
            refine va_get (D := D) (ci := 3) (v := .ref (a 1)) (C := RX4) (T := TX4) (N := 6) hx hb hts huX4 hown hK hP 0 rfl rfl 0 (by decide) (hts (.fieldLink RX4 7 "SnowSlabsModel" "state" "[I") (by decide +kernel)) (fun _ h9 => h9) rfl dX4_pack_156 ?_
            refine lv_aload_n hx hb dX4_pack_159 rfl (lv_at hl 3 rfl) ?_
            refine sn_cV 0 0 hC hl (ct_X4_top l D cI cZ cR a (upd (upd (upd f (8 + 5 * (n - 1)) (sn_mn6 (f (8 + 5 * (n - 1)) + x))) (7 + 5 * (n - 1)) (sn_mx1 (f (7 + 5 * (n - 1)) * f (8 + 5 * (n - 1)) / sn_mn6 (f (8 + 5 * (n - 1)) + x)))) (10 + 5 * (n - 1)) (sn_hd (f (10 + 5 * (n - 1))))) g kp tp ly nb n (by rw [pk_un (by omega), pk_un (by omega), pk_un (by omega)]; exact hI.1)) gX4_pack_X4_top rfl (by decide +kernel) rfl ⟨Nat.le_of_ble_eq_true rfl, Nat.le_of_ble_eq_true rfl⟩ ⟨Nat.zero_le _, Nat.zero_le _⟩ hP hK hN rfl rfl rfl (Nat.le_of_ble_eq_true rfl) dX4_pack_160 ?_
            refine sn_top (y := nI (n - 1)) (sn_nsub (a := n) (b := 1) rfl rfl (by omega)) ?_
            refine lv_iconst (v := 3) hx hb dX4_pack_163 (by decide) ?_
            refine sn_cS 2 hC hl (ct_X4_at l D _ [] (n - 1) 3) gX4_pack_X4_at rfl (by decide +kernel) rfl ⟨Nat.le_of_ble_eq_true rfl, Nat.le_of_ble_eq_true rfl⟩ ⟨Nat.zero_le _, Nat.zero_le _⟩ (fun _ _ h => by simp at h) hK hN rfl (Nat.le_of_ble_eq_true rfl) dX4_pack_164 ?_
            refine sn_top (y := nI (10 + 5 * (n - 1))) (congrArg nI (show _ = 10 + 5 * (n - 1) by omega)) ?_
            refine sn_ild (k := 10 + 5 * (n - 1)) (v := sn_hd (f (10 + 5 * (n - 1)))) 1 0 hx hb hK hP rfl rfl (by omega) (by decide) rfl (pk_us) dX4_pack_167 ?_
            exact sn_uret (sn_pkF f (n - 1) x) hx hb hr hlk dX4_pack_168 hP hD hS (((if_pos c_1).trans (if_neg c_2)).symm) (((if_pos c_1).trans (if_neg c_2)).symm) (Nat.le_of_ble_eq_true rfl) (Nat.le_of_ble_eq_true rfl)
          · refine lv_iconst (v := 1) hx hb dX4_pack_148 (by decide) ?_
            refine lv_goto (tgt := 153) hx hb dX4_pack_149 (by decide) ?_
            refine lv_iadd hx hb dX4_pack_153 ?_
            refine sn_top (y := sn_hd (f (10 + 5 * (n - 1)))) (by unfold sn_hd; rw [if_pos (Int32.not_le.mp c_8)]) ?_
            refine sn_ist (k := 10 + 5 * (n - 1)) 1 0 hx hb hK hP hD hS rfl rfl (by omega) (by decide) rfl dX4_pack_154 (fun H locs hP hD hS => ?_)
            have hP : va_P D vwCl ([(a 0, .inr (3, [.ref (a 1), .ref (a 2), .ref (a 3), .ref (a 4), .ref (a 5), .int nb])), (a 1, .inl (cI, 57, .inl (upd (upd (upd f (8 + 5 * (n - 1)) (sn_mn6 (f (8 + 5 * (n - 1)) + x))) (7 + 5 * (n - 1)) (sn_mx1 (f (7 + 5 * (n - 1)) * f (8 + 5 * (n - 1)) / sn_mn6 (f (8 + 5 * (n - 1)) + x)))) (10 + 5 * (n - 1)) (sn_hd (f (10 + 5 * (n - 1))))))), (a 2, .inl (cI, 114, .inl g)), (a 3, .inl (cZ, 2, .inl kp)), (a 4, .inl (cI, 30, .inl tp)), (a 5, .inl (cI, 30, .inl ly))]) H := hP
            have hD : va_D A ([(a 0, .inr (3, [.ref (a 1), .ref (a 2), .ref (a 3), .ref (a 4), .ref (a 5), .int nb])), (a 1, .inl (cI, 57, .inl (upd (upd (upd f (8 + 5 * (n - 1)) (sn_mn6 (f (8 + 5 * (n - 1)) + x))) (7 + 5 * (n - 1)) (sn_mx1 (f (7 + 5 * (n - 1)) * f (8 + 5 * (n - 1)) / sn_mn6 (f (8 + 5 * (n - 1)) + x)))) (10 + 5 * (n - 1)) (sn_hd (f (10 + 5 * (n - 1))))))), (a 2, .inl (cI, 114, .inl g)), (a 3, .inl (cZ, 2, .inl kp)), (a 4, .inl (cI, 30, .inl tp)), (a 5, .inl (cI, 30, .inl ly))]) := hD
            refine lv_aload_n hx hb dX4_pack_155 rfl (lv_at hl 3 rfl) ?_
            refine va_get (D := D) (ci := 3) (v := .ref (a 1)) (C := RX4) (T := TX4) (N := 6) hx hb hts huX4 hown hK hP 0 rfl rfl 0 (by decide) (hts (.fieldLink RX4 7 "SnowSlabsModel" "state" "[I") (by decide +kernel)) (fun _ h9 => h9) rfl dX4_pack_156 ?_
            refine lv_aload_n hx hb dX4_pack_159 rfl (lv_at hl 3 rfl) ?_
            refine sn_cV 0 0 hC hl (ct_X4_top l D cI cZ cR a (upd (upd (upd f (8 + 5 * (n - 1)) (sn_mn6 (f (8 + 5 * (n - 1)) + x))) (7 + 5 * (n - 1)) (sn_mx1 (f (7 + 5 * (n - 1)) * f (8 + 5 * (n - 1)) / sn_mn6 (f (8 + 5 * (n - 1)) + x)))) (10 + 5 * (n - 1)) (sn_hd (f (10 + 5 * (n - 1))))) g kp tp ly nb n (by rw [pk_un (by omega), pk_un (by omega), pk_un (by omega)]; exact hI.1)) gX4_pack_X4_top rfl (by decide +kernel) rfl ⟨Nat.le_of_ble_eq_true rfl, Nat.le_of_ble_eq_true rfl⟩ ⟨Nat.zero_le _, Nat.zero_le _⟩ hP hK hN rfl rfl rfl (Nat.le_of_ble_eq_true rfl) dX4_pack_160 ?_
            refine sn_top (y := nI (n - 1)) (sn_nsub (a := n) (b := 1) rfl rfl (by omega)) ?_
            refine lv_iconst (v := 3) hx hb dX4_pack_163 (by decide) ?_
            refine sn_cS 2 hC hl (ct_X4_at l D _ [] (n - 1) 3) gX4_pack_X4_at rfl (by decide +kernel) rfl ⟨Nat.le_of_ble_eq_true rfl, Nat.le_of_ble_eq_true rfl⟩ ⟨Nat.zero_le _, Nat.zero_le _⟩ (fun _ _ h => by simp at h) hK hN rfl (Nat.le_of_ble_eq_true rfl) dX4_pack_164 ?_
            refine sn_top (y := nI (10 + 5 * (n - 1))) (congrArg nI (show _ = 10 + 5 * (n - 1) by omega)) ?_
            refine sn_ild (k := 10 + 5 * (n - 1)) (v := sn_hd (f (10 + 5 * (n - 1)))) 1 0 hx hb hK hP rfl rfl (by omega) (by decide) rfl (pk_us) dX4_pack_167 ?_
            exact sn_uret (sn_pkF f (n - 1) x) hx hb hr hlk dX4_pack_168 hP hD hS (((if_pos c_1).trans (if_neg c_2)).symm) (((if_pos c_1).trans (if_neg c_2)).symm) (Nat.le_of_ble_eq_true rfl) (Nat.le_of_ble_eq_true rfl)
        · refine lv_iconst (v := 1) hx hb dX4_pack_110 (by decide) ?_
          refine lv_goto (tgt := 116) hx hb dX4_pack_111 (by decide) ?_
          refine sn_top (y := sn_mx1 (f (7 + 5 * (n - 1)) * f (8 + 5 * (n - 1)) / sn_mn6 (f (8 + 5 * (n - 1)) + x))) ((if_pos (Int32.not_le.mp c_7)).symm) ?_
          refine sn_ist (k := 7 + 5 * (n - 1)) 1 0 hx hb hK hP hD hS rfl rfl (by omega) (by decide) rfl dX4_pack_116 (fun H locs hP hD hS => ?_)
          have hP : va_P D vwCl ([(a 0, .inr (3, [.ref (a 1), .ref (a 2), .ref (a 3), .ref (a 4), .ref (a 5), .int nb])), (a 1, .inl (cI, 57, .inl (upd (upd f (8 + 5 * (n - 1)) (sn_mn6 (f (8 + 5 * (n - 1)) + x))) (7 + 5 * (n - 1)) (sn_mx1 (f (7 + 5 * (n - 1)) * f (8 + 5 * (n - 1)) / sn_mn6 (f (8 + 5 * (n - 1)) + x)))))), (a 2, .inl (cI, 114, .inl g)), (a 3, .inl (cZ, 2, .inl kp)), (a 4, .inl (cI, 30, .inl tp)), (a 5, .inl (cI, 30, .inl ly))]) H := hP
          have hD : va_D A ([(a 0, .inr (3, [.ref (a 1), .ref (a 2), .ref (a 3), .ref (a 4), .ref (a 5), .int nb])), (a 1, .inl (cI, 57, .inl (upd (upd f (8 + 5 * (n - 1)) (sn_mn6 (f (8 + 5 * (n - 1)) + x))) (7 + 5 * (n - 1)) (sn_mx1 (f (7 + 5 * (n - 1)) * f (8 + 5 * (n - 1)) / sn_mn6 (f (8 + 5 * (n - 1)) + x)))))), (a 2, .inl (cI, 114, .inl g)), (a 3, .inl (cZ, 2, .inl kp)), (a 4, .inl (cI, 30, .inl tp)), (a 5, .inl (cI, 30, .inl ly))]) := hD
          refine lv_aload_n hx hb dX4_pack_117 rfl (lv_at hl 3 rfl) ?_
          refine va_get (D := D) (ci := 3) (v := .ref (a 1)) (C := RX4) (T := TX4) (N := 6) hx hb hts huX4 hown hK hP 0 rfl rfl 0 (by decide) (hts (.fieldLink RX4 7 "SnowSlabsModel" "state" "[I") (by decide +kernel)) (fun _ h9 => h9) rfl dX4_pack_118 ?_
          refine lv_aload_n hx hb dX4_pack_121 rfl (lv_at hl 3 rfl) ?_
          refine sn_cV 0 0 hC hl (ct_X4_top l D cI cZ cR a (upd (upd f (8 + 5 * (n - 1)) (sn_mn6 (f (8 + 5 * (n - 1)) + x))) (7 + 5 * (n - 1)) (sn_mx1 (f (7 + 5 * (n - 1)) * f (8 + 5 * (n - 1)) / sn_mn6 (f (8 + 5 * (n - 1)) + x)))) g kp tp ly nb n (by rw [pk_un (by omega), pk_un (by omega)]; exact hI.1)) gX4_pack_X4_top rfl (by decide +kernel) rfl ⟨Nat.le_of_ble_eq_true rfl, Nat.le_of_ble_eq_true rfl⟩ ⟨Nat.zero_le _, Nat.zero_le _⟩ hP hK hN rfl rfl rfl (Nat.le_of_ble_eq_true rfl) dX4_pack_122 ?_
          refine sn_top (y := nI (n - 1)) (sn_nsub (a := n) (b := 1) rfl rfl (by omega)) ?_
          refine lv_iconst (v := 3) hx hb dX4_pack_125 (by decide) ?_
          refine sn_cS 2 hC hl (ct_X4_at l D _ [] (n - 1) 3) gX4_pack_X4_at rfl (by decide +kernel) rfl ⟨Nat.le_of_ble_eq_true rfl, Nat.le_of_ble_eq_true rfl⟩ ⟨Nat.zero_le _, Nat.zero_le _⟩ (fun _ _ h => by simp at h) hK hN rfl (Nat.le_of_ble_eq_true rfl) dX4_pack_126 ?_
          refine sn_top (y := nI (10 + 5 * (n - 1))) (congrArg nI (show _ = 10 + 5 * (n - 1) by omega)) ?_
          refine lv_dup2_11 hx hb dX4_pack_129 rfl rfl ?_
          refine sn_ild (k := 10 + 5 * (n - 1)) (v := (upd (upd f (8 + 5 * (n - 1)) (sn_mn6 (f (8 + 5 * (n - 1)) + x))) (7 + 5 * (n - 1)) (sn_mx1 (f (7 + 5 * (n - 1)) * f (8 + 5 * (n - 1)) / sn_mn6 (f (8 + 5 * (n - 1)) + x)))) (10 + 5 * (n - 1))) 1 0 hx hb hK hP rfl rfl (by omega) (by decide) rfl (rfl) dX4_pack_130 ?_
          refine sn_top (y := f (10 + 5 * (n - 1))) (by rw [pk_un (by omega), pk_un (by omega)]) ?_
          refine lv_aload_n hx hb dX4_pack_131 rfl (lv_at hl 3 rfl) ?_
          refine va_get (D := D) (ci := 3) (v := .ref (a 1)) (C := RX4) (T := TX4) (N := 6) hx hb hts huX4 hown hK hP 0 rfl rfl 0 (by decide) (hts (.fieldLink RX4 7 "SnowSlabsModel" "state" "[I") (by decide +kernel)) (fun _ h9 => h9) rfl dX4_pack_132 ?_
          refine lv_aload_n hx hb dX4_pack_135 rfl (lv_at hl 3 rfl) ?_
          refine sn_cV 0 0 hC hl (ct_X4_top l D cI cZ cR a (upd (upd f (8 + 5 * (n - 1)) (sn_mn6 (f (8 + 5 * (n - 1)) + x))) (7 + 5 * (n - 1)) (sn_mx1 (f (7 + 5 * (n - 1)) * f (8 + 5 * (n - 1)) / sn_mn6 (f (8 + 5 * (n - 1)) + x)))) g kp tp ly nb n (by rw [pk_un (by omega), pk_un (by omega)]; exact hI.1)) gX4_pack_X4_top rfl (by decide +kernel) rfl ⟨Nat.le_of_ble_eq_true rfl, Nat.le_of_ble_eq_true rfl⟩ ⟨Nat.zero_le _, Nat.zero_le _⟩ hP hK hN rfl rfl rfl (Nat.le_of_ble_eq_true rfl) dX4_pack_136 ?_
          refine sn_top (y := nI (n - 1)) (sn_nsub (a := n) (b := 1) rfl rfl (by omega)) ?_
          refine lv_iconst (v := 3) hx hb dX4_pack_139 (by decide) ?_
          refine sn_cS 2 hC hl (ct_X4_at l D _ [] (n - 1) 3) gX4_pack_X4_at rfl (by decide +kernel) rfl ⟨Nat.le_of_ble_eq_true rfl, Nat.le_of_ble_eq_true rfl⟩ ⟨Nat.zero_le _, Nat.zero_le _⟩ (fun _ _ h => by simp at h) hK hN rfl (Nat.le_of_ble_eq_true rfl) dX4_pack_140 ?_
          refine sn_top (y := nI (10 + 5 * (n - 1))) (congrArg nI (show _ = 10 + 5 * (n - 1) by omega)) ?_
          refine sn_ild (k := 10 + 5 * (n - 1)) (v := (upd (upd f (8 + 5 * (n - 1)) (sn_mn6 (f (8 + 5 * (n - 1)) + x))) (7 + 5 * (n - 1)) (sn_mx1 (f (7 + 5 * (n - 1)) * f (8 + 5 * (n - 1)) / sn_mn6 (f (8 + 5 * (n - 1)) + x)))) (10 + 5 * (n - 1))) 1 0 hx hb hK hP rfl rfl (by omega) (by decide) rfl (rfl) dX4_pack_143 ?_
          refine sn_top (y := f (10 + 5 * (n - 1))) (by rw [pk_un (by omega), pk_un (by omega)]) ?_
          refine lv_iconst (v := 5) hx hb dX4_pack_144 (by decide) ?_
          refine lv_icmp_ge (tgt := 152) hx hb dX4_pack_145 (by decide) (fun c_9 => ?_) (fun c_9 => ?_)
          · refine lv_iconst (v := 0) hx hb dX4_pack_152 (by decide) ?_
            refine lv_iadd hx hb dX4_pack_153 ?_
            refine sn_top (y := sn_hd (f (10 + 5 * (n - 1)))) (by unfold sn_hd; rw [if_neg (Int32.not_lt.mpr c_9)]) ?_
            refine sn_ist (k := 10 + 5 * (n - 1)) 1 0 hx hb hK hP hD hS rfl rfl (by omega) (by decide) rfl dX4_pack_154 (fun H locs hP hD hS => ?_)
            have hP : va_P D vwCl ([(a 0, .inr (3, [.ref (a 1), .ref (a 2), .ref (a 3), .ref (a 4), .ref (a 5), .int nb])), (a 1, .inl (cI, 57, .inl (upd (upd (upd f (8 + 5 * (n - 1)) (sn_mn6 (f (8 + 5 * (n - 1)) + x))) (7 + 5 * (n - 1)) (sn_mx1 (f (7 + 5 * (n - 1)) * f (8 + 5 * (n - 1)) / sn_mn6 (f (8 + 5 * (n - 1)) + x)))) (10 + 5 * (n - 1)) (sn_hd (f (10 + 5 * (n - 1))))))), (a 2, .inl (cI, 114, .inl g)), (a 3, .inl (cZ, 2, .inl kp)), (a 4, .inl (cI, 30, .inl tp)), (a 5, .inl (cI, 30, .inl ly))]) H := hP
            have hD : va_D A ([(a 0, .inr (3, [.ref (a 1), .ref (a 2), .ref (a 3), .ref (a 4), .ref (a 5), .int nb])), (a 1, .inl (cI, 57, .inl (upd (upd (upd f (8 + 5 * (n - 1)) (sn_mn6 (f (8 + 5 * (n - 1)) + x))) (7 + 5 * (n - 1)) (sn_mx1 (f (7 + 5 * (n - 1)) * f (8 + 5 * (n - 1)) / sn_mn6 (f (8 + 5 * (n - 1)) + x)))) (10 + 5 * (n - 1)) (sn_hd (f (10 + 5 * (n - 1))))))), (a 2, .inl (cI, 114, .inl g)), (a 3, .inl (cZ, 2, .inl kp)), (a 4, .inl (cI, 30, .inl tp)), (a 5, .inl (cI, 30, .inl ly))]) := hD
            refine lv_aload_n hx hb dX4_pack_155 rfl (lv_at hl 3 rfl) ?_
            refine va_get (D := D) (ci := 3) (v := .ref (a 1)) (C := RX4) (T := TX4) (N := 6) hx hb hts huX4 hown hK hP 0 rfl rfl 0 (by decide) (hts (.fieldLink RX4 7 "SnowSlabsModel" "state" "[I") (by decide +kernel)) (fun _ h9 => h9) rfl dX4_pack_156 ?_
            refine lv_aload_n hx hb dX4_pack_159 rfl (lv_at hl 3 rfl) ?_
            refine sn_cV 0 0 hC hl (ct_X4_top l D cI cZ cR a (upd (upd (upd f (8 + 5 * (n - 1)) (sn_mn6 (f (8 + 5 * (n - 1)) + x))) (7 + 5 * (n - 1)) (sn_mx1 (f (7 + 5 * (n - 1)) * f (8 + 5 * (n - 1)) / sn_mn6 (f (8 + 5 * (n - 1)) + x)))) (10 + 5 * (n - 1)) (sn_hd (f (10 + 5 * (n - 1))))) g kp tp ly nb n (by rw [pk_un (by omega), pk_un (by omega), pk_un (by omega)]; exact hI.1)) gX4_pack_X4_top rfl (by decide +kernel) rfl ⟨Nat.le_of_ble_eq_true rfl, Nat.le_of_ble_eq_true rfl⟩ ⟨Nat.zero_le _, Nat.zero_le _⟩ hP hK hN rfl rfl rfl (Nat.le_of_ble_eq_true rfl) dX4_pack_160 ?_
            refine sn_top (y := nI (n - 1)) (sn_nsub (a := n) (b := 1) rfl rfl (by omega)) ?_
            refine lv_iconst (v := 3) hx hb dX4_pack_163 (by decide) ?_
            refine sn_cS 2 hC hl (ct_X4_at l D _ [] (n - 1) 3) gX4_pack_X4_at rfl (by decide +kernel) rfl ⟨Nat.le_of_ble_eq_true rfl, Nat.le_of_ble_eq_true rfl⟩ ⟨Nat.zero_le _, Nat.zero_le _⟩ (fun _ _ h => by simp at h) hK hN rfl (Nat.le_of_ble_eq_true rfl) dX4_pack_164 ?_
            refine sn_top (y := nI (10 + 5 * (n - 1))) (congrArg nI (show _ = 10 + 5 * (n - 1) by omega)) ?_
            refine sn_ild (k := 10 + 5 * (n - 1)) (v := sn_hd (f (10 + 5 * (n - 1)))) 1 0 hx hb hK hP rfl rfl (by omega) (by decide) rfl (pk_us) dX4_pack_167 ?_
            exact sn_uret (sn_pkF f (n - 1) x) hx hb hr hlk dX4_pack_168 hP hD hS (((if_pos c_1).trans (if_neg c_2)).symm) (((if_pos c_1).trans (if_neg c_2)).symm) (Nat.le_of_ble_eq_true rfl) (Nat.le_of_ble_eq_true rfl)
          · refine lv_iconst (v := 1) hx hb dX4_pack_148 (by decide) ?_
            refine lv_goto (tgt := 153) hx hb dX4_pack_149 (by decide) ?_
            refine lv_iadd hx hb dX4_pack_153 ?_
            refine sn_top (y := sn_hd (f (10 + 5 * (n - 1)))) (by unfold sn_hd; rw [if_pos (Int32.not_le.mp c_9)]) ?_
            refine sn_ist (k := 10 + 5 * (n - 1)) 1 0 hx hb hK hP hD hS rfl rfl (by omega) (by decide) rfl dX4_pack_154 (fun H locs hP hD hS => ?_)
            have hP : va_P D vwCl ([(a 0, .inr (3, [.ref (a 1), .ref (a 2), .ref (a 3), .ref (a 4), .ref (a 5), .int nb])), (a 1, .inl (cI, 57, .inl (upd (upd (upd f (8 + 5 * (n - 1)) (sn_mn6 (f (8 + 5 * (n - 1)) + x))) (7 + 5 * (n - 1)) (sn_mx1 (f (7 + 5 * (n - 1)) * f (8 + 5 * (n - 1)) / sn_mn6 (f (8 + 5 * (n - 1)) + x)))) (10 + 5 * (n - 1)) (sn_hd (f (10 + 5 * (n - 1))))))), (a 2, .inl (cI, 114, .inl g)), (a 3, .inl (cZ, 2, .inl kp)), (a 4, .inl (cI, 30, .inl tp)), (a 5, .inl (cI, 30, .inl ly))]) H := hP
            have hD : va_D A ([(a 0, .inr (3, [.ref (a 1), .ref (a 2), .ref (a 3), .ref (a 4), .ref (a 5), .int nb])), (a 1, .inl (cI, 57, .inl (upd (upd (upd f (8 + 5 * (n - 1)) (sn_mn6 (f (8 + 5 * (n - 1)) + x))) (7 + 5 * (n - 1)) (sn_mx1 (f (7 + 5 * (n - 1)) * f (8 + 5 * (n - 1)) / sn_mn6 (f (8 + 5 * (n - 1)) + x)))) (10 + 5 * (n - 1)) (sn_hd (f (10 + 5 * (n - 1))))))), (a 2, .inl (cI, 114, .inl g)), (a 3, .inl (cZ, 2, .inl kp)), (a 4, .inl (cI, 30, .inl tp)), (a 5, .inl (cI, 30, .inl ly))]) := hD
            refine lv_aload_n hx hb dX4_pack_155 rfl (lv_at hl 3 rfl) ?_
            refine va_get (D := D) (ci := 3) (v := .ref (a 1)) (C := RX4) (T := TX4) (N := 6) hx hb hts huX4 hown hK hP 0 rfl rfl 0 (by decide) (hts (.fieldLink RX4 7 "SnowSlabsModel" "state" "[I") (by decide +kernel)) (fun _ h9 => h9) rfl dX4_pack_156 ?_
            refine lv_aload_n hx hb dX4_pack_159 rfl (lv_at hl 3 rfl) ?_
            refine sn_cV 0 0 hC hl (ct_X4_top l D cI cZ cR a (upd (upd (upd f (8 + 5 * (n - 1)) (sn_mn6 (f (8 + 5 * (n - 1)) + x))) (7 + 5 * (n - 1)) (sn_mx1 (f (7 + 5 * (n - 1)) * f (8 + 5 * (n - 1)) / sn_mn6 (f (8 + 5 * (n - 1)) + x)))) (10 + 5 * (n - 1)) (sn_hd (f (10 + 5 * (n - 1))))) g kp tp ly nb n (by rw [pk_un (by omega), pk_un (by omega), pk_un (by omega)]; exact hI.1)) gX4_pack_X4_top rfl (by decide +kernel) rfl ⟨Nat.le_of_ble_eq_true rfl, Nat.le_of_ble_eq_true rfl⟩ ⟨Nat.zero_le _, Nat.zero_le _⟩ hP hK hN rfl rfl rfl (Nat.le_of_ble_eq_true rfl) dX4_pack_160 ?_
            refine sn_top (y := nI (n - 1)) (sn_nsub (a := n) (b := 1) rfl rfl (by omega)) ?_
            refine lv_iconst (v := 3) hx hb dX4_pack_163 (by decide) ?_
            refine sn_cS 2 hC hl (ct_X4_at l D _ [] (n - 1) 3) gX4_pack_X4_at rfl (by decide +kernel) rfl ⟨Nat.le_of_ble_eq_true rfl, Nat.le_of_ble_eq_true rfl⟩ ⟨Nat.zero_le _, Nat.zero_le _⟩ (fun _ _ h => by simp at h) hK hN rfl (Nat.le_of_ble_eq_true rfl) dX4_pack_164 ?_
            refine sn_top (y := nI (10 + 5 * (n - 1))) (congrArg nI (show _ = 10 + 5 * (n - 1) by omega)) ?_
            refine sn_ild (k := 10 + 5 * (n - 1)) (v := sn_hd (f (10 + 5 * (n - 1)))) 1 0 hx hb hK hP rfl rfl (by omega) (by decide) rfl (pk_us) dX4_pack_167 ?_
            exact sn_uret (sn_pkF f (n - 1) x) hx hb hr hlk dX4_pack_168 hP hD hS (((if_pos c_1).trans (if_neg c_2)).symm) (((if_pos c_1).trans (if_neg c_2)).symm) (Nat.le_of_ble_eq_true rfl) (Nat.le_of_ble_eq_true rfl)
    · have c_2 := (sn_cnef (a := n) (b := 0) rfl rfl (by omega) (by omega)).mp c_2
      refine lv_bipush (v := (-3)) hx hb dX4_pack_23 (by decide) ?_
      exact sn_uret (f) hx hb hr hlk dX4_pack_25 hP hD hS (((if_pos c_1).trans (if_pos c_2)).symm) (((if_pos c_1).trans (if_pos c_2)).symm) (Nat.le_of_ble_eq_true rfl) (Nat.le_of_ble_eq_true rfl)
  · have c_1 : ¬ (1 ≤ x ∧ x ≤ 200) := sn_b_z.mp c_1
    refine lv_bipush (v := (-2)) hx hb dX4_pack_11 (by decide) ?_
    exact sn_uret (f) hx hb hr hlk dX4_pack_13 hP hD hS ((if_neg c_1).symm) ((if_neg c_1).symm) (Nat.le_of_ble_eq_true rfl) (Nat.le_of_ble_eq_true rfl)
set_option maxRecDepth 100000 in
set_option maxHeartbeats 4000000 in
theorem ct_X4_settleOne (l : Launch) (D : va_G) (cI cZ cR : ClassId) (a : Nat → Nat) (f g kp tp ly : Nat → Int32) (nb : Int32) (i : Nat) (hi : i < 10) (x : Int32) (sz : Nat) : sn_Uv l yX4_settleOne wsX4_settleOne 1 0 0 [.ref (a 0), .int (nI i), .int x] D (sn_ty cI cZ cR) (sn_wM cI cZ a f g kp tp ly nb) sz (fun u_ : Nat → Int32 => u_ = sn_s2 f i x) (fun u_ => sn_wM cI cZ a u_ g kp tp ly nb) := by
  refine sn_uv (cc := cX4_settleOne) (maxL := 6) (ret := none) (by decide) rfl (Nat.le_of_ble_eq_true rfl) ?_
  intro p e s m below meth c A hx hb hml hr hlk hin hts hown hA hF0 hK hN H locs hP hD hS ls hl
  have hC : CallFix p m c cX4_settleOne 6 s [.ref (a 0), .int (nI i), .int x].toArray wsX4_settleOne RX4 := ⟨hx, hb, hml, hown, hts⟩
  have hl : lv_has ls 6 [(0, .ref (a 0)), (1, .int (nI i)), (2, .int x)] := hl
  have huX4 : ∀ w ∈ wsX40, w ∈ wsX4_settleOne := by decide +kernel
  refine lv_aload_n hx hb dX4_settleOne_0 rfl (lv_at hl 0 rfl) ?_
  refine va_get (D := D) (ci := 3) (v := .ref (a 1)) (C := RX4) (T := TX4) (N := 6) hx hb hts huX4 hown hK hP 0 rfl rfl 0 (by decide) (hts (.fieldLink RX4 7 "SnowSlabsModel" "state" "[I") (by decide +kernel)) (fun _ h9 => h9) rfl dX4_settleOne_1 ?_
  refine lv_iload_n hx hb dX4_settleOne_4 rfl (lv_at hl 1 rfl) ?_
  refine lv_iconst (v := 0) hx hb dX4_settleOne_5 (by decide) ?_
  refine sn_cS 2 hC hl (ct_X4_at l D _ [] i 0) gX4_settleOne_X4_at rfl (by decide +kernel) rfl ⟨Nat.le_of_ble_eq_true rfl, Nat.le_of_ble_eq_true rfl⟩ ⟨Nat.zero_le _, Nat.zero_le _⟩ (fun _ _ h => by simp at h) hK hN rfl (Nat.le_of_ble_eq_true rfl) dX4_settleOne_6 ?_
  refine sn_top (y := nI (7 + 5 * i)) (congrArg nI (show _ = 7 + 5 * i by omega)) ?_
  refine sn_ild (k := 7 + 5 * i) (v := f (7 + 5 * i)) 1 0 hx hb hK hP rfl rfl (by omega) (by decide) rfl (rfl) dX4_settleOne_9 ?_
  refine lv_aload_n hx hb dX4_settleOne_10 rfl (lv_at hl 0 rfl) ?_
  refine va_get (D := D) (ci := 3) (v := .ref (a 1)) (C := RX4) (T := TX4) (N := 6) hx hb hts huX4 hown hK hP 0 rfl rfl 0 (by decide) (hts (.fieldLink RX4 7 "SnowSlabsModel" "state" "[I") (by decide +kernel)) (fun _ h9 => h9) rfl dX4_settleOne_11 ?_
  refine lv_iload_n hx hb dX4_settleOne_14 rfl (lv_at hl 1 rfl) ?_
  refine lv_iconst (v := 1) hx hb dX4_settleOne_15 (by decide) ?_
  refine sn_cS 2 hC hl (ct_X4_at l D _ [] i 1) gX4_settleOne_X4_at rfl (by decide +kernel) rfl ⟨Nat.le_of_ble_eq_true rfl, Nat.le_of_ble_eq_true rfl⟩ ⟨Nat.zero_le _, Nat.zero_le _⟩ (fun _ _ h => by simp at h) hK hN rfl (Nat.le_of_ble_eq_true rfl) dX4_settleOne_16 ?_
  refine sn_top (y := nI (8 + 5 * i)) (congrArg nI (show _ = 8 + 5 * i by omega)) ?_
  refine sn_ild (k := 8 + 5 * i) (v := f (8 + 5 * i)) 1 0 hx hb hK hP rfl rfl (by omega) (by decide) rfl (rfl) dX4_settleOne_19 ?_
  refine lv_imul hx hb dX4_settleOne_20 ?_
  refine lv_istore_n (lv' := [(3, .int ((f (7 + 5 * i)) * (f (8 + 5 * i)))), (0, .ref (a 0)), (1, .int (nI i)), (2, .int x)]) hx hb dX4_settleOne_21 rfl hl (by decide) rfl (fun ls hl => ?_)
  refine lv_aload_n hx hb dX4_settleOne_22 rfl (lv_at hl 1 rfl) ?_
  refine va_get (D := D) (ci := 3) (v := .ref (a 1)) (C := RX4) (T := TX4) (N := 6) hx hb hts huX4 hown hK hP 0 rfl rfl 0 (by decide) (hts (.fieldLink RX4 7 "SnowSlabsModel" "state" "[I") (by decide +kernel)) (fun _ h9 => h9) rfl dX4_settleOne_23 ?_
  refine lv_iload_n hx hb dX4_settleOne_26 rfl (lv_at hl 2 rfl) ?_
  refine lv_iconst (v := 0) hx hb dX4_settleOne_27 (by decide) ?_
  refine sn_cS 2 hC hl (ct_X4_at l D _ [] i 0) gX4_settleOne_X4_at rfl (by decide +kernel) rfl ⟨Nat.le_of_ble_eq_true rfl, Nat.le_of_ble_eq_true rfl⟩ ⟨Nat.zero_le _, Nat.zero_le _⟩ (fun _ _ h => by simp at h) hK hN rfl (Nat.le_of_ble_eq_true rfl) dX4_settleOne_28 ?_
  refine sn_top (y := nI (7 + 5 * i)) (congrArg nI (show _ = 7 + 5 * i by omega)) ?_
  refine sn_ild (k := 7 + 5 * i) (v := f (7 + 5 * i)) 1 0 hx hb hK hP rfl rfl (by omega) (by decide) rfl (rfl) dX4_settleOne_31 ?_
  refine lv_bipush (v := 100) hx hb dX4_settleOne_32 (by decide) ?_
  refine lv_iload_n hx hb dX4_settleOne_34 rfl (lv_at hl 3 rfl) ?_
  refine lv_isub hx hb dX4_settleOne_35 ?_
  refine lv_imul hx hb dX4_settleOne_36 ?_
  refine lv_bipush (v := 100) hx hb dX4_settleOne_37 (by decide) ?_
  refine lv_idiv hx hb dX4_settleOne_39 (by decide) ?_
  refine lv_istore (lv' := [(4, .int (((f (7 + 5 * i)) * (100 - x)) / 100)), (3, .int ((f (7 + 5 * i)) * (f (8 + 5 * i)))), (0, .ref (a 0)), (1, .int (nI i)), (2, .int x)]) hx hb dX4_settleOne_40 hl (by decide) rfl (fun ls hl => ?_)
  refine lv_iload hx hb dX4_settleOne_42 (lv_at hl 0 rfl) ?_
  refine lv_iconst (v := 1) hx hb dX4_settleOne_44 (by decide) ?_
  refine lv_icmp_ge (tgt := 52) hx hb dX4_settleOne_45 (by decide) (fun c_1 => ?_) (fun c_1 => ?_)
  · refine lv_iload hx hb dX4_settleOne_52 (lv_at hl 0 rfl) ?_
    refine sn_top (y := sn_sT f i x) ((if_neg (Int32.not_lt.mpr c_1)).symm) ?_
    refine lv_istore (lv' := [(4, .int (sn_sT f i x)), (3, .int ((f (7 + 5 * i)) * (f (8 + 5 * i)))), (0, .ref (a 0)), (1, .int (nI i)), (2, .int x)]) hx hb dX4_settleOne_54 hl (by decide) rfl (fun ls hl => ?_)
    refine lv_iload_n hx hb dX4_settleOne_56 rfl (lv_at hl 1 rfl) ?_
    refine lv_iload hx hb dX4_settleOne_57 (lv_at hl 0 rfl) ?_
    refine lv_idiv hx hb dX4_settleOne_59 (sn_mx1_ne _) ?_
    refine lv_istore (lv' := [(5, .int (((f (7 + 5 * i)) * (f (8 + 5 * i))) / (sn_sT f i x))), (4, .int (sn_sT f i x)), (3, .int ((f (7 + 5 * i)) * (f (8 + 5 * i)))), (0, .ref (a 0)), (1, .int (nI i)), (2, .int x)]) hx hb dX4_settleOne_60 hl (by decide) rfl (fun ls hl => ?_)
    refine lv_aload_n hx hb dX4_settleOne_62 rfl (lv_at hl 3 rfl) ?_
    refine va_get (D := D) (ci := 3) (v := .ref (a 1)) (C := RX4) (T := TX4) (N := 6) hx hb hts huX4 hown hK hP 0 rfl rfl 0 (by decide) (hts (.fieldLink RX4 7 "SnowSlabsModel" "state" "[I") (by decide +kernel)) (fun _ h9 => h9) rfl dX4_settleOne_63 ?_
    refine lv_iload_n hx hb dX4_settleOne_66 rfl (lv_at hl 4 rfl) ?_
    refine lv_iconst (v := 0) hx hb dX4_settleOne_67 (by decide) ?_
    refine sn_cS 2 hC hl (ct_X4_at l D _ [] i 0) gX4_settleOne_X4_at rfl (by decide +kernel) rfl ⟨Nat.le_of_ble_eq_true rfl, Nat.le_of_ble_eq_true rfl⟩ ⟨Nat.zero_le _, Nat.zero_le _⟩ (fun _ _ h => by simp at h) hK hN rfl (Nat.le_of_ble_eq_true rfl) dX4_settleOne_68 ?_
    refine sn_top (y := nI (7 + 5 * i)) (congrArg nI (show _ = 7 + 5 * i by omega)) ?_
    refine lv_iload hx hb dX4_settleOne_71 (lv_at hl 1 rfl) ?_
    refine sn_ist (k := 7 + 5 * i) 1 0 hx hb hK hP hD hS rfl rfl (by omega) (by decide) rfl dX4_settleOne_73 (fun H locs hP hD hS => ?_)
    have hP : va_P D vwCl ([(a 0, .inr (3, [.ref (a 1), .ref (a 2), .ref (a 3), .ref (a 4), .ref (a 5), .int nb])), (a 1, .inl (cI, 57, .inl (upd f (7 + 5 * i) (sn_sT f i x)))), (a 2, .inl (cI, 114, .inl g)), (a 3, .inl (cZ, 2, .inl kp)), (a 4, .inl (cI, 30, .inl tp)), (a 5, .inl (cI, 30, .inl ly))]) H := hP
    have hD : va_D A ([(a 0, .inr (3, [.ref (a 1), .ref (a 2), .ref (a 3), .ref (a 4), .ref (a 5), .int nb])), (a 1, .inl (cI, 57, .inl (upd f (7 + 5 * i) (sn_sT f i x)))), (a 2, .inl (cI, 114, .inl g)), (a 3, .inl (cZ, 2, .inl kp)), (a 4, .inl (cI, 30, .inl tp)), (a 5, .inl (cI, 30, .inl ly))]) := hD
    refine lv_aload_n hx hb dX4_settleOne_74 rfl (lv_at hl 3 rfl) ?_
    refine va_get (D := D) (ci := 3) (v := .ref (a 1)) (C := RX4) (T := TX4) (N := 6) hx hb hts huX4 hown hK hP 0 rfl rfl 0 (by decide) (hts (.fieldLink RX4 7 "SnowSlabsModel" "state" "[I") (by decide +kernel)) (fun _ h9 => h9) rfl dX4_settleOne_75 ?_
    refine lv_iload_n hx hb dX4_settleOne_78 rfl (lv_at hl 4 rfl) ?_
    refine lv_iconst (v := 1) hx hb dX4_settleOne_79 (by decide) ?_
    refine sn_cS 2 hC hl (ct_X4_at l D _ [] i 1) gX4_settleOne_X4_at rfl (by decide +kernel) rfl ⟨Nat.le_of_ble_eq_true rfl, Nat.le_of_ble_eq_true rfl⟩ ⟨Nat.zero_le _, Nat.zero_le _⟩ (fun _ _ h => by simp at h) hK hN rfl (Nat.le_of_ble_eq_true rfl) dX4_settleOne_80 ?_
    refine sn_top (y := nI (8 + 5 * i)) (congrArg nI (show _ = 8 + 5 * i by omega)) ?_
    refine lv_iload hx hb dX4_settleOne_83 (lv_at hl 0 rfl) ?_
    refine lv_sipush (v := 600) hx hb dX4_settleOne_85 (by decide) ?_
    refine lv_icmp_le (tgt := 97) hx hb dX4_settleOne_88 (by decide) (fun c_2 => ?_) (fun c_2 => ?_)
    · refine lv_iload hx hb dX4_settleOne_97 (lv_at hl 0 rfl) ?_
      refine sn_top (y := sn_mn6 (f (7 + 5 * i) * f (8 + 5 * i) / sn_sT f i x)) ((if_neg (Int32.not_lt.mpr c_2)).symm) ?_
      refine sn_ist (k := 8 + 5 * i) 1 0 hx hb hK hP hD hS rfl rfl (by omega) (by decide) rfl dX4_settleOne_99 (fun H locs hP hD hS => ?_)
      have hP : va_P D vwCl ([(a 0, .inr (3, [.ref (a 1), .ref (a 2), .ref (a 3), .ref (a 4), .ref (a 5), .int nb])), (a 1, .inl (cI, 57, .inl (upd (upd f (7 + 5 * i) (sn_sT f i x)) (8 + 5 * i) (sn_mn6 (f (7 + 5 * i) * f (8 + 5 * i) / sn_sT f i x))))), (a 2, .inl (cI, 114, .inl g)), (a 3, .inl (cZ, 2, .inl kp)), (a 4, .inl (cI, 30, .inl tp)), (a 5, .inl (cI, 30, .inl ly))]) H := hP
      have hD : va_D A ([(a 0, .inr (3, [.ref (a 1), .ref (a 2), .ref (a 3), .ref (a 4), .ref (a 5), .int nb])), (a 1, .inl (cI, 57, .inl (upd (upd f (7 + 5 * i) (sn_sT f i x)) (8 + 5 * i) (sn_mn6 (f (7 + 5 * i) * f (8 + 5 * i) / sn_sT f i x))))), (a 2, .inl (cI, 114, .inl g)), (a 3, .inl (cZ, 2, .inl kp)), (a 4, .inl (cI, 30, .inl tp)), (a 5, .inl (cI, 30, .inl ly))]) := hD
      exact sn_vret (sn_s2 f i x) hx hb hr hlk dX4_settleOne_100 hP hD hS (rfl) (Nat.le_of_ble_eq_true rfl) (Nat.le_of_ble_eq_true rfl)
    · refine lv_sipush (v := 600) hx hb dX4_settleOne_91 (by decide) ?_
      refine lv_goto (tgt := 99) hx hb dX4_settleOne_94 (by decide) ?_
      refine sn_top (y := sn_mn6 (f (7 + 5 * i) * f (8 + 5 * i) / sn_sT f i x)) ((if_pos (Int32.not_le.mp c_2)).symm) ?_
      refine sn_ist (k := 8 + 5 * i) 1 0 hx hb hK hP hD hS rfl rfl (by omega) (by decide) rfl dX4_settleOne_99 (fun H locs hP hD hS => ?_)
      have hP : va_P D vwCl ([(a 0, .inr (3, [.ref (a 1), .ref (a 2), .ref (a 3), .ref (a 4), .ref (a 5), .int nb])), (a 1, .inl (cI, 57, .inl (upd (upd f (7 + 5 * i) (sn_sT f i x)) (8 + 5 * i) (sn_mn6 (f (7 + 5 * i) * f (8 + 5 * i) / sn_sT f i x))))), (a 2, .inl (cI, 114, .inl g)), (a 3, .inl (cZ, 2, .inl kp)), (a 4, .inl (cI, 30, .inl tp)), (a 5, .inl (cI, 30, .inl ly))]) H := hP
      have hD : va_D A ([(a 0, .inr (3, [.ref (a 1), .ref (a 2), .ref (a 3), .ref (a 4), .ref (a 5), .int nb])), (a 1, .inl (cI, 57, .inl (upd (upd f (7 + 5 * i) (sn_sT f i x)) (8 + 5 * i) (sn_mn6 (f (7 + 5 * i) * f (8 + 5 * i) / sn_sT f i x))))), (a 2, .inl (cI, 114, .inl g)), (a 3, .inl (cZ, 2, .inl kp)), (a 4, .inl (cI, 30, .inl tp)), (a 5, .inl (cI, 30, .inl ly))]) := hD
      exact sn_vret (sn_s2 f i x) hx hb hr hlk dX4_settleOne_100 hP hD hS (rfl) (Nat.le_of_ble_eq_true rfl) (Nat.le_of_ble_eq_true rfl)
  · refine lv_iconst (v := 1) hx hb dX4_settleOne_48 (by decide) ?_
    refine lv_goto (tgt := 54) hx hb dX4_settleOne_49 (by decide) ?_
    refine sn_top (y := sn_sT f i x) ((if_pos (Int32.not_le.mp c_1)).symm) ?_
    refine lv_istore (lv' := [(4, .int (sn_sT f i x)), (3, .int ((f (7 + 5 * i)) * (f (8 + 5 * i)))), (0, .ref (a 0)), (1, .int (nI i)), (2, .int x)]) hx hb dX4_settleOne_54 hl (by decide) rfl (fun ls hl => ?_)
    refine lv_iload_n hx hb dX4_settleOne_56 rfl (lv_at hl 1 rfl) ?_
    refine lv_iload hx hb dX4_settleOne_57 (lv_at hl 0 rfl) ?_
    refine lv_idiv hx hb dX4_settleOne_59 (sn_mx1_ne _) ?_
    refine lv_istore (lv' := [(5, .int (((f (7 + 5 * i)) * (f (8 + 5 * i))) / (sn_sT f i x))), (4, .int (sn_sT f i x)), (3, .int ((f (7 + 5 * i)) * (f (8 + 5 * i)))), (0, .ref (a 0)), (1, .int (nI i)), (2, .int x)]) hx hb dX4_settleOne_60 hl (by decide) rfl (fun ls hl => ?_)
    refine lv_aload_n hx hb dX4_settleOne_62 rfl (lv_at hl 3 rfl) ?_
    refine va_get (D := D) (ci := 3) (v := .ref (a 1)) (C := RX4) (T := TX4) (N := 6) hx hb hts huX4 hown hK hP 0 rfl rfl 0 (by decide) (hts (.fieldLink RX4 7 "SnowSlabsModel" "state" "[I") (by decide +kernel)) (fun _ h9 => h9) rfl dX4_settleOne_63 ?_
    refine lv_iload_n hx hb dX4_settleOne_66 rfl (lv_at hl 4 rfl) ?_
    refine lv_iconst (v := 0) hx hb dX4_settleOne_67 (by decide) ?_
    refine sn_cS 2 hC hl (ct_X4_at l D _ [] i 0) gX4_settleOne_X4_at rfl (by decide +kernel) rfl ⟨Nat.le_of_ble_eq_true rfl, Nat.le_of_ble_eq_true rfl⟩ ⟨Nat.zero_le _, Nat.zero_le _⟩ (fun _ _ h => by simp at h) hK hN rfl (Nat.le_of_ble_eq_true rfl) dX4_settleOne_68 ?_
    refine sn_top (y := nI (7 + 5 * i)) (congrArg nI (show _ = 7 + 5 * i by omega)) ?_
    refine lv_iload hx hb dX4_settleOne_71 (lv_at hl 1 rfl) ?_
    refine sn_ist (k := 7 + 5 * i) 1 0 hx hb hK hP hD hS rfl rfl (by omega) (by decide) rfl dX4_settleOne_73 (fun H locs hP hD hS => ?_)
    have hP : va_P D vwCl ([(a 0, .inr (3, [.ref (a 1), .ref (a 2), .ref (a 3), .ref (a 4), .ref (a 5), .int nb])), (a 1, .inl (cI, 57, .inl (upd f (7 + 5 * i) (sn_sT f i x)))), (a 2, .inl (cI, 114, .inl g)), (a 3, .inl (cZ, 2, .inl kp)), (a 4, .inl (cI, 30, .inl tp)), (a 5, .inl (cI, 30, .inl ly))]) H := hP
    have hD : va_D A ([(a 0, .inr (3, [.ref (a 1), .ref (a 2), .ref (a 3), .ref (a 4), .ref (a 5), .int nb])), (a 1, .inl (cI, 57, .inl (upd f (7 + 5 * i) (sn_sT f i x)))), (a 2, .inl (cI, 114, .inl g)), (a 3, .inl (cZ, 2, .inl kp)), (a 4, .inl (cI, 30, .inl tp)), (a 5, .inl (cI, 30, .inl ly))]) := hD
    refine lv_aload_n hx hb dX4_settleOne_74 rfl (lv_at hl 3 rfl) ?_
    refine va_get (D := D) (ci := 3) (v := .ref (a 1)) (C := RX4) (T := TX4) (N := 6) hx hb hts huX4 hown hK hP 0 rfl rfl 0 (by decide) (hts (.fieldLink RX4 7 "SnowSlabsModel" "state" "[I") (by decide +kernel)) (fun _ h9 => h9) rfl dX4_settleOne_75 ?_
    refine lv_iload_n hx hb dX4_settleOne_78 rfl (lv_at hl 4 rfl) ?_
    refine lv_iconst (v := 1) hx hb dX4_settleOne_79 (by decide) ?_
    refine sn_cS 2 hC hl (ct_X4_at l D _ [] i 1) gX4_settleOne_X4_at rfl (by decide +kernel) rfl ⟨Nat.le_of_ble_eq_true rfl, Nat.le_of_ble_eq_true rfl⟩ ⟨Nat.zero_le _, Nat.zero_le _⟩ (fun _ _ h => by simp at h) hK hN rfl (Nat.le_of_ble_eq_true rfl) dX4_settleOne_80 ?_
    refine sn_top (y := nI (8 + 5 * i)) (congrArg nI (show _ = 8 + 5 * i by omega)) ?_
    refine lv_iload hx hb dX4_settleOne_83 (lv_at hl 0 rfl) ?_
    refine lv_sipush (v := 600) hx hb dX4_settleOne_85 (by decide) ?_
    refine lv_icmp_le (tgt := 97) hx hb dX4_settleOne_88 (by decide) (fun c_3 => ?_) (fun c_3 => ?_)
    · refine lv_iload hx hb dX4_settleOne_97 (lv_at hl 0 rfl) ?_
      refine sn_top (y := sn_mn6 (f (7 + 5 * i) * f (8 + 5 * i) / sn_sT f i x)) ((if_neg (Int32.not_lt.mpr c_3)).symm) ?_
      refine sn_ist (k := 8 + 5 * i) 1 0 hx hb hK hP hD hS rfl rfl (by omega) (by decide) rfl dX4_settleOne_99 (fun H locs hP hD hS => ?_)
      have hP : va_P D vwCl ([(a 0, .inr (3, [.ref (a 1), .ref (a 2), .ref (a 3), .ref (a 4), .ref (a 5), .int nb])), (a 1, .inl (cI, 57, .inl (upd (upd f (7 + 5 * i) (sn_sT f i x)) (8 + 5 * i) (sn_mn6 (f (7 + 5 * i) * f (8 + 5 * i) / sn_sT f i x))))), (a 2, .inl (cI, 114, .inl g)), (a 3, .inl (cZ, 2, .inl kp)), (a 4, .inl (cI, 30, .inl tp)), (a 5, .inl (cI, 30, .inl ly))]) H := hP
      have hD : va_D A ([(a 0, .inr (3, [.ref (a 1), .ref (a 2), .ref (a 3), .ref (a 4), .ref (a 5), .int nb])), (a 1, .inl (cI, 57, .inl (upd (upd f (7 + 5 * i) (sn_sT f i x)) (8 + 5 * i) (sn_mn6 (f (7 + 5 * i) * f (8 + 5 * i) / sn_sT f i x))))), (a 2, .inl (cI, 114, .inl g)), (a 3, .inl (cZ, 2, .inl kp)), (a 4, .inl (cI, 30, .inl tp)), (a 5, .inl (cI, 30, .inl ly))]) := hD
      exact sn_vret (sn_s2 f i x) hx hb hr hlk dX4_settleOne_100 hP hD hS (rfl) (Nat.le_of_ble_eq_true rfl) (Nat.le_of_ble_eq_true rfl)
    · refine lv_sipush (v := 600) hx hb dX4_settleOne_91 (by decide) ?_
      refine lv_goto (tgt := 99) hx hb dX4_settleOne_94 (by decide) ?_
      refine sn_top (y := sn_mn6 (f (7 + 5 * i) * f (8 + 5 * i) / sn_sT f i x)) ((if_pos (Int32.not_le.mp c_3)).symm) ?_
      refine sn_ist (k := 8 + 5 * i) 1 0 hx hb hK hP hD hS rfl rfl (by omega) (by decide) rfl dX4_settleOne_99 (fun H locs hP hD hS => ?_)
      have hP : va_P D vwCl ([(a 0, .inr (3, [.ref (a 1), .ref (a 2), .ref (a 3), .ref (a 4), .ref (a 5), .int nb])), (a 1, .inl (cI, 57, .inl (upd (upd f (7 + 5 * i) (sn_sT f i x)) (8 + 5 * i) (sn_mn6 (f (7 + 5 * i) * f (8 + 5 * i) / sn_sT f i x))))), (a 2, .inl (cI, 114, .inl g)), (a 3, .inl (cZ, 2, .inl kp)), (a 4, .inl (cI, 30, .inl tp)), (a 5, .inl (cI, 30, .inl ly))]) H := hP
      have hD : va_D A ([(a 0, .inr (3, [.ref (a 1), .ref (a 2), .ref (a 3), .ref (a 4), .ref (a 5), .int nb])), (a 1, .inl (cI, 57, .inl (upd (upd f (7 + 5 * i) (sn_sT f i x)) (8 + 5 * i) (sn_mn6 (f (7 + 5 * i) * f (8 + 5 * i) / sn_sT f i x))))), (a 2, .inl (cI, 114, .inl g)), (a 3, .inl (cZ, 2, .inl kp)), (a 4, .inl (cI, 30, .inl tp)), (a 5, .inl (cI, 30, .inl ly))]) := hD
      exact sn_vret (sn_s2 f i x) hx hb hr hlk dX4_settleOne_100 hP hD hS (rfl) (Nat.le_of_ble_eq_true rfl) (Nat.le_of_ble_eq_true rfl)
set_option maxRecDepth 100000 in
set_option maxHeartbeats 4000000 in
theorem ct_X4_settle (l : Launch) (D : va_G) (cI cZ cR : ClassId) (a : Nat → Nat) (f g kp tp ly : Nat → Int32) (nb : Int32) (n : Nat) (hI : sn_I f n) (x : Int32) (sz : Nat) : sn_Up l yX4_settle wsX4_settle 3 0 0 [.ref (a 0), .int x] D (sn_ty cI cZ cR) (sn_wM cI cZ a f g kp tp ly nb) sz (fun u_ : Nat → Int32 => u_ = sn_Fset f n x) (fun u_ => sn_Rset f n x) (fun u_ => sn_wM cI cZ a u_ g kp tp ly nb) := by
  refine sn_up (cc := cX4_settle) (maxL := 3) (ret := (some .int)) (by decide) rfl (Nat.le_of_ble_eq_true rfl) ?_
  intro p e s m below meth c A hx hb hml hr hlk hts hown hA hF0 hK hN H locs hP hD hS ls hl
  have hC : CallFix p m c cX4_settle 3 s [.ref (a 0), .int x].toArray wsX4_settle RX4 := ⟨hx, hb, hml, hown, hts⟩
  have hl : lv_has ls 3 [(0, .ref (a 0)), (1, .int x)] := hl
  have huX4 : ∀ w ∈ wsX40, w ∈ wsX4_settle := by decide +kernel
  have hn10 := hI.2.1
  refine lv_iload_n hx hb dX4_settle_0 rfl (lv_at hl 1 rfl) ?_
  refine lv_iconst (v := 1) hx hb dX4_settle_1 (by decide) ?_
  refine lv_bipush (v := 50) hx hb dX4_settle_2 (by decide) ?_
  refine sn_cS 3 hC hl (ct_X4_in l D _ [] x 1 50) gX4_settle_X4_in rfl (by decide +kernel) rfl ⟨Nat.le_of_ble_eq_true rfl, Nat.le_of_ble_eq_true rfl⟩ ⟨Nat.zero_le _, Nat.zero_le _⟩ (fun _ _ h => by simp at h) hK hN rfl (Nat.le_of_ble_eq_true rfl) dX4_settle_4 ?_
  refine lv_if_ne (tgt := 13) hx hb dX4_settle_7 (by decide) (fun c_1 => ?_) (fun c_1 => ?_)
  · have c_1 : 1 ≤ x ∧ x ≤ 50 := sn_b_nz.mp c_1
    refine lv_aload_n hx hb dX4_settle_13 rfl (lv_at hl 0 rfl) ?_
    refine va_get (D := D) (ci := 3) (v := .ref (a 1)) (C := RX4) (T := TX4) (N := 6) hx hb hts huX4 hown hK hP 0 rfl rfl 0 (by decide) (hts (.fieldLink RX4 7 "SnowSlabsModel" "state" "[I") (by decide +kernel)) (fun _ h9 => h9) rfl dX4_settle_14 ?_
    refine lv_iconst (v := 0) hx hb dX4_settle_17 (by decide) ?_
    refine sn_ild (k := 0) (v := f 0) 1 0 hx hb hK hP rfl rfl (by omega) (by decide) rfl (rfl) dX4_settle_18 ?_
    refine sn_top (hI.1) ?_
    refine lv_if_ne (tgt := 25) hx hb dX4_settle_19 (by decide) (fun c_2 => ?_) (fun c_2 => ?_)
    · have c_2 := (sn_cnej (a := n) (b := 0) rfl rfl (by omega) (by omega)).mp c_2
      refine lv_iconst (v := 0) hx hb dX4_settle_25 (by decide) ?_
      refine lv_istore_n (lv' := [(2, .int 0), (0, .ref (a 0)), (1, .int x)]) hx hb dX4_settle_26 rfl hl (by decide) rfl (fun ls hl => ?_)
      have loop : ∀ (fu : Nat) (k : Nat), (k ≤ n) → n - k < fu → ∀ (H : Heap) (locs : List Loc), va_P D vwCl ([(a 0, .inr (3, [.ref (a 1), .ref (a 2), .ref (a 3), .ref (a 4), .ref (a 5), .int nb])), (a 1, .inl (cI, 57, .inl (sn_seF f x k))), (a 2, .inl (cI, 114, .inl g)), (a 3, .inl (cZ, 2, .inl kp)), (a 4, .inl (cI, 30, .inl tp)), (a 5, .inl (cI, 30, .inl ly))]) H → va_D A ([(a 0, .inr (3, [.ref (a 1), .ref (a 2), .ref (a 3), .ref (a 4), .ref (a 5), .int nb])), (a 1, .inl (cI, 57, .inl (sn_seF f x k))), (a 2, .inl (cI, 114, .inl g)), (a 3, .inl (cZ, 2, .inl kp)), (a 4, .inl (cI, 30, .inl tp)), (a 5, .inl (cI, 30, .inl ly))]) → va_S A s.heap H locs → ∀ ls : Array Slot, lv_has ls 3 [(0, .ref (a 0)), (1, .int x), (2, .int (nI k))] → W p l e (sn_rm 3 0 0) s m [.ref (a 0), .int x].toArray below meth c H locs 0 0 (MQ below (va_Qi (fun r_ (u_ : Nat → Int32) => r_ = sn_Rset f n x ∧ u_ = sn_Fset f n x) (fun u_ t_ => va_P D vwCl (sn_wM cI cZ a u_ g kp tp ly nb) t_.heap ∧ va_D A (sn_wM cI cZ a u_ g kp tp ly nb)) A) [.ref (a 0), .int x].toArray s 0 0 A) (F0 m 27 ls []) := by
        intro fu
        induction fu with
        | zero => intro k h1 hm; exact absurd hm (Nat.not_lt_zero _)
        | succ fu ih_loop =>
          intro k h1 hm H locs hP hD hS ls hl
          refine lv_iload_n hx hb dX4_settle_27 rfl (lv_at hl 2 rfl) ?_
          refine lv_aload_n hx hb dX4_settle_28 rfl (lv_at hl 0 rfl) ?_
          refine va_get (D := D) (ci := 3) (v := .ref (a 1)) (C := RX4) (T := TX4) (N := 6) hx hb hts huX4 hown hK hP 0 rfl rfl 0 (by decide) (hts (.fieldLink RX4 7 "SnowSlabsModel" "state" "[I") (by decide +kernel)) (fun _ h9 => h9) rfl dX4_settle_29 ?_
          refine lv_iconst (v := 0) hx hb dX4_settle_32 (by decide) ?_
          refine sn_ild (k := 0) (v := (sn_seF f x k) 0) 1 0 hx hb hK hP rfl rfl (by omega) (by decide) rfl (rfl) dX4_settle_33 ?_
          refine sn_top ((sn_seF_0 f x k).trans hI.1) ?_
          refine lv_icmp_ge (tgt := 63) hx hb dX4_settle_34 (by decide) (fun c_3 => ?_) (fun c_3 => ?_)
          · have c_3 := (sn_cgej (a := k) (b := n) rfl rfl (by omega) (by omega)).mp c_3
            refine lv_aload_n hx hb dX4_settle_63 rfl (lv_at hl 0 rfl) ?_
            refine sn_cV 0 0 hC hl (ct_X4_allThick l D cI cZ cR a (sn_seF f x k) g kp tp ly nb n (sn_I_se hI c_1 k (by omega)) ) gX4_settle_X4_allThick rfl (by decide +kernel) rfl ⟨Nat.le_of_ble_eq_true rfl, Nat.le_of_ble_eq_true rfl⟩ ⟨Nat.zero_le _, Nat.zero_le _⟩ hP hK hN rfl rfl rfl (Nat.le_of_ble_eq_true rfl) dX4_settle_64 ?_
            exact sn_uret (sn_seF f x k) hx hb hr hlk dX4_settle_67 hP hD hS (((if_pos c_1).trans ((if_neg c_2).trans (by rw [show k = n by omega]))).symm) (((if_pos c_1).trans ((if_neg c_2).trans (by rw [show k = n by omega]))).symm) (Nat.le_of_ble_eq_true rfl) (Nat.le_of_ble_eq_true rfl)
          · have c_3 := (sn_cgef (a := k) (b := n) rfl rfl (by omega) (by omega)).mp c_3
            refine lv_aload_n hx hb dX4_settle_37 rfl (lv_at hl 0 rfl) ?_
            refine va_get (D := D) (ci := 3) (v := .ref (a 1)) (C := RX4) (T := TX4) (N := 6) hx hb hts huX4 hown hK hP 0 rfl rfl 0 (by decide) (hts (.fieldLink RX4 7 "SnowSlabsModel" "state" "[I") (by decide +kernel)) (fun _ h9 => h9) rfl dX4_settle_38 ?_
            refine lv_iload_n hx hb dX4_settle_41 rfl (lv_at hl 2 rfl) ?_
            refine lv_iconst (v := 2) hx hb dX4_settle_42 (by decide) ?_
            refine sn_cS 2 hC hl (ct_X4_at l D _ [] k 2) gX4_settle_X4_at rfl (by decide +kernel) rfl ⟨Nat.le_of_ble_eq_true rfl, Nat.le_of_ble_eq_true rfl⟩ ⟨Nat.zero_le _, Nat.zero_le _⟩ (fun _ _ h => by simp at h) hK hN rfl (Nat.le_of_ble_eq_true rfl) dX4_settle_43 ?_
            refine sn_top (y := nI (9 + 5 * k)) (congrArg nI (show _ = 9 + 5 * k by omega)) ?_
            refine sn_ild (k := 9 + 5 * k) (v := (sn_seF f x k) (9 + 5 * k)) 1 0 hx hb hK hP rfl rfl (by omega) (by decide) rfl (rfl) dX4_settle_46 ?_
            refine lv_iconst (v := 4) hx hb dX4_settle_47 (by decide) ?_
            refine lv_icmp_eq (tgt := 57) hx hb dX4_settle_48 (by decide) (fun c_4 => ?_) (fun c_4 => ?_)
            · refine lv_iinc (v := nI (k + 1)) (lv' := [(2, .int (nI (k + 1))), (0, .ref (a 0)), (1, .int x)]) hx hb dX4_settle_57 hl (k := 2) rfl (sn_inc _) (by decide) rfl (fun ls hl => ?_)
              refine lv_goto (tgt := 27) hx hb dX4_settle_60 (by decide) ?_
              have hE : sn_eW ([(a 0, .inr (3, [.ref (a 1), .ref (a 2), .ref (a 3), .ref (a 4), .ref (a 5), .int nb])), (a 1, .inl (cI, 57, .inl (sn_seF f x k))), (a 2, .inl (cI, 114, .inl g)), (a 3, .inl (cZ, 2, .inl kp)), (a 4, .inl (cI, 30, .inl tp)), (a 5, .inl (cI, 30, .inl ly))]) ([(a 0, .inr (3, [.ref (a 1), .ref (a 2), .ref (a 3), .ref (a 4), .ref (a 5), .int nb])), (a 1, .inl (cI, 57, .inl (sn_seF f x (k + 1)))), (a 2, .inl (cI, 114, .inl g)), (a 3, .inl (cZ, 2, .inl kp)), (a 4, .inl (cI, 30, .inl tp)), (a 5, .inl (cI, 30, .inl ly))]) := (by rw [show sn_seF f x (k + 1) = sn_seF f x k from if_pos c_4]; exact sn_eS _)
              exact ih_loop (k + 1) (by omega) (by omega) _ _ (hE.P hP) (hE.D hD) hS ls (lv_sub hl [1, 2, 0] rfl)
            · refine lv_aload_n hx hb dX4_settle_51 rfl (lv_at hl 0 rfl) ?_
              refine lv_iload_n hx hb dX4_settle_52 rfl (lv_at hl 2 rfl) ?_
              refine lv_iload_n hx hb dX4_settle_53 rfl (lv_at hl 1 rfl) ?_
              refine sn_vV (w0 := []) (w := sn_wM cI cZ a (sn_seF f x k) g kp tp ly nb) (wr := []) 2 0 hC hl (ct_X4_settleOne l D cI cZ cR a (sn_seF f x k) g kp tp ly nb k (by omega) x _) gX4_settle_X4_settleOne rfl (by decide +kernel) rfl ⟨Nat.le_of_ble_eq_true rfl, Nat.le_of_ble_eq_true rfl⟩ ⟨Nat.le_of_ble_eq_true rfl, Nat.le_of_ble_eq_true rfl⟩ hP hD hS hA hF0 hK hN rfl rfl rfl (Nat.le_of_ble_eq_true rfl) dX4_settle_54 (fun u_5 H locs hu_5 hP hD hS => ?_)
              subst hu_5
              have hP : va_P D vwCl ([(a 0, .inr (3, [.ref (a 1), .ref (a 2), .ref (a 3), .ref (a 4), .ref (a 5), .int nb])), (a 1, .inl (cI, 57, .inl (sn_s2 (sn_seF f x k) k x))), (a 2, .inl (cI, 114, .inl g)), (a 3, .inl (cZ, 2, .inl kp)), (a 4, .inl (cI, 30, .inl tp)), (a 5, .inl (cI, 30, .inl ly))]) H := hP
              have hD : va_D A ([(a 0, .inr (3, [.ref (a 1), .ref (a 2), .ref (a 3), .ref (a 4), .ref (a 5), .int nb])), (a 1, .inl (cI, 57, .inl (sn_s2 (sn_seF f x k) k x))), (a 2, .inl (cI, 114, .inl g)), (a 3, .inl (cZ, 2, .inl kp)), (a 4, .inl (cI, 30, .inl tp)), (a 5, .inl (cI, 30, .inl ly))]) := hD
              refine lv_iinc (v := nI (k + 1)) (lv' := [(2, .int (nI (k + 1))), (0, .ref (a 0)), (1, .int x)]) hx hb dX4_settle_57 hl (k := 2) rfl (sn_inc _) (by decide) rfl (fun ls hl => ?_)
              refine lv_goto (tgt := 27) hx hb dX4_settle_60 (by decide) ?_
              have hE : sn_eW ([(a 0, .inr (3, [.ref (a 1), .ref (a 2), .ref (a 3), .ref (a 4), .ref (a 5), .int nb])), (a 1, .inl (cI, 57, .inl (sn_s2 (sn_seF f x k) k x))), (a 2, .inl (cI, 114, .inl g)), (a 3, .inl (cZ, 2, .inl kp)), (a 4, .inl (cI, 30, .inl tp)), (a 5, .inl (cI, 30, .inl ly))]) ([(a 0, .inr (3, [.ref (a 1), .ref (a 2), .ref (a 3), .ref (a 4), .ref (a 5), .int nb])), (a 1, .inl (cI, 57, .inl (sn_seF f x (k + 1)))), (a 2, .inl (cI, 114, .inl g)), (a 3, .inl (cZ, 2, .inl kp)), (a 4, .inl (cI, 30, .inl tp)), (a 5, .inl (cI, 30, .inl ly))]) := (by rw [show sn_seF f x (k + 1) = sn_s2 (sn_seF f x k) k x from if_neg c_4]; exact sn_eS _)
              exact ih_loop (k + 1) (by omega) (by omega) _ _ (hE.P hP) (hE.D hD) hS ls (lv_sub hl [1, 2, 0] rfl)
      exact loop ((n - 0) + 1) 0 (Nat.zero_le _) (by omega) _ _ hP hD hS ls (lv_sub hl [1, 2, 0] rfl)
    · have c_2 := (sn_cnef (a := n) (b := 0) rfl rfl (by omega) (by omega)).mp c_2
      refine lv_bipush (v := (-3)) hx hb dX4_settle_22 (by decide) ?_
      exact sn_uret (f) hx hb hr hlk dX4_settle_24 hP hD hS (((if_pos c_1).trans (if_pos c_2)).symm) (((if_pos c_1).trans (if_pos c_2)).symm) (Nat.le_of_ble_eq_true rfl) (Nat.le_of_ble_eq_true rfl)
  · have c_1 : ¬ (1 ≤ x ∧ x ≤ 50) := sn_b_z.mp c_1
    refine lv_bipush (v := (-2)) hx hb dX4_settle_10 (by decide) ?_
    exact sn_uret (f) hx hb hr hlk dX4_settle_12 hP hD hS ((if_neg c_1).symm) ((if_neg c_1).symm) (Nat.le_of_ble_eq_true rfl) (Nat.le_of_ble_eq_true rfl)
set_option maxRecDepth 100000 in
set_option maxHeartbeats 4000000 in
theorem ct_X4_freeze (l : Launch) (D : va_G) (cI cZ cR : ClassId) (a : Nat → Nat) (f g kp tp ly : Nat → Int32) (nb : Int32) (n : Nat) (hI : sn_I f n) (sz : Nat) : sn_Up l yX4_freeze wsX4_freeze 1 0 0 [.ref (a 0)] D (sn_ty cI cZ cR) (sn_wM cI cZ a f g kp tp ly nb) sz (fun u_ : Nat → Int32 => u_ = sn_frF f n) (fun u_ => nI (sn_frC f n)) (fun u_ => sn_wM cI cZ a u_ g kp tp ly nb) := by
  refine sn_up (cc := cX4_freeze) (maxL := 3) (ret := (some .int)) (by decide) rfl (Nat.le_of_ble_eq_true rfl) ?_
  intro p e s m below meth c A hx hb hml hr hlk hts hown hA hF0 hK hN H locs hP hD hS ls hl
  have hC : CallFix p m c cX4_freeze 3 s [.ref (a 0)].toArray wsX4_freeze RX4 := ⟨hx, hb, hml, hown, hts⟩
  have hl : lv_has ls 3 [(0, .ref (a 0))] := hl
  have huX4 : ∀ w ∈ wsX40, w ∈ wsX4_freeze := by decide +kernel
  have hn10 := hI.2.1
  refine lv_iconst (v := 0) hx hb dX4_freeze_0 (by decide) ?_
  refine lv_istore_n (lv' := [(1, .int 0), (0, .ref (a 0))]) hx hb dX4_freeze_1 rfl hl (by decide) rfl (fun ls hl => ?_)
  refine lv_iconst (v := 0) hx hb dX4_freeze_2 (by decide) ?_
  refine lv_istore_n (lv' := [(2, .int 0), (1, .int 0), (0, .ref (a 0))]) hx hb dX4_freeze_3 rfl hl (by decide) rfl (fun ls hl => ?_)
  have loop : ∀ (fu : Nat) (k : Nat), (k ≤ n) → n - k < fu → ∀ (H : Heap) (locs : List Loc), va_P D vwCl ([(a 0, .inr (3, [.ref (a 1), .ref (a 2), .ref (a 3), .ref (a 4), .ref (a 5), .int nb])), (a 1, .inl (cI, 57, .inl (sn_frF f k))), (a 2, .inl (cI, 114, .inl g)), (a 3, .inl (cZ, 2, .inl kp)), (a 4, .inl (cI, 30, .inl tp)), (a 5, .inl (cI, 30, .inl ly))]) H → va_D A ([(a 0, .inr (3, [.ref (a 1), .ref (a 2), .ref (a 3), .ref (a 4), .ref (a 5), .int nb])), (a 1, .inl (cI, 57, .inl (sn_frF f k))), (a 2, .inl (cI, 114, .inl g)), (a 3, .inl (cZ, 2, .inl kp)), (a 4, .inl (cI, 30, .inl tp)), (a 5, .inl (cI, 30, .inl ly))]) → va_S A s.heap H locs → ∀ ls : Array Slot, lv_has ls 3 [(0, .ref (a 0)), (1, .int (nI (sn_frC f k))), (2, .int (nI k))] → W p l e (sn_rm 1 0 0) s m [.ref (a 0)].toArray below meth c H locs 0 0 (MQ below (va_Qi (fun r_ (u_ : Nat → Int32) => r_ = nI (sn_frC f n) ∧ u_ = sn_frF f n) (fun u_ t_ => va_P D vwCl (sn_wM cI cZ a u_ g kp tp ly nb) t_.heap ∧ va_D A (sn_wM cI cZ a u_ g kp tp ly nb)) A) [.ref (a 0)].toArray s 0 0 A) (F0 m 4 ls []) := by
    intro fu
    induction fu with
    | zero => intro k h1 hm; exact absurd hm (Nat.not_lt_zero _)
    | succ fu ih_loop =>
      intro k h1 hm H locs hP hD hS ls hl
      refine lv_iload_n hx hb dX4_freeze_4 rfl (lv_at hl 2 rfl) ?_
      refine lv_aload_n hx hb dX4_freeze_5 rfl (lv_at hl 0 rfl) ?_
      refine va_get (D := D) (ci := 3) (v := .ref (a 1)) (C := RX4) (T := TX4) (N := 6) hx hb hts huX4 hown hK hP 0 rfl rfl 0 (by decide) (hts (.fieldLink RX4 7 "SnowSlabsModel" "state" "[I") (by decide +kernel)) (fun _ h9 => h9) rfl dX4_freeze_6 ?_
      refine lv_iconst (v := 0) hx hb dX4_freeze_9 (by decide) ?_
      refine sn_ild (k := 0) (v := (sn_frF f k) 0) 1 0 hx hb hK hP rfl rfl (by omega) (by decide) rfl (rfl) dX4_freeze_10 ?_
      refine sn_top ((sn_frF_0 f k).trans hI.1) ?_
      refine lv_icmp_ge (tgt := 70) hx hb dX4_freeze_11 (by decide) (fun c_1 => ?_) (fun c_1 => ?_)
      · have c_1 := (sn_cgej (a := k) (b := n) rfl rfl (by omega) (by omega)).mp c_1
        refine lv_iload_n hx hb dX4_freeze_70 rfl (lv_at hl 1 rfl) ?_
        exact sn_uret (sn_frF f k) hx hb hr hlk dX4_freeze_71 hP hD hS (by rw [show k = n by omega]) (by rw [show k = n by omega]) (Nat.le_of_ble_eq_true rfl) (Nat.le_of_ble_eq_true rfl)
      · have c_1 := (sn_cgef (a := k) (b := n) rfl rfl (by omega) (by omega)).mp c_1
        refine lv_aload_n hx hb dX4_freeze_14 rfl (lv_at hl 0 rfl) ?_
        refine va_get (D := D) (ci := 3) (v := .ref (a 1)) (C := RX4) (T := TX4) (N := 6) hx hb hts huX4 hown hK hP 0 rfl rfl 0 (by decide) (hts (.fieldLink RX4 7 "SnowSlabsModel" "state" "[I") (by decide +kernel)) (fun _ h9 => h9) rfl dX4_freeze_15 ?_
        refine lv_iload_n hx hb dX4_freeze_18 rfl (lv_at hl 2 rfl) ?_
        refine lv_iconst (v := 4) hx hb dX4_freeze_19 (by decide) ?_
        refine sn_cS 2 hC hl (ct_X4_at l D _ [] k 4) gX4_freeze_X4_at rfl (by decide +kernel) rfl ⟨Nat.le_of_ble_eq_true rfl, Nat.le_of_ble_eq_true rfl⟩ ⟨Nat.zero_le _, Nat.zero_le _⟩ (fun _ _ h => by simp at h) hK hN rfl (Nat.le_of_ble_eq_true rfl) dX4_freeze_20 ?_
        refine sn_top (y := nI (11 + 5 * k)) (congrArg nI (show _ = 11 + 5 * k by omega)) ?_
        refine sn_ild (k := 11 + 5 * k) (v := (sn_frF f k) (11 + 5 * k)) 1 0 hx hb hK hP rfl rfl (by omega) (by decide) rfl (rfl) dX4_freeze_23 ?_
        refine lv_iconst (v := 1) hx hb dX4_freeze_24 (by decide) ?_
        refine lv_icmp_ne (tgt := 64) hx hb dX4_freeze_25 (by decide) (fun c_2 => ?_) (fun c_2 => ?_)
        · have c_2 := ((sn_I_fr hI k (by omega)).2.2.2 k (by omega)).2.2.2.2.resolve_right c_2
          refine lv_iinc (v := nI (k + 1)) (lv' := [(2, .int (nI (k + 1))), (0, .ref (a 0)), (1, .int (nI (sn_frC f k)))]) hx hb dX4_freeze_64 hl (k := 2) rfl (sn_inc _) (by decide) rfl (fun ls hl => ?_)
          refine lv_goto (tgt := 4) hx hb dX4_freeze_67 (by decide) ?_
          have hv : sn_frC f k = sn_frC f (k + 1) := by show _ = sn_frC f k + _; rw [if_pos c_2, Nat.add_zero]
          rw [hv] at hl
          have hE : sn_eW ([(a 0, .inr (3, [.ref (a 1), .ref (a 2), .ref (a 3), .ref (a 4), .ref (a 5), .int nb])), (a 1, .inl (cI, 57, .inl (sn_frF f k))), (a 2, .inl (cI, 114, .inl g)), (a 3, .inl (cZ, 2, .inl kp)), (a 4, .inl (cI, 30, .inl tp)), (a 5, .inl (cI, 30, .inl ly))]) ([(a 0, .inr (3, [.ref (a 1), .ref (a 2), .ref (a 3), .ref (a 4), .ref (a 5), .int nb])), (a 1, .inl (cI, 57, .inl (sn_frF f (k + 1)))), (a 2, .inl (cI, 114, .inl g)), (a 3, .inl (cZ, 2, .inl kp)), (a 4, .inl (cI, 30, .inl tp)), (a 5, .inl (cI, 30, .inl ly))]) := (by rw [show sn_frF f (k + 1) = sn_frF f k from if_pos c_2]; exact sn_eS _)
          exact ih_loop (k + 1) (by omega) (by omega) _ _ (hE.P hP) (hE.D hD) hS ls (lv_sub hl [1, 2, 0] rfl)
        · have c_2 : ¬ sn_frF f k (11 + 5 * k) = 0 := by rw [c_2]; decide
          refine lv_aload_n hx hb dX4_freeze_28 rfl (lv_at hl 0 rfl) ?_
          refine va_get (D := D) (ci := 3) (v := .ref (a 1)) (C := RX4) (T := TX4) (N := 6) hx hb hts huX4 hown hK hP 0 rfl rfl 0 (by decide) (hts (.fieldLink RX4 7 "SnowSlabsModel" "state" "[I") (by decide +kernel)) (fun _ h9 => h9) rfl dX4_freeze_29 ?_
          refine lv_iload_n hx hb dX4_freeze_32 rfl (lv_at hl 2 rfl) ?_
          refine lv_iconst (v := 2) hx hb dX4_freeze_33 (by decide) ?_
          refine sn_cS 2 hC hl (ct_X4_at l D _ [] k 2) gX4_freeze_X4_at rfl (by decide +kernel) rfl ⟨Nat.le_of_ble_eq_true rfl, Nat.le_of_ble_eq_true rfl⟩ ⟨Nat.zero_le _, Nat.zero_le _⟩ (fun _ _ h => by simp at h) hK hN rfl (Nat.le_of_ble_eq_true rfl) dX4_freeze_34 ?_
          refine sn_top (y := nI (9 + 5 * k)) (congrArg nI (show _ = 9 + 5 * k by omega)) ?_
          refine lv_iconst (v := 4) hx hb dX4_freeze_37 (by decide) ?_
          refine sn_ist (k := 9 + 5 * k) 1 0 hx hb hK hP hD hS rfl rfl (by omega) (by decide) rfl dX4_freeze_38 (fun H locs hP hD hS => ?_)
          have hP : va_P D vwCl ([(a 0, .inr (3, [.ref (a 1), .ref (a 2), .ref (a 3), .ref (a 4), .ref (a 5), .int nb])), (a 1, .inl (cI, 57, .inl (upd (sn_frF f k) (9 + 5 * k) 4))), (a 2, .inl (cI, 114, .inl g)), (a 3, .inl (cZ, 2, .inl kp)), (a 4, .inl (cI, 30, .inl tp)), (a 5, .inl (cI, 30, .inl ly))]) H := hP
          have hD : va_D A ([(a 0, .inr (3, [.ref (a 1), .ref (a 2), .ref (a 3), .ref (a 4), .ref (a 5), .int nb])), (a 1, .inl (cI, 57, .inl (upd (sn_frF f k) (9 + 5 * k) 4))), (a 2, .inl (cI, 114, .inl g)), (a 3, .inl (cZ, 2, .inl kp)), (a 4, .inl (cI, 30, .inl tp)), (a 5, .inl (cI, 30, .inl ly))]) := hD
          refine lv_aload_n hx hb dX4_freeze_39 rfl (lv_at hl 0 rfl) ?_
          refine va_get (D := D) (ci := 3) (v := .ref (a 1)) (C := RX4) (T := TX4) (N := 6) hx hb hts huX4 hown hK hP 0 rfl rfl 0 (by decide) (hts (.fieldLink RX4 7 "SnowSlabsModel" "state" "[I") (by decide +kernel)) (fun _ h9 => h9) rfl dX4_freeze_40 ?_
          refine lv_iload_n hx hb dX4_freeze_43 rfl (lv_at hl 2 rfl) ?_
          refine lv_iconst (v := 3) hx hb dX4_freeze_44 (by decide) ?_
          refine sn_cS 2 hC hl (ct_X4_at l D _ [] k 3) gX4_freeze_X4_at rfl (by decide +kernel) rfl ⟨Nat.le_of_ble_eq_true rfl, Nat.le_of_ble_eq_true rfl⟩ ⟨Nat.zero_le _, Nat.zero_le _⟩ (fun _ _ h => by simp at h) hK hN rfl (Nat.le_of_ble_eq_true rfl) dX4_freeze_45 ?_
          refine sn_top (y := nI (10 + 5 * k)) (congrArg nI (show _ = 10 + 5 * k by omega)) ?_
          refine lv_iconst (v := 5) hx hb dX4_freeze_48 (by decide) ?_
          refine sn_ist (k := 10 + 5 * k) 1 0 hx hb hK hP hD hS rfl rfl (by omega) (by decide) rfl dX4_freeze_49 (fun H locs hP hD hS => ?_)
          have hP : va_P D vwCl ([(a 0, .inr (3, [.ref (a 1), .ref (a 2), .ref (a 3), .ref (a 4), .ref (a 5), .int nb])), (a 1, .inl (cI, 57, .inl (upd (upd (sn_frF f k) (9 + 5 * k) 4) (10 + 5 * k) 5))), (a 2, .inl (cI, 114, .inl g)), (a 3, .inl (cZ, 2, .inl kp)), (a 4, .inl (cI, 30, .inl tp)), (a 5, .inl (cI, 30, .inl ly))]) H := hP
          have hD : va_D A ([(a 0, .inr (3, [.ref (a 1), .ref (a 2), .ref (a 3), .ref (a 4), .ref (a 5), .int nb])), (a 1, .inl (cI, 57, .inl (upd (upd (sn_frF f k) (9 + 5 * k) 4) (10 + 5 * k) 5))), (a 2, .inl (cI, 114, .inl g)), (a 3, .inl (cZ, 2, .inl kp)), (a 4, .inl (cI, 30, .inl tp)), (a 5, .inl (cI, 30, .inl ly))]) := hD
          refine lv_aload_n hx hb dX4_freeze_50 rfl (lv_at hl 0 rfl) ?_
          refine va_get (D := D) (ci := 3) (v := .ref (a 1)) (C := RX4) (T := TX4) (N := 6) hx hb hts huX4 hown hK hP 0 rfl rfl 0 (by decide) (hts (.fieldLink RX4 7 "SnowSlabsModel" "state" "[I") (by decide +kernel)) (fun _ h9 => h9) rfl dX4_freeze_51 ?_
          refine lv_iload_n hx hb dX4_freeze_54 rfl (lv_at hl 2 rfl) ?_
          refine lv_iconst (v := 4) hx hb dX4_freeze_55 (by decide) ?_
          refine sn_cS 2 hC hl (ct_X4_at l D _ [] k 4) gX4_freeze_X4_at rfl (by decide +kernel) rfl ⟨Nat.le_of_ble_eq_true rfl, Nat.le_of_ble_eq_true rfl⟩ ⟨Nat.zero_le _, Nat.zero_le _⟩ (fun _ _ h => by simp at h) hK hN rfl (Nat.le_of_ble_eq_true rfl) dX4_freeze_56 ?_
          refine sn_top (y := nI (11 + 5 * k)) (congrArg nI (show _ = 11 + 5 * k by omega)) ?_
          refine lv_iconst (v := 0) hx hb dX4_freeze_59 (by decide) ?_
          refine sn_ist (k := 11 + 5 * k) 1 0 hx hb hK hP hD hS rfl rfl (by omega) (by decide) rfl dX4_freeze_60 (fun H locs hP hD hS => ?_)
          have hP : va_P D vwCl ([(a 0, .inr (3, [.ref (a 1), .ref (a 2), .ref (a 3), .ref (a 4), .ref (a 5), .int nb])), (a 1, .inl (cI, 57, .inl (upd (upd (upd (sn_frF f k) (9 + 5 * k) 4) (10 + 5 * k) 5) (11 + 5 * k) 0))), (a 2, .inl (cI, 114, .inl g)), (a 3, .inl (cZ, 2, .inl kp)), (a 4, .inl (cI, 30, .inl tp)), (a 5, .inl (cI, 30, .inl ly))]) H := hP
          have hD : va_D A ([(a 0, .inr (3, [.ref (a 1), .ref (a 2), .ref (a 3), .ref (a 4), .ref (a 5), .int nb])), (a 1, .inl (cI, 57, .inl (upd (upd (upd (sn_frF f k) (9 + 5 * k) 4) (10 + 5 * k) 5) (11 + 5 * k) 0))), (a 2, .inl (cI, 114, .inl g)), (a 3, .inl (cZ, 2, .inl kp)), (a 4, .inl (cI, 30, .inl tp)), (a 5, .inl (cI, 30, .inl ly))]) := hD
          refine lv_iinc (v := nI (sn_frC f k + 1)) (lv' := [(1, .int (nI (sn_frC f k + 1))), (0, .ref (a 0)), (2, .int (nI k))]) hx hb dX4_freeze_61 hl (k := 1) rfl (sn_inc _) (by decide) rfl (fun ls hl => ?_)
          refine lv_iinc (v := nI (k + 1)) (lv' := [(2, .int (nI (k + 1))), (1, .int (nI (sn_frC f k + 1))), (0, .ref (a 0))]) hx hb dX4_freeze_64 hl (k := 2) rfl (sn_inc _) (by decide) rfl (fun ls hl => ?_)
          refine lv_goto (tgt := 4) hx hb dX4_freeze_67 (by decide) ?_
          have hv : sn_frC f k + 1 = sn_frC f (k + 1) := by show _ = sn_frC f k + _; rw [if_neg c_2]
          rw [hv] at hl
          have hE : sn_eW ([(a 0, .inr (3, [.ref (a 1), .ref (a 2), .ref (a 3), .ref (a 4), .ref (a 5), .int nb])), (a 1, .inl (cI, 57, .inl (upd (upd (upd (sn_frF f k) (9 + 5 * k) 4) (10 + 5 * k) 5) (11 + 5 * k) 0))), (a 2, .inl (cI, 114, .inl g)), (a 3, .inl (cZ, 2, .inl kp)), (a 4, .inl (cI, 30, .inl tp)), (a 5, .inl (cI, 30, .inl ly))]) ([(a 0, .inr (3, [.ref (a 1), .ref (a 2), .ref (a 3), .ref (a 4), .ref (a 5), .int nb])), (a 1, .inl (cI, 57, .inl (sn_frF f (k + 1)))), (a 2, .inl (cI, 114, .inl g)), (a 3, .inl (cZ, 2, .inl kp)), (a 4, .inl (cI, 30, .inl tp)), (a 5, .inl (cI, 30, .inl ly))]) := (by rw [show sn_frF f (k + 1) = sn_f2 (sn_frF f k) k from if_neg c_2]; exact sn_eS _)
          exact ih_loop (k + 1) (by omega) (by omega) _ _ (hE.P hP) (hE.D hD) hS ls (lv_sub hl [2, 1, 0] rfl)
  exact loop ((n - 0) + 1) 0 (Nat.zero_le _) (by omega) _ _ hP hD hS ls (lv_sub hl [2, 1, 0] rfl)
set_option maxRecDepth 100000 in
set_option maxHeartbeats 4000000 in
theorem ct_X4_slide (l : Launch) (D : va_G) (cI cZ cR : ClassId) (a : Nat → Nat) (f g kp tp ly : Nat → Int32) (nb : Int32) (n : Nat) (hI : sn_I f n) (sz : Nat) : sn_Up l yX4_slide wsX4_slide 0 0 0 [.ref (a 0)] D (sn_ty cI cZ cR) (sn_wM cI cZ a f g kp tp ly nb) sz (fun u_ : Nat → Int32 => u_ = sn_Fslide f n) (fun u_ => sn_Rslide n) (fun u_ => sn_wM cI cZ a u_ g kp tp ly nb) := by
  refine sn_up (cc := cX4_slide) (maxL := 1) (ret := (some .int)) (by decide) rfl (Nat.le_of_ble_eq_true rfl) ?_
  intro p e s m below meth c A hx hb hml hr hlk hts hown hA hF0 hK hN H locs hP hD hS ls hl
  have hC : CallFix p m c cX4_slide 1 s [.ref (a 0)].toArray wsX4_slide RX4 := ⟨hx, hb, hml, hown, hts⟩
  have hl : lv_has ls 1 [(0, .ref (a 0))] := hl
  have huX4 : ∀ w ∈ wsX40, w ∈ wsX4_slide := by decide +kernel
  have hn10 := hI.2.1
  refine lv_aload_n hx hb dX4_slide_0 rfl (lv_at hl 0 rfl) ?_
  refine va_get (D := D) (ci := 3) (v := .ref (a 1)) (C := RX4) (T := TX4) (N := 6) hx hb hts huX4 hown hK hP 0 rfl rfl 0 (by decide) (hts (.fieldLink RX4 7 "SnowSlabsModel" "state" "[I") (by decide +kernel)) (fun _ h9 => h9) rfl dX4_slide_1 ?_
  refine lv_iconst (v := 0) hx hb dX4_slide_4 (by decide) ?_
  refine sn_ild (k := 0) (v := f 0) 1 0 hx hb hK hP rfl rfl (by omega) (by decide) rfl (rfl) dX4_slide_5 ?_
  refine sn_top (hI.1) ?_
  refine lv_if_ne (tgt := 12) hx hb dX4_slide_6 (by decide) (fun c_1 => ?_) (fun c_1 => ?_)
  · have c_1 := (sn_cnej (a := n) (b := 0) rfl rfl (by omega) (by omega)).mp c_1
    refine lv_aload_n hx hb dX4_slide_12 rfl (lv_at hl 0 rfl) ?_
    refine va_get (D := D) (ci := 3) (v := .ref (a 1)) (C := RX4) (T := TX4) (N := 6) hx hb hts huX4 hown hK hP 0 rfl rfl 0 (by decide) (hts (.fieldLink RX4 7 "SnowSlabsModel" "state" "[I") (by decide +kernel)) (fun _ h9 => h9) rfl dX4_slide_13 ?_
    refine lv_iconst (v := 0) hx hb dX4_slide_16 (by decide) ?_
    refine lv_dup2_11 hx hb dX4_slide_17 rfl rfl ?_
    refine sn_ild (k := 0) (v := f 0) 1 0 hx hb hK hP rfl rfl (by omega) (by decide) rfl (rfl) dX4_slide_18 ?_
    refine sn_top (hI.1) ?_
    refine lv_iconst (v := 1) hx hb dX4_slide_19 (by decide) ?_
    refine lv_isub hx hb dX4_slide_20 ?_
    refine sn_top (sn_nsub (a := n) (b := 1) rfl rfl (by omega)) ?_
    refine sn_ist (k := 0) 1 0 hx hb hK hP hD hS rfl rfl (by omega) (by decide) rfl dX4_slide_21 (fun H locs hP hD hS => ?_)
    have hP : va_P D vwCl ([(a 0, .inr (3, [.ref (a 1), .ref (a 2), .ref (a 3), .ref (a 4), .ref (a 5), .int nb])), (a 1, .inl (cI, 57, .inl (upd f 0 (nI (n - 1))))), (a 2, .inl (cI, 114, .inl g)), (a 3, .inl (cZ, 2, .inl kp)), (a 4, .inl (cI, 30, .inl tp)), (a 5, .inl (cI, 30, .inl ly))]) H := hP
    have hD : va_D A ([(a 0, .inr (3, [.ref (a 1), .ref (a 2), .ref (a 3), .ref (a 4), .ref (a 5), .int nb])), (a 1, .inl (cI, 57, .inl (upd f 0 (nI (n - 1))))), (a 2, .inl (cI, 114, .inl g)), (a 3, .inl (cZ, 2, .inl kp)), (a 4, .inl (cI, 30, .inl tp)), (a 5, .inl (cI, 30, .inl ly))]) := hD
    refine lv_aload_n hx hb dX4_slide_22 rfl (lv_at hl 0 rfl) ?_
    refine va_get (D := D) (ci := 3) (v := .ref (a 1)) (C := RX4) (T := TX4) (N := 6) hx hb hts huX4 hown hK hP 0 rfl rfl 0 (by decide) (hts (.fieldLink RX4 7 "SnowSlabsModel" "state" "[I") (by decide +kernel)) (fun _ h9 => h9) rfl dX4_slide_23 ?_
    refine lv_iconst (v := 0) hx hb dX4_slide_26 (by decide) ?_
    refine sn_ild (k := 0) (v := nI (n - 1)) 1 0 hx hb hK hP rfl rfl (by omega) (by decide) rfl (pk_us) dX4_slide_27 ?_
    exact sn_uret (upd f 0 (nI (n - 1))) hx hb hr hlk dX4_slide_28 hP hD hS ((if_neg c_1).symm) ((if_neg c_1).symm) (Nat.le_of_ble_eq_true rfl) (Nat.le_of_ble_eq_true rfl)
  · have c_1 := (sn_cnef (a := n) (b := 0) rfl rfl (by omega) (by omega)).mp c_1
    refine lv_bipush (v := (-3)) hx hb dX4_slide_9 (by decide) ?_
    exact sn_uret (f) hx hb hr hlk dX4_slide_11 hP hD hS ((if_pos c_1).symm) ((if_pos c_1).symm) (Nat.le_of_ble_eq_true rfl) (Nat.le_of_ble_eq_true rfl)
set_option maxRecDepth 100000 in
set_option maxHeartbeats 4000000 in
theorem ct_X4_melt (l : Launch) (D : va_G) (cI cZ cR : ClassId) (a : Nat → Nat) (f g kp tp ly : Nat → Int32) (nb : Int32) (n : Nat) (hI : sn_I f n) (x : Int32) (sz : Nat) : sn_Up l yX4_melt wsX4_melt 1 0 0 [.ref (a 0), .int x] D (sn_ty cI cZ cR) (sn_wM cI cZ a f g kp tp ly nb) sz (fun u_ : Nat → Int32 => u_ = sn_Fmelt f n x) (fun u_ => sn_Rmelt f n x) (fun u_ => sn_wM cI cZ a u_ g kp tp ly nb) := by
  refine sn_up (cc := cX4_melt) (maxL := 4) (ret := (some .int)) (by decide) rfl (Nat.le_of_ble_eq_true rfl) ?_
  intro p e s m below meth c A hx hb hml hr hlk hts hown hA hF0 hK hN H locs hP hD hS ls hl
  have hC : CallFix p m c cX4_melt 4 s [.ref (a 0), .int x].toArray wsX4_melt RX4 := ⟨hx, hb, hml, hown, hts⟩
  have hl : lv_has ls 4 [(0, .ref (a 0)), (1, .int x)] := hl
  have huX4 : ∀ w ∈ wsX40, w ∈ wsX4_melt := by decide +kernel
  have hn10 := hI.2.1
  refine lv_iload_n hx hb dX4_melt_0 rfl (lv_at hl 1 rfl) ?_
  refine lv_iconst (v := 1) hx hb dX4_melt_1 (by decide) ?_
  refine lv_sipush (v := 300) hx hb dX4_melt_2 (by decide) ?_
  refine sn_cS 3 hC hl (ct_X4_in l D _ [] x 1 300) gX4_melt_X4_in rfl (by decide +kernel) rfl ⟨Nat.le_of_ble_eq_true rfl, Nat.le_of_ble_eq_true rfl⟩ ⟨Nat.zero_le _, Nat.zero_le _⟩ (fun _ _ h => by simp at h) hK hN rfl (Nat.le_of_ble_eq_true rfl) dX4_melt_5 ?_
  refine lv_if_ne (tgt := 14) hx hb dX4_melt_8 (by decide) (fun c_1 => ?_) (fun c_1 => ?_)
  · have c_1 : 1 ≤ x ∧ x ≤ 300 := sn_b_nz.mp c_1
    refine lv_aload_n hx hb dX4_melt_14 rfl (lv_at hl 0 rfl) ?_
    refine va_get (D := D) (ci := 3) (v := .ref (a 1)) (C := RX4) (T := TX4) (N := 6) hx hb hts huX4 hown hK hP 0 rfl rfl 0 (by decide) (hts (.fieldLink RX4 7 "SnowSlabsModel" "state" "[I") (by decide +kernel)) (fun _ h9 => h9) rfl dX4_melt_15 ?_
    refine lv_iconst (v := 0) hx hb dX4_melt_18 (by decide) ?_
    refine sn_ild (k := 0) (v := f 0) 1 0 hx hb hK hP rfl rfl (by omega) (by decide) rfl (rfl) dX4_melt_19 ?_
    refine sn_top (hI.1) ?_
    refine lv_if_ne (tgt := 26) hx hb dX4_melt_20 (by decide) (fun c_2 => ?_) (fun c_2 => ?_)
    · have c_2 := (sn_cnej (a := n) (b := 0) rfl rfl (by omega) (by omega)).mp c_2
      refine lv_iload_n hx hb dX4_melt_26 rfl (lv_at hl 1 rfl) ?_
      refine lv_istore_n (lv' := [(2, .int x), (0, .ref (a 0)), (1, .int x)]) hx hb dX4_melt_27 rfl hl (by decide) rfl (fun ls hl => ?_)
      have loopA : ∀ (fu : Nat) (k : Nat) (r : Int32), (k ≤ n) → (sn_mlN f k r = sn_mlN f n x) → (sn_mlR f k r = sn_mlR f n x) → k < fu → ∀ (H : Heap) (locs : List Loc), va_P D vwCl ([(a 0, .inr (3, [.ref (a 1), .ref (a 2), .ref (a 3), .ref (a 4), .ref (a 5), .int nb])), (a 1, .inl (cI, 57, .inl (upd f 0 (nI k)))), (a 2, .inl (cI, 114, .inl g)), (a 3, .inl (cZ, 2, .inl kp)), (a 4, .inl (cI, 30, .inl tp)), (a 5, .inl (cI, 30, .inl ly))]) H → va_D A ([(a 0, .inr (3, [.ref (a 1), .ref (a 2), .ref (a 3), .ref (a 4), .ref (a 5), .int nb])), (a 1, .inl (cI, 57, .inl (upd f 0 (nI k)))), (a 2, .inl (cI, 114, .inl g)), (a 3, .inl (cZ, 2, .inl kp)), (a 4, .inl (cI, 30, .inl tp)), (a 5, .inl (cI, 30, .inl ly))]) → va_S A s.heap H locs → ∀ ls : Array Slot, lv_has ls 4 [(0, .ref (a 0)), (1, .int x), (2, .int r)] → W p l e (sn_rm 1 0 0) s m [.ref (a 0), .int x].toArray below meth c H locs 0 0 (MQ below (va_Qi (fun r_ (u_ : Nat → Int32) => r_ = sn_Rmelt f n x ∧ u_ = sn_Fmelt f n x) (fun u_ t_ => va_P D vwCl (sn_wM cI cZ a u_ g kp tp ly nb) t_.heap ∧ va_D A (sn_wM cI cZ a u_ g kp tp ly nb)) A) [.ref (a 0), .int x].toArray s 0 0 A) (F0 m 28 ls []) := by
        intro fu
        induction fu with
        | zero => intro k r h1 hq1 hq2 hm; exact absurd hm (Nat.not_lt_zero _)
        | succ fu ih_loopA =>
          intro k r h1 hq1 hq2 hm H locs hP hD hS ls hl
          refine lv_aload_n hx hb dX4_melt_28 rfl (lv_at hl 0 rfl) ?_
          refine va_get (D := D) (ci := 3) (v := .ref (a 1)) (C := RX4) (T := TX4) (N := 6) hx hb hts huX4 hown hK hP 0 rfl rfl 0 (by decide) (hts (.fieldLink RX4 7 "SnowSlabsModel" "state" "[I") (by decide +kernel)) (fun _ h9 => h9) rfl dX4_melt_29 ?_
          refine lv_iconst (v := 0) hx hb dX4_melt_32 (by decide) ?_
          refine sn_ild (k := 0) (v := nI k) 1 0 hx hb hK hP rfl rfl (by omega) (by decide) rfl (pk_us) dX4_melt_33 ?_
          refine lv_if_le (tgt := 83) hx hb dX4_melt_34 (by decide) (fun c_3 => ?_) (fun c_3 => ?_)
          · have c_3 := (sn_clej (a := k) (b := 0) rfl rfl (by omega) (by omega)).mp c_3
            refine lv_aload_n hx hb dX4_melt_83 rfl (lv_at hl 0 rfl) ?_
            refine va_get (D := D) (ci := 3) (v := .ref (a 1)) (C := RX4) (T := TX4) (N := 6) hx hb hts huX4 hown hK hP 0 rfl rfl 0 (by decide) (hts (.fieldLink RX4 7 "SnowSlabsModel" "state" "[I") (by decide +kernel)) (fun _ h9 => h9) rfl dX4_melt_84 ?_
            refine lv_iconst (v := 0) hx hb dX4_melt_87 (by decide) ?_
            refine sn_ild (k := 0) (v := nI k) 1 0 hx hb hK hP rfl rfl (by omega) (by decide) rfl (pk_us) dX4_melt_88 ?_
            refine lv_if_le (tgt := 109) hx hb dX4_melt_89 (by decide) (fun c_4 => ?_) (fun c_4 => ?_)
            · have c_4 := (sn_clej (a := k) (b := 0) rfl rfl (by omega) (by omega)).mp c_4
              refine lv_aload_n hx hb dX4_melt_109 rfl (lv_at hl 0 rfl) ?_
              refine sn_cV 0 0 hC hl (ct_X4_top l D cI cZ cR a (upd f 0 (nI k)) g kp tp ly nb k pk_us) gX4_melt_X4_top rfl (by decide +kernel) rfl ⟨Nat.le_of_ble_eq_true rfl, Nat.le_of_ble_eq_true rfl⟩ ⟨Nat.zero_le _, Nat.zero_le _⟩ hP hK hN rfl rfl rfl (Nat.le_of_ble_eq_true rfl) dX4_melt_110 ?_
              refine lv_istore_n (lv' := [(3, .int (nI k - 1)), (0, .ref (a 0)), (1, .int x), (2, .int r)]) hx hb dX4_melt_113 rfl hl (by decide) rfl (fun ls hl => ?_)
              have e1 : sn_mlN f n x = k := by rw [← hq1, show k = 0 by omega]; rfl
              have e2 : sn_mlF f n x = upd f 0 (nI k) := by unfold sn_mlF; rw [← hq1, ← hq2, show k = 0 by omega]; rfl
              have loopB : ∀ (j : Nat) (xj : Int32) (gg : Nat → Int32), sn_dn j xj → (j ≤ 10) → (sn_weF gg j = sn_weF (sn_mlF f n x) (sn_mlN f n x)) → (gg 0 = nI (sn_mlN f n x)) → ∀ (H : Heap) (locs : List Loc), va_P D vwCl ([(a 0, .inr (3, [.ref (a 1), .ref (a 2), .ref (a 3), .ref (a 4), .ref (a 5), .int nb])), (a 1, .inl (cI, 57, .inl gg)), (a 2, .inl (cI, 114, .inl g)), (a 3, .inl (cZ, 2, .inl kp)), (a 4, .inl (cI, 30, .inl tp)), (a 5, .inl (cI, 30, .inl ly))]) H → va_D A ([(a 0, .inr (3, [.ref (a 1), .ref (a 2), .ref (a 3), .ref (a 4), .ref (a 5), .int nb])), (a 1, .inl (cI, 57, .inl gg)), (a 2, .inl (cI, 114, .inl g)), (a 3, .inl (cZ, 2, .inl kp)), (a 4, .inl (cI, 30, .inl tp)), (a 5, .inl (cI, 30, .inl ly))]) → va_S A s.heap H locs → ∀ ls : Array Slot, lv_has ls 4 [(0, .ref (a 0)), (1, .int x), (3, .int xj)] → W p l e (sn_rm 1 0 0) s m [.ref (a 0), .int x].toArray below meth c H locs 0 0 (MQ below (va_Qi (fun r_ (u_ : Nat → Int32) => r_ = sn_Rmelt f n x ∧ u_ = sn_Fmelt f n x) (fun u_ t_ => va_P D vwCl (sn_wM cI cZ a u_ g kp tp ly nb) t_.heap ∧ va_D A (sn_wM cI cZ a u_ g kp tp ly nb)) A) [.ref (a 0), .int x].toArray s 0 0 A) (F0 m 114 ls []) := by
                intro j
                induction j with
                | zero =>
                  intro xj gg hdn hj hq hg0 H locs hP hD hS ls hl
                  have hdn : xj < 0 := hdn
                  refine lv_iload_n hx hb dX4_melt_114 rfl (lv_at hl 2 rfl) ?_
                  refine lv_if_lt (tgt := 149) hx hb dX4_melt_115 (by decide) (fun c_5 => ?_) (fun c_5 => ?_)
                  · refine lv_aload_n hx hb dX4_melt_149 rfl (lv_at hl 0 rfl) ?_
                    refine va_get (D := D) (ci := 3) (v := .ref (a 1)) (C := RX4) (T := TX4) (N := 6) hx hb hts huX4 hown hK hP 0 rfl rfl 0 (by decide) (hts (.fieldLink RX4 7 "SnowSlabsModel" "state" "[I") (by decide +kernel)) (fun _ h9 => h9) rfl dX4_melt_150 ?_
                    refine lv_iconst (v := 0) hx hb dX4_melt_153 (by decide) ?_
                    refine sn_ild (k := 0) (v := gg 0) 1 0 hx hb hK hP rfl rfl (by omega) (by decide) rfl (rfl) dX4_melt_154 ?_
                    refine sn_top (hg0) ?_
                    exact sn_uret (gg) hx hb hr hlk dX4_melt_155 hP hD hS (((if_pos c_1).trans (if_neg c_2)).symm) (((if_pos c_1).trans ((if_neg c_2).trans (hq.symm))).symm) (Nat.le_of_ble_eq_true rfl) (Nat.le_of_ble_eq_true rfl)
                  · exact absurd hdn c_5
                | succ j ih_loopB =>
                  intro xj gg hdn hj hq hg0 H locs hP hD hS ls hl
                  have hdn : xj = nI j := hdn
                  subst hdn
                  refine lv_iload_n hx hb dX4_melt_114 rfl (lv_at hl 2 rfl) ?_
                  refine lv_if_lt (tgt := 149) hx hb dX4_melt_115 (by decide) (fun c_6 => ?_) (fun c_6 => ?_)
                  · have c_6 := (sn_cltj (a := j) (b := 0) rfl rfl (by omega) (by omega)).mp c_6
                    exact absurd c_6 (by omega)
                  · have c_6 := (sn_cltf (a := j) (b := 0) rfl rfl (by omega) (by omega)).mp c_6
                    refine lv_aload_n hx hb dX4_melt_118 rfl (lv_at hl 0 rfl) ?_
                    refine va_get (D := D) (ci := 3) (v := .ref (a 1)) (C := RX4) (T := TX4) (N := 6) hx hb hts huX4 hown hK hP 0 rfl rfl 0 (by decide) (hts (.fieldLink RX4 7 "SnowSlabsModel" "state" "[I") (by decide +kernel)) (fun _ h9 => h9) rfl dX4_melt_119 ?_
                    refine lv_iload_n hx hb dX4_melt_122 rfl (lv_at hl 2 rfl) ?_
                    refine lv_iconst (v := 2) hx hb dX4_melt_123 (by decide) ?_
                    refine sn_cS 2 hC hl (ct_X4_at l D _ [] j 2) gX4_melt_X4_at rfl (by decide +kernel) rfl ⟨Nat.le_of_ble_eq_true rfl, Nat.le_of_ble_eq_true rfl⟩ ⟨Nat.zero_le _, Nat.zero_le _⟩ (fun _ _ h => by simp at h) hK hN rfl (Nat.le_of_ble_eq_true rfl) dX4_melt_124 ?_
                    refine sn_top (y := nI (9 + 5 * j)) (congrArg nI (show _ = 9 + 5 * j by omega)) ?_
                    refine sn_ild (k := 9 + 5 * j) (v := gg (9 + 5 * j)) 1 0 hx hb hK hP rfl rfl (by omega) (by decide) rfl (rfl) dX4_melt_127 ?_
                    refine lv_iconst (v := 4) hx hb dX4_melt_128 (by decide) ?_
                    refine lv_icmp_eq (tgt := 149) hx hb dX4_melt_129 (by decide) (fun c_7 => ?_) (fun c_7 => ?_)
                    · refine lv_aload_n hx hb dX4_melt_149 rfl (lv_at hl 0 rfl) ?_
                      refine va_get (D := D) (ci := 3) (v := .ref (a 1)) (C := RX4) (T := TX4) (N := 6) hx hb hts huX4 hown hK hP 0 rfl rfl 0 (by decide) (hts (.fieldLink RX4 7 "SnowSlabsModel" "state" "[I") (by decide +kernel)) (fun _ h9 => h9) rfl dX4_melt_150 ?_
                      refine lv_iconst (v := 0) hx hb dX4_melt_153 (by decide) ?_
                      refine sn_ild (k := 0) (v := gg 0) 1 0 hx hb hK hP rfl rfl (by omega) (by decide) rfl (rfl) dX4_melt_154 ?_
                      refine sn_top (hg0) ?_
                      exact sn_uret (gg) hx hb hr hlk dX4_melt_155 hP hD hS (((if_pos c_1).trans (if_neg c_2)).symm) (((if_pos c_1).trans ((if_neg c_2).trans (hq.symm.trans (if_pos c_7)))).symm) (Nat.le_of_ble_eq_true rfl) (Nat.le_of_ble_eq_true rfl)
                    · refine lv_aload_n hx hb dX4_melt_132 rfl (lv_at hl 0 rfl) ?_
                      refine va_get (D := D) (ci := 3) (v := .ref (a 1)) (C := RX4) (T := TX4) (N := 6) hx hb hts huX4 hown hK hP 0 rfl rfl 0 (by decide) (hts (.fieldLink RX4 7 "SnowSlabsModel" "state" "[I") (by decide +kernel)) (fun _ h9 => h9) rfl dX4_melt_133 ?_
                      refine lv_iload_n hx hb dX4_melt_136 rfl (lv_at hl 2 rfl) ?_
                      refine lv_iconst (v := 4) hx hb dX4_melt_137 (by decide) ?_
                      refine sn_cS 2 hC hl (ct_X4_at l D _ [] j 4) gX4_melt_X4_at rfl (by decide +kernel) rfl ⟨Nat.le_of_ble_eq_true rfl, Nat.le_of_ble_eq_true rfl⟩ ⟨Nat.zero_le _, Nat.zero_le _⟩ (fun _ _ h => by simp at h) hK hN rfl (Nat.le_of_ble_eq_true rfl) dX4_melt_138 ?_
                      refine sn_top (y := nI (11 + 5 * j)) (congrArg nI (show _ = 11 + 5 * j by omega)) ?_
                      refine lv_iconst (v := 1) hx hb dX4_melt_141 (by decide) ?_
                      refine sn_ist (k := 11 + 5 * j) 1 0 hx hb hK hP hD hS rfl rfl (by omega) (by decide) rfl dX4_melt_142 (fun H locs hP hD hS => ?_)
                      have hP : va_P D vwCl ([(a 0, .inr (3, [.ref (a 1), .ref (a 2), .ref (a 3), .ref (a 4), .ref (a 5), .int nb])), (a 1, .inl (cI, 57, .inl (upd gg (11 + 5 * j) 1))), (a 2, .inl (cI, 114, .inl g)), (a 3, .inl (cZ, 2, .inl kp)), (a 4, .inl (cI, 30, .inl tp)), (a 5, .inl (cI, 30, .inl ly))]) H := hP
                      have hD : va_D A ([(a 0, .inr (3, [.ref (a 1), .ref (a 2), .ref (a 3), .ref (a 4), .ref (a 5), .int nb])), (a 1, .inl (cI, 57, .inl (upd gg (11 + 5 * j) 1))), (a 2, .inl (cI, 114, .inl g)), (a 3, .inl (cZ, 2, .inl kp)), (a 4, .inl (cI, 30, .inl tp)), (a 5, .inl (cI, 30, .inl ly))]) := hD
                      refine lv_iinc (v := (nI j) + (-1)) (lv' := [(3, .int ((nI j) + (-1))), (0, .ref (a 0)), (1, .int x)]) hx hb dX4_melt_143 hl (k := 2) rfl (rfl) (by decide) rfl (fun ls hl => ?_)
                      refine lv_goto (tgt := 114) hx hb dX4_melt_146 (by decide) ?_
                      exact ih_loopB ((nI j) + (-1)) (upd gg (11 + 5 * j) 1) (sn_dn_p j) (by omega) ((if_neg c_7).symm.trans hq) (by rw [pk_un (by omega)]; exact hg0) _ _ hP hD hS ls (lv_sub hl [1, 2, 0] rfl)
              exact loopB k (nI k - 1) (upd f 0 (nI k)) (sn_dn_1 k) (by omega) (by rw [e1, e2]) (by rw [← e2]; exact sn_mlF_0 hI c_1) _ _ hP hD hS ls (lv_sub hl [1, 2, 0] rfl)
            · have c_4 := (sn_clef (a := k) (b := 0) rfl rfl (by omega) (by omega)).mp c_4
              exact absurd c_4 (by omega)
          · have c_3 := (sn_clef (a := k) (b := 0) rfl rfl (by omega) (by omega)).mp c_3
            refine lv_aload_n hx hb dX4_melt_37 rfl (lv_at hl 0 rfl) ?_
            refine va_get (D := D) (ci := 3) (v := .ref (a 1)) (C := RX4) (T := TX4) (N := 6) hx hb hts huX4 hown hK hP 0 rfl rfl 0 (by decide) (hts (.fieldLink RX4 7 "SnowSlabsModel" "state" "[I") (by decide +kernel)) (fun _ h9 => h9) rfl dX4_melt_38 ?_
            refine lv_aload_n hx hb dX4_melt_41 rfl (lv_at hl 0 rfl) ?_
            refine sn_cV 0 0 hC hl (ct_X4_top l D cI cZ cR a (upd f 0 (nI k)) g kp tp ly nb k pk_us) gX4_melt_X4_top rfl (by decide +kernel) rfl ⟨Nat.le_of_ble_eq_true rfl, Nat.le_of_ble_eq_true rfl⟩ ⟨Nat.zero_le _, Nat.zero_le _⟩ hP hK hN rfl rfl rfl (Nat.le_of_ble_eq_true rfl) dX4_melt_42 ?_
            refine sn_top (y := nI (k - 1)) (sn_nsub (a := k) (b := 1) rfl rfl (by omega)) ?_
            refine lv_iconst (v := 0) hx hb dX4_melt_45 (by decide) ?_
            refine sn_cS 2 hC hl (ct_X4_at l D _ [] (k - 1) 0) gX4_melt_X4_at rfl (by decide +kernel) rfl ⟨Nat.le_of_ble_eq_true rfl, Nat.le_of_ble_eq_true rfl⟩ ⟨Nat.zero_le _, Nat.zero_le _⟩ (fun _ _ h => by simp at h) hK hN rfl (Nat.le_of_ble_eq_true rfl) dX4_melt_46 ?_
            refine sn_top (y := nI (7 + 5 * (k - 1))) (congrArg nI (show _ = 7 + 5 * (k - 1) by omega)) ?_
            refine sn_ild (k := 7 + 5 * (k - 1)) (v := f (7 + 5 * (k - 1))) 1 0 hx hb hK hP rfl rfl (by omega) (by decide) rfl (pk_un (by omega)) dX4_melt_49 ?_
            refine lv_iload_n hx hb dX4_melt_50 rfl (lv_at hl 2 rfl) ?_
            refine lv_icmp_gt (tgt := 83) hx hb dX4_melt_51 (by decide) (fun c_8 => ?_) (fun c_8 => ?_)
            · refine lv_aload_n hx hb dX4_melt_83 rfl (lv_at hl 0 rfl) ?_
              refine va_get (D := D) (ci := 3) (v := .ref (a 1)) (C := RX4) (T := TX4) (N := 6) hx hb hts huX4 hown hK hP 0 rfl rfl 0 (by decide) (hts (.fieldLink RX4 7 "SnowSlabsModel" "state" "[I") (by decide +kernel)) (fun _ h9 => h9) rfl dX4_melt_84 ?_
              refine lv_iconst (v := 0) hx hb dX4_melt_87 (by decide) ?_
              refine sn_ild (k := 0) (v := nI k) 1 0 hx hb hK hP rfl rfl (by omega) (by decide) rfl (pk_us) dX4_melt_88 ?_
              refine lv_if_le (tgt := 109) hx hb dX4_melt_89 (by decide) (fun c_9 => ?_) (fun c_9 => ?_)
              · have c_9 := (sn_clej (a := k) (b := 0) rfl rfl (by omega) (by omega)).mp c_9
                exact absurd c_9 (by omega)
              · have c_9 := (sn_clef (a := k) (b := 0) rfl rfl (by omega) (by omega)).mp c_9
                refine lv_aload_n hx hb dX4_melt_92 rfl (lv_at hl 0 rfl) ?_
                refine va_get (D := D) (ci := 3) (v := .ref (a 1)) (C := RX4) (T := TX4) (N := 6) hx hb hts huX4 hown hK hP 0 rfl rfl 0 (by decide) (hts (.fieldLink RX4 7 "SnowSlabsModel" "state" "[I") (by decide +kernel)) (fun _ h9 => h9) rfl dX4_melt_93 ?_
                refine lv_aload_n hx hb dX4_melt_96 rfl (lv_at hl 0 rfl) ?_
                refine sn_cV 0 0 hC hl (ct_X4_top l D cI cZ cR a (upd f 0 (nI k)) g kp tp ly nb k pk_us) gX4_melt_X4_top rfl (by decide +kernel) rfl ⟨Nat.le_of_ble_eq_true rfl, Nat.le_of_ble_eq_true rfl⟩ ⟨Nat.zero_le _, Nat.zero_le _⟩ hP hK hN rfl rfl rfl (Nat.le_of_ble_eq_true rfl) dX4_melt_97 ?_
                refine sn_top (y := nI (k - 1)) (sn_nsub (a := k) (b := 1) rfl rfl (by omega)) ?_
                refine lv_iconst (v := 0) hx hb dX4_melt_100 (by decide) ?_
                refine sn_cS 2 hC hl (ct_X4_at l D _ [] (k - 1) 0) gX4_melt_X4_at rfl (by decide +kernel) rfl ⟨Nat.le_of_ble_eq_true rfl, Nat.le_of_ble_eq_true rfl⟩ ⟨Nat.zero_le _, Nat.zero_le _⟩ (fun _ _ h => by simp at h) hK hN rfl (Nat.le_of_ble_eq_true rfl) dX4_melt_101 ?_
                refine sn_top (y := nI (7 + 5 * (k - 1))) (congrArg nI (show _ = 7 + 5 * (k - 1) by omega)) ?_
                refine lv_dup2_11 hx hb dX4_melt_104 rfl rfl ?_
                refine sn_ild (k := 7 + 5 * (k - 1)) (v := f (7 + 5 * (k - 1))) 1 0 hx hb hK hP rfl rfl (by omega) (by decide) rfl (pk_un (by omega)) dX4_melt_105 ?_
                refine lv_iload_n hx hb dX4_melt_106 rfl (lv_at hl 2 rfl) ?_
                refine lv_isub hx hb dX4_melt_107 ?_
                refine sn_ist (k := 7 + 5 * (k - 1)) 1 0 hx hb hK hP hD hS rfl rfl (by omega) (by decide) rfl dX4_melt_108 (fun H locs hP hD hS => ?_)
                have hP : va_P D vwCl ([(a 0, .inr (3, [.ref (a 1), .ref (a 2), .ref (a 3), .ref (a 4), .ref (a 5), .int nb])), (a 1, .inl (cI, 57, .inl (upd (upd f 0 (nI k)) (7 + 5 * (k - 1)) ((f (7 + 5 * (k - 1))) - r)))), (a 2, .inl (cI, 114, .inl g)), (a 3, .inl (cZ, 2, .inl kp)), (a 4, .inl (cI, 30, .inl tp)), (a 5, .inl (cI, 30, .inl ly))]) H := hP
                have hD : va_D A ([(a 0, .inr (3, [.ref (a 1), .ref (a 2), .ref (a 3), .ref (a 4), .ref (a 5), .int nb])), (a 1, .inl (cI, 57, .inl (upd (upd f 0 (nI k)) (7 + 5 * (k - 1)) ((f (7 + 5 * (k - 1))) - r)))), (a 2, .inl (cI, 114, .inl g)), (a 3, .inl (cZ, 2, .inl kp)), (a 4, .inl (cI, 30, .inl tp)), (a 5, .inl (cI, 30, .inl ly))]) := hD
                refine lv_aload_n hx hb dX4_melt_109 rfl (lv_at hl 0 rfl) ?_
                refine sn_cV 0 0 hC hl (ct_X4_top l D cI cZ cR a (upd (upd f 0 (nI k)) (7 + 5 * (k - 1)) ((f (7 + 5 * (k - 1))) - r)) g kp tp ly nb k (by rw [pk_un (by omega)]; exact pk_us)) gX4_melt_X4_top rfl (by decide +kernel) rfl ⟨Nat.le_of_ble_eq_true rfl, Nat.le_of_ble_eq_true rfl⟩ ⟨Nat.zero_le _, Nat.zero_le _⟩ hP hK hN rfl rfl rfl (Nat.le_of_ble_eq_true rfl) dX4_melt_110 ?_
                refine lv_istore_n (lv' := [(3, .int (nI k - 1)), (0, .ref (a 0)), (1, .int x), (2, .int r)]) hx hb dX4_melt_113 rfl hl (by decide) rfl (fun ls hl => ?_)
                have e1 : sn_mlN f n x = k := by rw [← hq1]; exact sn_mlN_n (by omega) (Int32.not_le.mpr c_8)
                have e2 : sn_mlF f n x = upd (upd f 0 (nI k)) (7 + 5 * (k - 1)) (f (7 + 5 * (k - 1)) - r) := by unfold sn_mlF; rw [← hq1, ← hq2, sn_mlN_n (by omega) (Int32.not_le.mpr c_8), sn_mlR_n (by omega) (Int32.not_le.mpr c_8)]; exact if_neg (by omega)
                have loopB : ∀ (j : Nat) (xj : Int32) (gg : Nat → Int32), sn_dn j xj → (j ≤ 10) → (sn_weF gg j = sn_weF (sn_mlF f n x) (sn_mlN f n x)) → (gg 0 = nI (sn_mlN f n x)) → ∀ (H : Heap) (locs : List Loc), va_P D vwCl ([(a 0, .inr (3, [.ref (a 1), .ref (a 2), .ref (a 3), .ref (a 4), .ref (a 5), .int nb])), (a 1, .inl (cI, 57, .inl gg)), (a 2, .inl (cI, 114, .inl g)), (a 3, .inl (cZ, 2, .inl kp)), (a 4, .inl (cI, 30, .inl tp)), (a 5, .inl (cI, 30, .inl ly))]) H → va_D A ([(a 0, .inr (3, [.ref (a 1), .ref (a 2), .ref (a 3), .ref (a 4), .ref (a 5), .int nb])), (a 1, .inl (cI, 57, .inl gg)), (a 2, .inl (cI, 114, .inl g)), (a 3, .inl (cZ, 2, .inl kp)), (a 4, .inl (cI, 30, .inl tp)), (a 5, .inl (cI, 30, .inl ly))]) → va_S A s.heap H locs → ∀ ls : Array Slot, lv_has ls 4 [(0, .ref (a 0)), (1, .int x), (3, .int xj)] → W p l e (sn_rm 1 0 0) s m [.ref (a 0), .int x].toArray below meth c H locs 0 0 (MQ below (va_Qi (fun r_ (u_ : Nat → Int32) => r_ = sn_Rmelt f n x ∧ u_ = sn_Fmelt f n x) (fun u_ t_ => va_P D vwCl (sn_wM cI cZ a u_ g kp tp ly nb) t_.heap ∧ va_D A (sn_wM cI cZ a u_ g kp tp ly nb)) A) [.ref (a 0), .int x].toArray s 0 0 A) (F0 m 114 ls []) := by
                  intro j
                  induction j with
                  | zero =>
                    intro xj gg hdn hj hq hg0 H locs hP hD hS ls hl
                    have hdn : xj < 0 := hdn
                    refine lv_iload_n hx hb dX4_melt_114 rfl (lv_at hl 2 rfl) ?_
                    refine lv_if_lt (tgt := 149) hx hb dX4_melt_115 (by decide) (fun c_10 => ?_) (fun c_10 => ?_)
                    · refine lv_aload_n hx hb dX4_melt_149 rfl (lv_at hl 0 rfl) ?_
                      refine va_get (D := D) (ci := 3) (v := .ref (a 1)) (C := RX4) (T := TX4) (N := 6) hx hb hts huX4 hown hK hP 0 rfl rfl 0 (by decide) (hts (.fieldLink RX4 7 "SnowSlabsModel" "state" "[I") (by decide +kernel)) (fun _ h9 => h9) rfl dX4_melt_150 ?_
                      refine lv_iconst (v := 0) hx hb dX4_melt_153 (by decide) ?_
                      refine sn_ild (k := 0) (v := gg 0) 1 0 hx hb hK hP rfl rfl (by omega) (by decide) rfl (rfl) dX4_melt_154 ?_
                      refine sn_top (hg0) ?_
                      exact sn_uret (gg) hx hb hr hlk dX4_melt_155 hP hD hS (((if_pos c_1).trans (if_neg c_2)).symm) (((if_pos c_1).trans ((if_neg c_2).trans (hq.symm))).symm) (Nat.le_of_ble_eq_true rfl) (Nat.le_of_ble_eq_true rfl)
                    · exact absurd hdn c_10
                  | succ j ih_loopB =>
                    intro xj gg hdn hj hq hg0 H locs hP hD hS ls hl
                    have hdn : xj = nI j := hdn
                    subst hdn
                    refine lv_iload_n hx hb dX4_melt_114 rfl (lv_at hl 2 rfl) ?_
                    refine lv_if_lt (tgt := 149) hx hb dX4_melt_115 (by decide) (fun c_11 => ?_) (fun c_11 => ?_)
                    · have c_11 := (sn_cltj (a := j) (b := 0) rfl rfl (by omega) (by omega)).mp c_11
                      exact absurd c_11 (by omega)
                    · have c_11 := (sn_cltf (a := j) (b := 0) rfl rfl (by omega) (by omega)).mp c_11
                      refine lv_aload_n hx hb dX4_melt_118 rfl (lv_at hl 0 rfl) ?_
                      refine va_get (D := D) (ci := 3) (v := .ref (a 1)) (C := RX4) (T := TX4) (N := 6) hx hb hts huX4 hown hK hP 0 rfl rfl 0 (by decide) (hts (.fieldLink RX4 7 "SnowSlabsModel" "state" "[I") (by decide +kernel)) (fun _ h9 => h9) rfl dX4_melt_119 ?_
                      refine lv_iload_n hx hb dX4_melt_122 rfl (lv_at hl 2 rfl) ?_
                      refine lv_iconst (v := 2) hx hb dX4_melt_123 (by decide) ?_
                      refine sn_cS 2 hC hl (ct_X4_at l D _ [] j 2) gX4_melt_X4_at rfl (by decide +kernel) rfl ⟨Nat.le_of_ble_eq_true rfl, Nat.le_of_ble_eq_true rfl⟩ ⟨Nat.zero_le _, Nat.zero_le _⟩ (fun _ _ h => by simp at h) hK hN rfl (Nat.le_of_ble_eq_true rfl) dX4_melt_124 ?_
                      refine sn_top (y := nI (9 + 5 * j)) (congrArg nI (show _ = 9 + 5 * j by omega)) ?_
                      refine sn_ild (k := 9 + 5 * j) (v := gg (9 + 5 * j)) 1 0 hx hb hK hP rfl rfl (by omega) (by decide) rfl (rfl) dX4_melt_127 ?_
                      refine lv_iconst (v := 4) hx hb dX4_melt_128 (by decide) ?_
                      refine lv_icmp_eq (tgt := 149) hx hb dX4_melt_129 (by decide) (fun c_12 => ?_) (fun c_12 => ?_)
                      · refine lv_aload_n hx hb dX4_melt_149 rfl (lv_at hl 0 rfl) ?_
                        refine va_get (D := D) (ci := 3) (v := .ref (a 1)) (C := RX4) (T := TX4) (N := 6) hx hb hts huX4 hown hK hP 0 rfl rfl 0 (by decide) (hts (.fieldLink RX4 7 "SnowSlabsModel" "state" "[I") (by decide +kernel)) (fun _ h9 => h9) rfl dX4_melt_150 ?_
                        refine lv_iconst (v := 0) hx hb dX4_melt_153 (by decide) ?_
                        refine sn_ild (k := 0) (v := gg 0) 1 0 hx hb hK hP rfl rfl (by omega) (by decide) rfl (rfl) dX4_melt_154 ?_
                        refine sn_top (hg0) ?_
                        exact sn_uret (gg) hx hb hr hlk dX4_melt_155 hP hD hS (((if_pos c_1).trans (if_neg c_2)).symm) (((if_pos c_1).trans ((if_neg c_2).trans (hq.symm.trans (if_pos c_12)))).symm) (Nat.le_of_ble_eq_true rfl) (Nat.le_of_ble_eq_true rfl)
                      · refine lv_aload_n hx hb dX4_melt_132 rfl (lv_at hl 0 rfl) ?_
                        refine va_get (D := D) (ci := 3) (v := .ref (a 1)) (C := RX4) (T := TX4) (N := 6) hx hb hts huX4 hown hK hP 0 rfl rfl 0 (by decide) (hts (.fieldLink RX4 7 "SnowSlabsModel" "state" "[I") (by decide +kernel)) (fun _ h9 => h9) rfl dX4_melt_133 ?_
                        refine lv_iload_n hx hb dX4_melt_136 rfl (lv_at hl 2 rfl) ?_
                        refine lv_iconst (v := 4) hx hb dX4_melt_137 (by decide) ?_
                        refine sn_cS 2 hC hl (ct_X4_at l D _ [] j 4) gX4_melt_X4_at rfl (by decide +kernel) rfl ⟨Nat.le_of_ble_eq_true rfl, Nat.le_of_ble_eq_true rfl⟩ ⟨Nat.zero_le _, Nat.zero_le _⟩ (fun _ _ h => by simp at h) hK hN rfl (Nat.le_of_ble_eq_true rfl) dX4_melt_138 ?_
                        refine sn_top (y := nI (11 + 5 * j)) (congrArg nI (show _ = 11 + 5 * j by omega)) ?_
                        refine lv_iconst (v := 1) hx hb dX4_melt_141 (by decide) ?_
                        refine sn_ist (k := 11 + 5 * j) 1 0 hx hb hK hP hD hS rfl rfl (by omega) (by decide) rfl dX4_melt_142 (fun H locs hP hD hS => ?_)
                        have hP : va_P D vwCl ([(a 0, .inr (3, [.ref (a 1), .ref (a 2), .ref (a 3), .ref (a 4), .ref (a 5), .int nb])), (a 1, .inl (cI, 57, .inl (upd gg (11 + 5 * j) 1))), (a 2, .inl (cI, 114, .inl g)), (a 3, .inl (cZ, 2, .inl kp)), (a 4, .inl (cI, 30, .inl tp)), (a 5, .inl (cI, 30, .inl ly))]) H := hP
                        have hD : va_D A ([(a 0, .inr (3, [.ref (a 1), .ref (a 2), .ref (a 3), .ref (a 4), .ref (a 5), .int nb])), (a 1, .inl (cI, 57, .inl (upd gg (11 + 5 * j) 1))), (a 2, .inl (cI, 114, .inl g)), (a 3, .inl (cZ, 2, .inl kp)), (a 4, .inl (cI, 30, .inl tp)), (a 5, .inl (cI, 30, .inl ly))]) := hD
                        refine lv_iinc (v := (nI j) + (-1)) (lv' := [(3, .int ((nI j) + (-1))), (0, .ref (a 0)), (1, .int x)]) hx hb dX4_melt_143 hl (k := 2) rfl (rfl) (by decide) rfl (fun ls hl => ?_)
                        refine lv_goto (tgt := 114) hx hb dX4_melt_146 (by decide) ?_
                        exact ih_loopB ((nI j) + (-1)) (upd gg (11 + 5 * j) 1) (sn_dn_p j) (by omega) ((if_neg c_12).symm.trans hq) (by rw [pk_un (by omega)]; exact hg0) _ _ hP hD hS ls (lv_sub hl [1, 2, 0] rfl)
                exact loopB k (nI k - 1) (upd (upd f 0 (nI k)) (7 + 5 * (k - 1)) (f (7 + 5 * (k - 1)) - r)) (sn_dn_1 k) (by omega) (by rw [e1, e2]) (by rw [← e2]; exact sn_mlF_0 hI c_1) _ _ hP hD hS ls (lv_sub hl [1, 2, 0] rfl)
            · refine lv_iload_n hx hb dX4_melt_54 rfl (lv_at hl 2 rfl) ?_
              refine lv_aload_n hx hb dX4_melt_55 rfl (lv_at hl 0 rfl) ?_
              refine va_get (D := D) (ci := 3) (v := .ref (a 1)) (C := RX4) (T := TX4) (N := 6) hx hb hts huX4 hown hK hP 0 rfl rfl 0 (by decide) (hts (.fieldLink RX4 7 "SnowSlabsModel" "state" "[I") (by decide +kernel)) (fun _ h9 => h9) rfl dX4_melt_56 ?_
              refine lv_aload_n hx hb dX4_melt_59 rfl (lv_at hl 0 rfl) ?_
              refine sn_cV 0 0 hC hl (ct_X4_top l D cI cZ cR a (upd f 0 (nI k)) g kp tp ly nb k pk_us) gX4_melt_X4_top rfl (by decide +kernel) rfl ⟨Nat.le_of_ble_eq_true rfl, Nat.le_of_ble_eq_true rfl⟩ ⟨Nat.zero_le _, Nat.zero_le _⟩ hP hK hN rfl rfl rfl (Nat.le_of_ble_eq_true rfl) dX4_melt_60 ?_
              refine sn_top (y := nI (k - 1)) (sn_nsub (a := k) (b := 1) rfl rfl (by omega)) ?_
              refine lv_iconst (v := 0) hx hb dX4_melt_63 (by decide) ?_
              refine sn_cS 2 hC hl (ct_X4_at l D _ [] (k - 1) 0) gX4_melt_X4_at rfl (by decide +kernel) rfl ⟨Nat.le_of_ble_eq_true rfl, Nat.le_of_ble_eq_true rfl⟩ ⟨Nat.zero_le _, Nat.zero_le _⟩ (fun _ _ h => by simp at h) hK hN rfl (Nat.le_of_ble_eq_true rfl) dX4_melt_64 ?_
              refine sn_top (y := nI (7 + 5 * (k - 1))) (congrArg nI (show _ = 7 + 5 * (k - 1) by omega)) ?_
              refine sn_ild (k := 7 + 5 * (k - 1)) (v := f (7 + 5 * (k - 1))) 1 0 hx hb hK hP rfl rfl (by omega) (by decide) rfl (pk_un (by omega)) dX4_melt_67 ?_
              refine lv_isub hx hb dX4_melt_68 ?_
              refine lv_istore_n (lv' := [(2, .int (r - (f (7 + 5 * (k - 1))))), (0, .ref (a 0)), (1, .int x)]) hx hb dX4_melt_69 rfl hl (by decide) rfl (fun ls hl => ?_)
              refine lv_aload_n hx hb dX4_melt_70 rfl (lv_at hl 1 rfl) ?_
              refine va_get (D := D) (ci := 3) (v := .ref (a 1)) (C := RX4) (T := TX4) (N := 6) hx hb hts huX4 hown hK hP 0 rfl rfl 0 (by decide) (hts (.fieldLink RX4 7 "SnowSlabsModel" "state" "[I") (by decide +kernel)) (fun _ h9 => h9) rfl dX4_melt_71 ?_
              refine lv_iconst (v := 0) hx hb dX4_melt_74 (by decide) ?_
              refine lv_dup2_11 hx hb dX4_melt_75 rfl rfl ?_
              refine sn_ild (k := 0) (v := nI k) 1 0 hx hb hK hP rfl rfl (by omega) (by decide) rfl (pk_us) dX4_melt_76 ?_
              refine lv_iconst (v := 1) hx hb dX4_melt_77 (by decide) ?_
              refine lv_isub hx hb dX4_melt_78 ?_
              refine sn_top (sn_nsub (a := k) (b := 1) rfl rfl (by omega)) ?_
              refine sn_ist (k := 0) 1 0 hx hb hK hP hD hS rfl rfl (by omega) (by decide) rfl dX4_melt_79 (fun H locs hP hD hS => ?_)
              have hP : va_P D vwCl ([(a 0, .inr (3, [.ref (a 1), .ref (a 2), .ref (a 3), .ref (a 4), .ref (a 5), .int nb])), (a 1, .inl (cI, 57, .inl (upd (upd f 0 (nI k)) 0 (nI (k - 1))))), (a 2, .inl (cI, 114, .inl g)), (a 3, .inl (cZ, 2, .inl kp)), (a 4, .inl (cI, 30, .inl tp)), (a 5, .inl (cI, 30, .inl ly))]) H := hP
              have hD : va_D A ([(a 0, .inr (3, [.ref (a 1), .ref (a 2), .ref (a 3), .ref (a 4), .ref (a 5), .int nb])), (a 1, .inl (cI, 57, .inl (upd (upd f 0 (nI k)) 0 (nI (k - 1))))), (a 2, .inl (cI, 114, .inl g)), (a 3, .inl (cZ, 2, .inl kp)), (a 4, .inl (cI, 30, .inl tp)), (a 5, .inl (cI, 30, .inl ly))]) := hD
              refine lv_goto (tgt := 28) hx hb dX4_melt_80 (by decide) ?_
              have hE : sn_eW ([(a 0, .inr (3, [.ref (a 1), .ref (a 2), .ref (a 3), .ref (a 4), .ref (a 5), .int nb])), (a 1, .inl (cI, 57, .inl (upd (upd f 0 (nI k)) 0 (nI (k - 1))))), (a 2, .inl (cI, 114, .inl g)), (a 3, .inl (cZ, 2, .inl kp)), (a 4, .inl (cI, 30, .inl tp)), (a 5, .inl (cI, 30, .inl ly))]) ([(a 0, .inr (3, [.ref (a 1), .ref (a 2), .ref (a 3), .ref (a 4), .ref (a 5), .int nb])), (a 1, .inl (cI, 57, .inl (upd f 0 (nI (k - 1))))), (a 2, .inl (cI, 114, .inl g)), (a 3, .inl (cZ, 2, .inl kp)), (a 4, .inl (cI, 30, .inl tp)), (a 5, .inl (cI, 30, .inl ly))]) := sn_eC (sn_eQ _) (sn_eC (sn_eI (fun z_ hz => congrFun (sn_upd_twice f 0 _ _) z_)) (sn_eS _))
              exact ih_loopA (k - 1) (r - (f (7 + 5 * (k - 1)))) (by omega) ((sn_mlN_y (by omega) (Int32.not_lt.mp c_8)).symm.trans hq1) ((sn_mlR_y (by omega) (Int32.not_lt.mp c_8)).symm.trans hq2) (by omega) _ _ (hE.P hP) (hE.D hD) hS ls (lv_sub hl [1, 2, 0] rfl)
      have hE : sn_eW ([(a 0, .inr (3, [.ref (a 1), .ref (a 2), .ref (a 3), .ref (a 4), .ref (a 5), .int nb])), (a 1, .inl (cI, 57, .inl f)), (a 2, .inl (cI, 114, .inl g)), (a 3, .inl (cZ, 2, .inl kp)), (a 4, .inl (cI, 30, .inl tp)), (a 5, .inl (cI, 30, .inl ly))]) ([(a 0, .inr (3, [.ref (a 1), .ref (a 2), .ref (a 3), .ref (a 4), .ref (a 5), .int nb])), (a 1, .inl (cI, 57, .inl (upd f 0 (nI n)))), (a 2, .inl (cI, 114, .inl g)), (a 3, .inl (cZ, 2, .inl kp)), (a 4, .inl (cI, 30, .inl tp)), (a 5, .inl (cI, 30, .inl ly))]) := (by rw [sn_upd_same hI.1]; exact sn_eS _)
      exact loopA (n + 1) n x (Nat.le_refl _) rfl rfl (by omega) _ _ (hE.P hP) (hE.D hD) hS ls (lv_sub hl [1, 2, 0] rfl)
    · have c_2 := (sn_cnef (a := n) (b := 0) rfl rfl (by omega) (by omega)).mp c_2
      refine lv_bipush (v := (-3)) hx hb dX4_melt_23 (by decide) ?_
      exact sn_uret (f) hx hb hr hlk dX4_melt_25 hP hD hS (((if_pos c_1).trans (if_pos c_2)).symm) (((if_pos c_1).trans (if_pos c_2)).symm) (Nat.le_of_ble_eq_true rfl) (Nat.le_of_ble_eq_true rfl)
  · have c_1 : ¬ (1 ≤ x ∧ x ≤ 300) := sn_b_z.mp c_1
    refine lv_bipush (v := (-2)) hx hb dX4_melt_11 (by decide) ?_
    exact sn_uret (f) hx hb hr hlk dX4_melt_13 hP hD hS ((if_neg c_1).symm) ((if_neg c_1).symm) (Nat.le_of_ble_eq_true rfl) (Nat.le_of_ble_eq_true rfl)
set_option maxRecDepth 100000 in
set_option maxHeartbeats 4000000 in
theorem ct_X4_taps (l : Launch) (D : va_G) (cI cZ cR : ClassId) (a : Nat → Nat) (f g kp tp ly : Nat → Int32) (nb : Int32) (n : Nat) (hI : sn_I f n) (x y : Int32) (sz : Nat) : sn_Up l yX4_taps wsX4_taps 5 0 0 [.ref (a 0), .int x, .int y] D (sn_ty cI cZ cR) (sn_wM cI cZ a f g kp tp ly nb) sz (fun u_ : Int32 × (Nat → Int32) × (Nat → Int32) => True) (fun u_ => sn_Rtaps f n x y) (fun u_ => sn_wM cI cZ a f g kp u_.2.1 u_.2.2 u_.1) := by
  refine sn_up (cc := cX4_taps) (maxL := 3) (ret := (some .int)) (by decide) rfl (Nat.le_of_ble_eq_true rfl) ?_
  intro p e s m below meth c A hx hb hml hr hlk hts hown hA hF0 hK hN H locs hP hD hS ls hl
  have hC : CallFix p m c cX4_taps 3 s [.ref (a 0), .int x, .int y].toArray wsX4_taps RX4 := ⟨hx, hb, hml, hown, hts⟩
  have hl : lv_has ls 3 [(0, .ref (a 0)), (1, .int x), (2, .int y)] := hl
  have huX4 : ∀ w ∈ wsX40, w ∈ wsX4_taps := by decide +kernel
  have hn10 := hI.2.1
  refine lv_iload_n hx hb dX4_taps_0 rfl (lv_at hl 2 rfl) ?_
  refine lv_iconst (v := 0) hx hb dX4_taps_1 (by decide) ?_
  refine lv_iconst (v := 2) hx hb dX4_taps_2 (by decide) ?_
  refine sn_cS 3 hC hl (ct_X4_in l D _ [] y 0 2) gX4_taps_X4_in rfl (by decide +kernel) rfl ⟨Nat.le_of_ble_eq_true rfl, Nat.le_of_ble_eq_true rfl⟩ ⟨Nat.zero_le _, Nat.zero_le _⟩ (fun _ _ h => by simp at h) hK hN rfl (Nat.le_of_ble_eq_true rfl) dX4_taps_3 ?_
  refine lv_if_ne (tgt := 12) hx hb dX4_taps_6 (by decide) (fun c_1 => ?_) (fun c_1 => ?_)
  · have c_1 : 0 ≤ y ∧ y ≤ 2 := sn_b_nz.mp c_1
    refine lv_aload_n hx hb dX4_taps_12 rfl (lv_at hl 0 rfl) ?_
    refine lv_aload_n hx hb dX4_taps_13 rfl (lv_at hl 0 rfl) ?_
    refine va_get (D := D) (ci := 3) (v := .ref (a 1)) (C := RX4) (T := TX4) (N := 6) hx hb hts huX4 hown hK hP 0 rfl rfl 0 (by decide) (hts (.fieldLink RX4 7 "SnowSlabsModel" "state" "[I") (by decide +kernel)) (fun _ h9 => h9) rfl dX4_taps_14 ?_
    refine lv_iconst (v := 1) hx hb dX4_taps_17 (by decide) ?_
    refine sn_ild (k := 1) (v := f 1) 1 0 hx hb hK hP rfl rfl (by omega) (by decide) rfl (rfl) dX4_taps_18 ?_
    refine lv_bipush (v := 30) hx hb dX4_taps_19 (by decide) ?_
    refine sn_vV (w0 := []) (w := sn_wM cI cZ a f g kp tp ly nb) (wr := []) 2 0 hC hl (ct_X4_tapAll l D cI cZ cR a f g kp tp ly nb n hI (f 1) 30 (by omega) _) gX4_taps_X4_tapAll rfl (by decide +kernel) rfl ⟨Nat.le_of_ble_eq_true rfl, Nat.le_of_ble_eq_true rfl⟩ ⟨Nat.le_of_ble_eq_true rfl, Nat.le_of_ble_eq_true rfl⟩ hP hD hS hA hF0 hK hN rfl rfl rfl (Nat.le_of_ble_eq_true rfl) dX4_taps_21 (fun u_2 H locs hu_2 hP hD hS => ?_)
    obtain ⟨tq, lq⟩ := u_2
    have hu : sn_tH f n (f 1) 30 tq lq := hu_2
    have hP : va_P D vwCl ([(a 0, .inr (3, [.ref (a 1), .ref (a 2), .ref (a 3), .ref (a 4), .ref (a 5), .int (nI (sn_tC f n (f 1) 30))])), (a 1, .inl (cI, 57, .inl f)), (a 2, .inl (cI, 114, .inl g)), (a 3, .inl (cZ, 2, .inl kp)), (a 4, .inl (cI, 30, .inl tq)), (a 5, .inl (cI, 30, .inl lq))]) H := hP
    have hD : va_D A ([(a 0, .inr (3, [.ref (a 1), .ref (a 2), .ref (a 3), .ref (a 4), .ref (a 5), .int (nI (sn_tC f n (f 1) 30))])), (a 1, .inl (cI, 57, .inl f)), (a 2, .inl (cI, 114, .inl g)), (a 3, .inl (cZ, 2, .inl kp)), (a 4, .inl (cI, 30, .inl tq)), (a 5, .inl (cI, 30, .inl lq))]) := hD
    have hCE := sn_tCE f n (f 1) 30
    refine lv_iload_n hx hb dX4_taps_24 rfl (lv_at hl 1 rfl) ?_
    refine lv_iconst (v := (-1)) hx hb dX4_taps_25 (by decide) ?_
    refine lv_icmp_ne (tgt := 34) hx hb dX4_taps_26 (by decide) (fun c_3 => ?_) (fun c_3 => ?_)
    · refine lv_iload_n hx hb dX4_taps_34 rfl (lv_at hl 1 rfl) ?_
      refine lv_iconst (v := 0) hx hb dX4_taps_35 (by decide) ?_
      refine lv_aload_n hx hb dX4_taps_36 rfl (lv_at hl 0 rfl) ?_
      refine va_get (D := D) (ci := 3) (v := .int (nI (sn_tC f n (f 1) 30))) (C := RX4) (T := TX4) (N := 6) hx hb hts huX4 hown hK hP 0 rfl rfl 5 (by decide) (hts (.fieldLink RX4 65 "SnowSlabsModel" "breaks" "I") (by decide +kernel)) (fun _ h9 => h9) rfl dX4_taps_37 ?_
      refine lv_iconst (v := 1) hx hb dX4_taps_40 (by decide) ?_
      refine lv_isub hx hb dX4_taps_41 ?_
      refine sn_cS 3 hC hl (ct_X4_in l D _ [] x 0 ((nI (sn_tC f n (f 1) 30)) - 1)) gX4_taps_X4_in rfl (by decide +kernel) rfl ⟨Nat.le_of_ble_eq_true rfl, Nat.le_of_ble_eq_true rfl⟩ ⟨Nat.zero_le _, Nat.zero_le _⟩ (fun _ _ h => by simp at h) hK hN rfl (Nat.le_of_ble_eq_true rfl) dX4_taps_42 ?_
      refine lv_if_ne (tgt := 51) hx hb dX4_taps_45 (by decide) (fun c_4 => ?_) (fun c_4 => ?_)
      · have c_4 : 0 ≤ x ∧ x ≤ ((nI (sn_tC f n (f 1) 30)) - 1) := sn_b_nz.mp c_4
        obtain ⟨i, hi, hie⟩ := sn_isL (n := sn_tC f n (f 1) 30) (by omega) c_4
        subst hie
        refine lv_iload_n hx hb dX4_taps_51 rfl (lv_at hl 2 rfl) ?_
        refine lv_if_ne (tgt := 64) hx hb dX4_taps_52 (by decide) (fun c_5 => ?_) (fun c_5 => ?_)
        · refine lv_iload_n hx hb dX4_taps_64 rfl (lv_at hl 2 rfl) ?_
          refine lv_iconst (v := 1) hx hb dX4_taps_65 (by decide) ?_
          refine lv_icmp_ne (tgt := 78) hx hb dX4_taps_66 (by decide) (fun c_6 => ?_) (fun c_6 => ?_)
          · refine lv_aload_n hx hb dX4_taps_78 rfl (lv_at hl 0 rfl) ?_
            refine lv_aload_n hx hb dX4_taps_79 rfl (lv_at hl 0 rfl) ?_
            refine va_get (D := D) (ci := 3) (v := .ref (a 5)) (C := RX4) (T := TX4) (N := 6) hx hb hts huX4 hown hK hP 0 rfl rfl 4 (by decide) (hts (.fieldLink RX4 23 "SnowSlabsModel" "breakLayer" "[I") (by decide +kernel)) (fun _ h9 => h9) rfl dX4_taps_80 ?_
            refine lv_iload_n hx hb dX4_taps_83 rfl (lv_at hl 1 rfl) ?_
            refine sn_ild (k := i) (v := lq i) 5 0 hx hb hK hP rfl rfl (by omega) (by decide) rfl (rfl) dX4_taps_84 ?_
            obtain ⟨k, hk1, hk2⟩ := sn_tL_in f n (f 1) 30 i hi
            refine sn_top (y := nI k) ((hu i hi).2.trans hk2) ?_
            refine sn_cV 1 0 hC hl (ct_X4_isClean l D cI cZ cR a f g kp tq lq (nI (sn_tC f n (f 1) 30)) n hI k (by omega)) gX4_taps_X4_isClean rfl (by decide +kernel) rfl ⟨Nat.le_of_ble_eq_true rfl, Nat.le_of_ble_eq_true rfl⟩ ⟨Nat.zero_le _, Nat.zero_le _⟩ hP hK hN rfl rfl rfl (Nat.le_of_ble_eq_true rfl) dX4_taps_85 ?_
            refine lv_if_eq (tgt := 95) hx hb dX4_taps_88 (by decide) (fun c_7 => ?_) (fun c_7 => ?_)
            · have c_7 : ¬ (sn_cle f k) := sn_b_z.mp c_7
              refine lv_iconst (v := 0) hx hb dX4_taps_95 (by decide) ?_
              exact sn_uret ((nI (sn_tC f n (f 1) 30), tq, lq)) hx hb hr hlk dX4_taps_96 hP hD hS (((if_pos c_1).trans ((if_neg c_3).trans ((if_pos c_4).trans ((if_neg c_5).trans ((if_neg c_6).trans (by rw [nI_clamp (by omega), hk2, nI_clamp (by omega)]; exact (sn_b_f c_7).symm)))))).symm) (trivial) (Nat.le_of_ble_eq_true rfl) (Nat.le_of_ble_eq_true rfl)
            · have c_7 : sn_cle f k := sn_b_nz.mp c_7
              refine lv_iconst (v := 1) hx hb dX4_taps_91 (by decide) ?_
              refine lv_goto (tgt := 96) hx hb dX4_taps_92 (by decide) ?_
              exact sn_uret ((nI (sn_tC f n (f 1) 30), tq, lq)) hx hb hr hlk dX4_taps_96 hP hD hS (((if_pos c_1).trans ((if_neg c_3).trans ((if_pos c_4).trans ((if_neg c_5).trans ((if_neg c_6).trans (by rw [nI_clamp (by omega), hk2, nI_clamp (by omega)]; exact (sn_b_t c_7).symm)))))).symm) (trivial) (Nat.le_of_ble_eq_true rfl) (Nat.le_of_ble_eq_true rfl)
          · refine lv_aload_n hx hb dX4_taps_69 rfl (lv_at hl 0 rfl) ?_
            refine va_get (D := D) (ci := 3) (v := .ref (a 5)) (C := RX4) (T := TX4) (N := 6) hx hb hts huX4 hown hK hP 0 rfl rfl 4 (by decide) (hts (.fieldLink RX4 23 "SnowSlabsModel" "breakLayer" "[I") (by decide +kernel)) (fun _ h9 => h9) rfl dX4_taps_70 ?_
            refine lv_iload_n hx hb dX4_taps_73 rfl (lv_at hl 1 rfl) ?_
            refine sn_ild (k := i) (v := lq i) 5 0 hx hb hK hP rfl rfl (by omega) (by decide) rfl (rfl) dX4_taps_74 ?_
            refine lv_goto (tgt := 96) hx hb dX4_taps_75 (by decide) ?_
            exact sn_uret ((nI (sn_tC f n (f 1) 30), tq, lq)) hx hb hr hlk dX4_taps_96 hP hD hS (((if_pos c_1).trans ((if_neg c_3).trans ((if_pos c_4).trans ((if_neg c_5).trans ((if_pos c_6).trans (by rw [nI_clamp (by omega), (hu i hi).2])))))).symm) (trivial) (Nat.le_of_ble_eq_true rfl) (Nat.le_of_ble_eq_true rfl)
        · refine lv_aload_n hx hb dX4_taps_55 rfl (lv_at hl 0 rfl) ?_
          refine va_get (D := D) (ci := 3) (v := .ref (a 4)) (C := RX4) (T := TX4) (N := 6) hx hb hts huX4 hown hK hP 0 rfl rfl 3 (by decide) (hts (.fieldLink RX4 20 "SnowSlabsModel" "breakTap" "[I") (by decide +kernel)) (fun _ h9 => h9) rfl dX4_taps_56 ?_
          refine lv_iload_n hx hb dX4_taps_59 rfl (lv_at hl 1 rfl) ?_
          refine sn_ild (k := i) (v := tq i) 4 0 hx hb hK hP rfl rfl (by omega) (by decide) rfl (rfl) dX4_taps_60 ?_
          refine lv_goto (tgt := 96) hx hb dX4_taps_61 (by decide) ?_
          exact sn_uret ((nI (sn_tC f n (f 1) 30), tq, lq)) hx hb hr hlk dX4_taps_96 hP hD hS (((if_pos c_1).trans ((if_neg c_3).trans ((if_pos c_4).trans ((if_pos c_5).trans (by rw [nI_clamp (by omega), (hu i hi).1]))))).symm) (trivial) (Nat.le_of_ble_eq_true rfl) (Nat.le_of_ble_eq_true rfl)
      · have c_4 : ¬ (0 ≤ x ∧ x ≤ ((nI (sn_tC f n (f 1) 30)) - 1)) := sn_b_z.mp c_4
        refine lv_bipush (v := (-6)) hx hb dX4_taps_48 (by decide) ?_
        exact sn_uret ((nI (sn_tC f n (f 1) 30), tq, lq)) hx hb hr hlk dX4_taps_50 hP hD hS (((if_pos c_1).trans ((if_neg c_3).trans (if_neg c_4))).symm) (trivial) (Nat.le_of_ble_eq_true rfl) (Nat.le_of_ble_eq_true rfl)
    · refine lv_aload_n hx hb dX4_taps_29 rfl (lv_at hl 0 rfl) ?_
      refine va_get (D := D) (ci := 3) (v := .int (nI (sn_tC f n (f 1) 30))) (C := RX4) (T := TX4) (N := 6) hx hb hts huX4 hown hK hP 0 rfl rfl 5 (by decide) (hts (.fieldLink RX4 65 "SnowSlabsModel" "breaks" "I") (by decide +kernel)) (fun _ h9 => h9) rfl dX4_taps_30 ?_
      exact sn_uret ((nI (sn_tC f n (f 1) 30), tq, lq)) hx hb hr hlk dX4_taps_33 hP hD hS (((if_pos c_1).trans (if_pos c_3)).symm) (trivial) (Nat.le_of_ble_eq_true rfl) (Nat.le_of_ble_eq_true rfl)
  · have c_1 : ¬ (0 ≤ y ∧ y ≤ 2) := sn_b_z.mp c_1
    refine lv_bipush (v := (-2)) hx hb dX4_taps_9 (by decide) ?_
    exact sn_uret ((nb, tp, ly)) hx hb hr hlk dX4_taps_11 hP hD hS ((if_neg c_1).symm) (trivial) (Nat.le_of_ble_eq_true rfl) (Nat.le_of_ble_eq_true rfl)
set_option maxRecDepth 100000 in
set_option maxHeartbeats 4000000 in
theorem ct_X4_need (l : Launch) (D : va_G) (cI cZ cR : ClassId) (a : Nat → Nat) (f g kp tp ly : Nat → Int32) (nb : Int32) (n : Nat) (hI : sn_I f n) (x : Int32) (sz : Nat) : sn_Up l yX4_need wsX4_need 5 0 0 [.ref (a 0), .int x] D (sn_ty cI cZ cR) (sn_wM cI cZ a f g kp tp ly nb) sz (fun u_ : Int32 × (Nat → Int32) × (Nat → Int32) => True) (fun u_ => sn_Rneed f n x) (fun u_ => sn_wM cI cZ a f g kp u_.2.1 u_.2.2 u_.1) := by
  refine sn_up (cc := cX4_need) (maxL := 3) (ret := (some .int)) (by decide) rfl (Nat.le_of_ble_eq_true rfl) ?_
  intro p e s m below meth c A hx hb hml hr hlk hts hown hA hF0 hK hN H locs hP hD hS ls hl
  have hC : CallFix p m c cX4_need 3 s [.ref (a 0), .int x].toArray wsX4_need RX4 := ⟨hx, hb, hml, hown, hts⟩
  have hl : lv_has ls 3 [(0, .ref (a 0)), (1, .int x)] := hl
  have huX4 : ∀ w ∈ wsX40, w ∈ wsX4_need := by decide +kernel
  have hn10 := hI.2.1
  refine lv_iload_n hx hb dX4_need_0 rfl (lv_at hl 1 rfl) ?_
  refine lv_iconst (v := 1) hx hb dX4_need_1 (by decide) ?_
  refine lv_bipush (v := 30) hx hb dX4_need_2 (by decide) ?_
  refine sn_cS 3 hC hl (ct_X4_in l D _ [] x 1 30) gX4_need_X4_in rfl (by decide +kernel) rfl ⟨Nat.le_of_ble_eq_true rfl, Nat.le_of_ble_eq_true rfl⟩ ⟨Nat.zero_le _, Nat.zero_le _⟩ (fun _ _ h => by simp at h) hK hN rfl (Nat.le_of_ble_eq_true rfl) dX4_need_4 ?_
  refine lv_if_ne (tgt := 13) hx hb dX4_need_7 (by decide) (fun c_1 => ?_) (fun c_1 => ?_)
  · have c_1 : 1 ≤ x ∧ x ≤ 30 := sn_b_nz.mp c_1
    obtain ⟨t, ht1, ht2, ht3⟩ := sn_rng (lo := 1) (hi := 30) c_1 (by decide)
    subst ht3
    refine lv_iconst (v := 1) hx hb dX4_need_13 (by decide) ?_
    refine lv_istore_n (lv' := [(2, .int 1), (0, .ref (a 0)), (1, .int (nI t))]) hx hb dX4_need_14 rfl hl (by decide) rfl (fun ls hl => ?_)
    have loop : ∀ (fu : Nat) (v : Nat) (nq : Int32) (tq : Nat → Int32) (lq : Nat → Int32), (1 ≤ v) → (v ≤ 51) → (sn_ned f n t (51 - v) v = sn_ned f n t 50 1) → 51 - v < fu → ∀ (H : Heap) (locs : List Loc), va_P D vwCl ([(a 0, .inr (3, [.ref (a 1), .ref (a 2), .ref (a 3), .ref (a 4), .ref (a 5), .int nq])), (a 1, .inl (cI, 57, .inl f)), (a 2, .inl (cI, 114, .inl g)), (a 3, .inl (cZ, 2, .inl kp)), (a 4, .inl (cI, 30, .inl tq)), (a 5, .inl (cI, 30, .inl lq))]) H → va_D A ([(a 0, .inr (3, [.ref (a 1), .ref (a 2), .ref (a 3), .ref (a 4), .ref (a 5), .int nq])), (a 1, .inl (cI, 57, .inl f)), (a 2, .inl (cI, 114, .inl g)), (a 3, .inl (cZ, 2, .inl kp)), (a 4, .inl (cI, 30, .inl tq)), (a 5, .inl (cI, 30, .inl lq))]) → va_S A s.heap H locs → ∀ ls : Array Slot, lv_has ls 3 [(0, .ref (a 0)), (1, .int (nI t)), (2, .int (nI v))] → W p l e (sn_rm 5 0 0) s m [.ref (a 0), .int (nI t)].toArray below meth c H locs 0 0 (MQ below (va_Qi (fun r_ (u_ : Int32 × (Nat → Int32) × (Nat → Int32)) => r_ = sn_Rneed f n (nI t) ∧ True) (fun u_ t_ => va_P D vwCl (sn_wM cI cZ a f g kp u_.2.1 u_.2.2 u_.1) t_.heap ∧ va_D A (sn_wM cI cZ a f g kp u_.2.1 u_.2.2 u_.1)) A) [.ref (a 0), .int (nI t)].toArray s 0 0 A) (F0 m 15 ls []) := by
      intro fu
      induction fu with
      | zero => intro v nq tq lq h1 h2 hq hm; exact absurd hm (Nat.not_lt_zero _)
      | succ fu ih_loop =>
        intro v nq tq lq h1 h2 hq hm H locs hP hD hS ls hl
        refine lv_iload_n hx hb dX4_need_15 rfl (lv_at hl 2 rfl) ?_
        refine lv_bipush (v := 50) hx hb dX4_need_16 (by decide) ?_
        refine lv_icmp_gt (tgt := 42) hx hb dX4_need_18 (by decide) (fun c_2 => ?_) (fun c_2 => ?_)
        · have c_2 := (sn_cgtj (a := v) (b := 50) rfl rfl (by omega) (by omega)).mp c_2
          refine lv_bipush (v := (-6)) hx hb dX4_need_42 (by decide) ?_
          exact sn_uret ((nq, tq, lq)) hx hb hr hlk dX4_need_44 hP hD hS (((if_pos c_1).trans ((congrArg (fun z => sn_ned f n z 50 1) (nI_clamp (by omega))).trans (hq.symm.trans (by rw [show v = 51 by omega]; rfl)))).symm) (trivial) (Nat.le_of_ble_eq_true rfl) (Nat.le_of_ble_eq_true rfl)
        · have c_2 := (sn_cgtf (a := v) (b := 50) rfl rfl (by omega) (by omega)).mp c_2
          refine lv_aload_n hx hb dX4_need_21 rfl (lv_at hl 0 rfl) ?_
          refine lv_iload_n hx hb dX4_need_22 rfl (lv_at hl 2 rfl) ?_
          refine lv_iload_n hx hb dX4_need_23 rfl (lv_at hl 1 rfl) ?_
          refine sn_vV (w0 := []) (w := sn_wM cI cZ a f g kp tq lq nq) (wr := []) 2 0 hC hl (ct_X4_tapAll l D cI cZ cR a f g kp tq lq nq n hI (nI v) t (by omega) _) gX4_need_X4_tapAll rfl (by decide +kernel) rfl ⟨Nat.le_of_ble_eq_true rfl, Nat.le_of_ble_eq_true rfl⟩ ⟨Nat.le_of_ble_eq_true rfl, Nat.le_of_ble_eq_true rfl⟩ hP hD hS hA hF0 hK hN rfl rfl rfl (Nat.le_of_ble_eq_true rfl) dX4_need_24 (fun u_3 H locs hu_3 hP hD hS => ?_)
          obtain ⟨tq2, lq2⟩ := u_3
          have hP : va_P D vwCl ([(a 0, .inr (3, [.ref (a 1), .ref (a 2), .ref (a 3), .ref (a 4), .ref (a 5), .int (nI (sn_tC f n (nI v) t))])), (a 1, .inl (cI, 57, .inl f)), (a 2, .inl (cI, 114, .inl g)), (a 3, .inl (cZ, 2, .inl kp)), (a 4, .inl (cI, 30, .inl tq2)), (a 5, .inl (cI, 30, .inl lq2))]) H := hP
          have hD : va_D A ([(a 0, .inr (3, [.ref (a 1), .ref (a 2), .ref (a 3), .ref (a 4), .ref (a 5), .int (nI (sn_tC f n (nI v) t))])), (a 1, .inl (cI, 57, .inl f)), (a 2, .inl (cI, 114, .inl g)), (a 3, .inl (cZ, 2, .inl kp)), (a 4, .inl (cI, 30, .inl tq2)), (a 5, .inl (cI, 30, .inl lq2))]) := hD
          refine lv_aload_n hx hb dX4_need_27 rfl (lv_at hl 0 rfl) ?_
          have hCE := sn_tCE f n (nI v) t
          refine va_get (D := D) (ci := 3) (v := .int (nI (sn_tC f n (nI v) t))) (C := RX4) (T := TX4) (N := 6) hx hb hts huX4 hown hK hP 0 rfl rfl 5 (by decide) (hts (.fieldLink RX4 65 "SnowSlabsModel" "breaks" "I") (by decide +kernel)) (fun _ h9 => h9) rfl dX4_need_28 ?_
          refine lv_if_le (tgt := 36) hx hb dX4_need_31 (by decide) (fun c_4 => ?_) (fun c_4 => ?_)
          · have c_4 := (sn_clej (a := sn_tC f n (nI v) t) (b := 0) rfl rfl (by omega) (by omega)).mp c_4
            refine lv_iinc (v := nI (v + 1)) (lv' := [(2, .int (nI (v + 1))), (0, .ref (a 0)), (1, .int (nI t))]) hx hb dX4_need_36 hl (k := 2) rfl (sn_inc _) (by decide) rfl (fun ls hl => ?_)
            refine lv_goto (tgt := 15) hx hb dX4_need_39 (by decide) ?_
            exact ih_loop (v + 1) (nI (sn_tC f n (nI v) t)) tq2 lq2 (by omega) (by omega) ((sn_ned_z (by omega) ((sn_tC_iff hI (by omega) ht1).mp (by omega))).symm.trans hq) (by omega) _ _ hP hD hS ls (lv_sub hl [1, 2, 0] rfl)
          · have c_4 := (sn_clef (a := sn_tC f n (nI v) t) (b := 0) rfl rfl (by omega) (by omega)).mp c_4
            refine lv_iload_n hx hb dX4_need_34 rfl (lv_at hl 2 rfl) ?_
            exact sn_uret ((nI (sn_tC f n (nI v) t), tq2, lq2)) hx hb hr hlk dX4_need_35 hP hD hS (((if_pos c_1).trans ((congrArg (fun z => sn_ned f n z 50 1) (nI_clamp (by omega))).trans (hq.symm.trans (sn_ned_p (by omega) (fun z => c_4 (by rw [(sn_tC_iff hI (by omega) ht1).mpr z]; omega)))))).symm) (trivial) (Nat.le_of_ble_eq_true rfl) (Nat.le_of_ble_eq_true rfl)
    exact loop ((51 - 1) + 1) 1 nb tp ly (Nat.le_refl _) (by omega) rfl (by omega) _ _ hP hD hS ls (lv_sub hl [1, 2, 0] rfl)
  · have c_1 : ¬ (1 ≤ x ∧ x ≤ 30) := sn_b_z.mp c_1
    refine lv_bipush (v := (-2)) hx hb dX4_need_10 (by decide) ?_
    exact sn_uret ((nb, tp, ly)) hx hb hr hlk dX4_need_12 hP hD hS ((if_neg c_1).symm) (trivial) (Nat.le_of_ble_eq_true rfl) (Nat.le_of_ble_eq_true rfl)
set_option maxRecDepth 100000 in
set_option maxHeartbeats 4000000 in
theorem ct_X4_image (l : Launch) (D : va_G) (cI cZ cR : ClassId) (a : Nat → Nat) (f g kp tp ly : Nat → Int32) (nb : Int32) (x : Int32) (sz : Nat) : sn_Up l yX4_image wsX4_image 1 0 0 [.ref (a 0), .int x] D (sn_ty cI cZ cR) (sn_wM cI cZ a f g kp tp ly nb) sz (fun u_ : (Nat → Int32) × (Nat → Int32) => u_.1 = sn_Gimg f g x ∧ u_.2 = sn_Kimg kp x) (fun u_ => sn_Rimg x) (fun u_ => sn_wM cI cZ a f u_.1 u_.2 tp ly nb) := by
  refine sn_up (cc := cX4_image) (maxL := 3) (ret := (some .int)) (by decide) rfl (Nat.le_of_ble_eq_true rfl) ?_
  intro p e s m below meth c A hx hb hml hr hlk hts hown hA hF0 hK hN H locs hP hD hS ls hl
  have hC : CallFix p m c cX4_image 3 s [.ref (a 0), .int x].toArray wsX4_image RX4 := ⟨hx, hb, hml, hown, hts⟩
  have hl : lv_has ls 3 [(0, .ref (a 0)), (1, .int x)] := hl
  have huX4 : ∀ w ∈ wsX40, w ∈ wsX4_image := by decide +kernel
  refine lv_iload_n hx hb dX4_image_0 rfl (lv_at hl 1 rfl) ?_
  refine lv_iconst (v := 0) hx hb dX4_image_1 (by decide) ?_
  refine lv_iconst (v := 1) hx hb dX4_image_2 (by decide) ?_
  refine sn_cS 3 hC hl (ct_X4_in l D _ [] x 0 1) gX4_image_X4_in rfl (by decide +kernel) rfl ⟨Nat.le_of_ble_eq_true rfl, Nat.le_of_ble_eq_true rfl⟩ ⟨Nat.zero_le _, Nat.zero_le _⟩ (fun _ _ h => by simp at h) hK hN rfl (Nat.le_of_ble_eq_true rfl) dX4_image_3 ?_
  refine lv_if_ne (tgt := 12) hx hb dX4_image_6 (by decide) (fun c_1 => ?_) (fun c_1 => ?_)
  · have c_1 : 0 ≤ x ∧ x ≤ 1 := sn_b_nz.mp c_1
    obtain ⟨k, hk1, hk2, hk3⟩ := sn_rng (lo := 0) (hi := 1) c_1 (by decide)
    subst hk3
    refine lv_iconst (v := 0) hx hb dX4_image_12 (by decide) ?_
    refine lv_istore_n (lv' := [(2, .int 0), (0, .ref (a 0)), (1, .int (nI k))]) hx hb dX4_image_13 rfl hl (by decide) rfl (fun ls hl => ?_)
    have loop : ∀ (fu : Nat) (i : Nat), (i ≤ 57) → 57 - i < fu → ∀ (H : Heap) (locs : List Loc), va_P D vwCl ([(a 0, .inr (3, [.ref (a 1), .ref (a 2), .ref (a 3), .ref (a 4), .ref (a 5), .int nb])), (a 1, .inl (cI, 57, .inl f)), (a 2, .inl (cI, 114, .inl (sn_img f g k i))), (a 3, .inl (cZ, 2, .inl kp)), (a 4, .inl (cI, 30, .inl tp)), (a 5, .inl (cI, 30, .inl ly))]) H → va_D A ([(a 0, .inr (3, [.ref (a 1), .ref (a 2), .ref (a 3), .ref (a 4), .ref (a 5), .int nb])), (a 1, .inl (cI, 57, .inl f)), (a 2, .inl (cI, 114, .inl (sn_img f g k i))), (a 3, .inl (cZ, 2, .inl kp)), (a 4, .inl (cI, 30, .inl tp)), (a 5, .inl (cI, 30, .inl ly))]) → va_S A s.heap H locs → ∀ ls : Array Slot, lv_has ls 3 [(0, .ref (a 0)), (1, .int (nI k)), (2, .int (nI i))] → W p l e (sn_rm 1 0 0) s m [.ref (a 0), .int (nI k)].toArray below meth c H locs 0 0 (MQ below (va_Qi (fun r_ (u_ : (Nat → Int32) × (Nat → Int32)) => r_ = sn_Rimg (nI k) ∧ u_.1 = sn_Gimg f g (nI k) ∧ u_.2 = sn_Kimg kp (nI k)) (fun u_ t_ => va_P D vwCl (sn_wM cI cZ a f u_.1 u_.2 tp ly nb) t_.heap ∧ va_D A (sn_wM cI cZ a f u_.1 u_.2 tp ly nb)) A) [.ref (a 0), .int (nI k)].toArray s 0 0 A) (F0 m 14 ls []) := by
      intro fu
      induction fu with
      | zero => intro i h1 hm; exact absurd hm (Nat.not_lt_zero _)
      | succ fu ih_loop =>
        intro i h1 hm H locs hP hD hS ls hl
        refine lv_iload_n hx hb dX4_image_14 rfl (lv_at hl 2 rfl) ?_
        refine lv_bipush (v := 57) hx hb dX4_image_15 (by decide) ?_
        refine lv_icmp_ge (tgt := 43) hx hb dX4_image_17 (by decide) (fun c_2 => ?_) (fun c_2 => ?_)
        · have c_2 := (sn_cgej (a := i) (b := 57) rfl rfl (by omega) (by omega)).mp c_2
          refine lv_aload_n hx hb dX4_image_43 rfl (lv_at hl 0 rfl) ?_
          refine va_get (D := D) (ci := 3) (v := .ref (a 3)) (C := RX4) (T := TX4) (N := 6) hx hb hts huX4 hown hK hP 0 rfl rfl 2 (by decide) (hts (.fieldLink RX4 16 "SnowSlabsModel" "isKept" "[Z") (by decide +kernel)) (fun _ h9 => h9) rfl dX4_image_44 ?_
          refine lv_iload_n hx hb dX4_image_47 rfl (lv_at hl 1 rfl) ?_
          refine lv_iconst (v := 1) hx hb dX4_image_48 (by decide) ?_
          refine sn_zst (k := k) 3 1 hx hb hK hP hD hS rfl rfl (by omega) (by decide) rfl (by decide) dX4_image_49 (fun H locs hP hD hS => ?_)
          have hP : va_P D vwCl ([(a 0, .inr (3, [.ref (a 1), .ref (a 2), .ref (a 3), .ref (a 4), .ref (a 5), .int nb])), (a 1, .inl (cI, 57, .inl f)), (a 2, .inl (cI, 114, .inl (sn_img f g k i))), (a 3, .inl (cZ, 2, .inl (upd kp k 1))), (a 4, .inl (cI, 30, .inl tp)), (a 5, .inl (cI, 30, .inl ly))]) H := hP
          have hD : va_D A ([(a 0, .inr (3, [.ref (a 1), .ref (a 2), .ref (a 3), .ref (a 4), .ref (a 5), .int nb])), (a 1, .inl (cI, 57, .inl f)), (a 2, .inl (cI, 114, .inl (sn_img f g k i))), (a 3, .inl (cZ, 2, .inl (upd kp k 1))), (a 4, .inl (cI, 30, .inl tp)), (a 5, .inl (cI, 30, .inl ly))]) := hD
          refine lv_iconst (v := 1) hx hb dX4_image_50 (by decide) ?_
          exact sn_uret ((sn_img f g k i, upd kp k 1)) hx hb hr hlk dX4_image_51 hP hD hS ((if_pos c_1).symm) (⟨((if_pos c_1).trans (by rw [nI_clamp (by omega), show i = 57 by omega])).symm, ((if_pos c_1).trans (by rw [nI_clamp (by omega)])).symm⟩) (Nat.le_of_ble_eq_true rfl) (Nat.le_of_ble_eq_true rfl)
        · have c_2 := (sn_cgef (a := i) (b := 57) rfl rfl (by omega) (by omega)).mp c_2
          refine lv_aload_n hx hb dX4_image_20 rfl (lv_at hl 0 rfl) ?_
          refine va_get (D := D) (ci := 3) (v := .ref (a 2)) (C := RX4) (T := TX4) (N := 6) hx hb hts huX4 hown hK hP 0 rfl rfl 1 (by decide) (hts (.fieldLink RX4 13 "SnowSlabsModel" "images" "[I") (by decide +kernel)) (fun _ h9 => h9) rfl dX4_image_21 ?_
          refine lv_bipush (v := 57) hx hb dX4_image_24 (by decide) ?_
          refine lv_iload_n hx hb dX4_image_26 rfl (lv_at hl 1 rfl) ?_
          refine lv_imul hx hb dX4_image_27 ?_
          refine sn_top (sn_nmul (a := 57) (b := k) rfl rfl) ?_
          refine lv_iload_n hx hb dX4_image_28 rfl (lv_at hl 2 rfl) ?_
          refine lv_iadd hx hb dX4_image_29 ?_
          refine sn_top (sn_nadd (a := 57 * k) (b := i) rfl rfl) ?_
          refine lv_aload_n hx hb dX4_image_30 rfl (lv_at hl 0 rfl) ?_
          refine va_get (D := D) (ci := 3) (v := .ref (a 1)) (C := RX4) (T := TX4) (N := 6) hx hb hts huX4 hown hK hP 0 rfl rfl 0 (by decide) (hts (.fieldLink RX4 7 "SnowSlabsModel" "state" "[I") (by decide +kernel)) (fun _ h9 => h9) rfl dX4_image_31 ?_
          refine lv_iload_n hx hb dX4_image_34 rfl (lv_at hl 2 rfl) ?_
          refine sn_ild (k := i) (v := f i) 1 0 hx hb hK hP rfl rfl (by omega) (by decide) rfl (rfl) dX4_image_35 ?_
          refine sn_ist (k := 57 * k + i) 2 0 hx hb hK hP hD hS rfl rfl (by omega) (by decide) rfl dX4_image_36 (fun H locs hP hD hS => ?_)
          have hP : va_P D vwCl ([(a 0, .inr (3, [.ref (a 1), .ref (a 2), .ref (a 3), .ref (a 4), .ref (a 5), .int nb])), (a 1, .inl (cI, 57, .inl f)), (a 2, .inl (cI, 114, .inl (upd (sn_img f g k i) (57 * k + i) (f i)))), (a 3, .inl (cZ, 2, .inl kp)), (a 4, .inl (cI, 30, .inl tp)), (a 5, .inl (cI, 30, .inl ly))]) H := hP
          have hD : va_D A ([(a 0, .inr (3, [.ref (a 1), .ref (a 2), .ref (a 3), .ref (a 4), .ref (a 5), .int nb])), (a 1, .inl (cI, 57, .inl f)), (a 2, .inl (cI, 114, .inl (upd (sn_img f g k i) (57 * k + i) (f i)))), (a 3, .inl (cZ, 2, .inl kp)), (a 4, .inl (cI, 30, .inl tp)), (a 5, .inl (cI, 30, .inl ly))]) := hD
          refine lv_iinc (v := nI (i + 1)) (lv' := [(2, .int (nI (i + 1))), (0, .ref (a 0)), (1, .int (nI k))]) hx hb dX4_image_37 hl (k := 2) rfl (sn_inc _) (by decide) rfl (fun ls hl => ?_)
          refine lv_goto (tgt := 14) hx hb dX4_image_40 (by decide) ?_
          have hE : sn_eW ([(a 0, .inr (3, [.ref (a 1), .ref (a 2), .ref (a 3), .ref (a 4), .ref (a 5), .int nb])), (a 1, .inl (cI, 57, .inl f)), (a 2, .inl (cI, 114, .inl (upd (sn_img f g k i) (57 * k + i) (f i)))), (a 3, .inl (cZ, 2, .inl kp)), (a 4, .inl (cI, 30, .inl tp)), (a 5, .inl (cI, 30, .inl ly))]) ([(a 0, .inr (3, [.ref (a 1), .ref (a 2), .ref (a 3), .ref (a 4), .ref (a 5), .int nb])), (a 1, .inl (cI, 57, .inl f)), (a 2, .inl (cI, 114, .inl (sn_img f g k (i + 1)))), (a 3, .inl (cZ, 2, .inl kp)), (a 4, .inl (cI, 30, .inl tp)), (a 5, .inl (cI, 30, .inl ly))]) := (by rw [← sn_img_s]; exact sn_eS _)
          exact ih_loop (i + 1) (by omega) (by omega) _ _ (hE.P hP) (hE.D hD) hS ls (lv_sub hl [1, 2, 0] rfl)
    have hE : sn_eW ([(a 0, .inr (3, [.ref (a 1), .ref (a 2), .ref (a 3), .ref (a 4), .ref (a 5), .int nb])), (a 1, .inl (cI, 57, .inl f)), (a 2, .inl (cI, 114, .inl g)), (a 3, .inl (cZ, 2, .inl kp)), (a 4, .inl (cI, 30, .inl tp)), (a 5, .inl (cI, 30, .inl ly))]) ([(a 0, .inr (3, [.ref (a 1), .ref (a 2), .ref (a 3), .ref (a 4), .ref (a 5), .int nb])), (a 1, .inl (cI, 57, .inl f)), (a 2, .inl (cI, 114, .inl (sn_img f g k 0))), (a 3, .inl (cZ, 2, .inl kp)), (a 4, .inl (cI, 30, .inl tp)), (a 5, .inl (cI, 30, .inl ly))]) := (by rw [sn_img_0]; exact sn_eS _)
    exact loop ((57 - 0) + 1) 0 (Nat.zero_le _) (by omega) _ _ (hE.P hP) (hE.D hD) hS ls (lv_sub hl [1, 2, 0] rfl)
  · have c_1 : ¬ (0 ≤ x ∧ x ≤ 1) := sn_b_z.mp c_1
    refine lv_bipush (v := (-2)) hx hb dX4_image_9 (by decide) ?_
    exact sn_uret ((g, kp)) hx hb hr hlk dX4_image_11 hP hD hS ((if_neg c_1).symm) (⟨(if_neg c_1).symm, (if_neg c_1).symm⟩) (Nat.le_of_ble_eq_true rfl) (Nat.le_of_ble_eq_true rfl)
set_option maxRecDepth 100000 in
set_option maxHeartbeats 4000000 in
theorem ct_X4_restore (l : Launch) (D : va_G) (cI cZ cR : ClassId) (a : Nat → Nat) (f g kp tp ly : Nat → Int32) (nb : Int32) (x : Int32) (sz : Nat) : sn_Up l yX4_restore wsX4_restore 1 0 0 [.ref (a 0), .int x] D (sn_ty cI cZ cR) (sn_wM cI cZ a f g kp tp ly nb) sz (fun u_ : Nat → Int32 => u_ = sn_Fres f g kp x) (fun u_ => sn_Rres kp x) (fun u_ => sn_wM cI cZ a u_ g kp tp ly nb) := by
  refine sn_up (cc := cX4_restore) (maxL := 3) (ret := (some .int)) (by decide) rfl (Nat.le_of_ble_eq_true rfl) ?_
  intro p e s m below meth c A hx hb hml hr hlk hts hown hA hF0 hK hN H locs hP hD hS ls hl
  have hC : CallFix p m c cX4_restore 3 s [.ref (a 0), .int x].toArray wsX4_restore RX4 := ⟨hx, hb, hml, hown, hts⟩
  have hl : lv_has ls 3 [(0, .ref (a 0)), (1, .int x)] := hl
  have huX4 : ∀ w ∈ wsX40, w ∈ wsX4_restore := by decide +kernel
  refine lv_iload_n hx hb dX4_restore_0 rfl (lv_at hl 1 rfl) ?_
  refine lv_iconst (v := 0) hx hb dX4_restore_1 (by decide) ?_
  refine lv_iconst (v := 1) hx hb dX4_restore_2 (by decide) ?_
  refine sn_cS 3 hC hl (ct_X4_in l D _ [] x 0 1) gX4_restore_X4_in rfl (by decide +kernel) rfl ⟨Nat.le_of_ble_eq_true rfl, Nat.le_of_ble_eq_true rfl⟩ ⟨Nat.zero_le _, Nat.zero_le _⟩ (fun _ _ h => by simp at h) hK hN rfl (Nat.le_of_ble_eq_true rfl) dX4_restore_3 ?_
  refine lv_if_ne (tgt := 12) hx hb dX4_restore_6 (by decide) (fun c_1 => ?_) (fun c_1 => ?_)
  · have c_1 : 0 ≤ x ∧ x ≤ 1 := sn_b_nz.mp c_1
    obtain ⟨k, hk1, hk2, hk3⟩ := sn_rng (lo := 0) (hi := 1) c_1 (by decide)
    subst hk3
    refine lv_aload_n hx hb dX4_restore_12 rfl (lv_at hl 0 rfl) ?_
    refine va_get (D := D) (ci := 3) (v := .ref (a 3)) (C := RX4) (T := TX4) (N := 6) hx hb hts huX4 hown hK hP 0 rfl rfl 2 (by decide) (hts (.fieldLink RX4 16 "SnowSlabsModel" "isKept" "[Z") (by decide +kernel)) (fun _ h9 => h9) rfl dX4_restore_13 ?_
    refine lv_iload_n hx hb dX4_restore_16 rfl (lv_at hl 1 rfl) ?_
    refine sn_zld (k := k) (v := kp k) 3 1 hx hb hK hP rfl rfl (by omega) (by decide) rfl (rfl) dX4_restore_17 ?_
    refine lv_if_ne (tgt := 24) hx hb dX4_restore_18 (by decide) (fun c_2 => ?_) (fun c_2 => ?_)
    · refine lv_iconst (v := 0) hx hb dX4_restore_24 (by decide) ?_
      refine lv_istore_n (lv' := [(2, .int 0), (0, .ref (a 0)), (1, .int (nI k))]) hx hb dX4_restore_25 rfl hl (by decide) rfl (fun ls hl => ?_)
      have loop : ∀ (fu : Nat) (i : Nat), (i ≤ 57) → 57 - i < fu → ∀ (H : Heap) (locs : List Loc), va_P D vwCl ([(a 0, .inr (3, [.ref (a 1), .ref (a 2), .ref (a 3), .ref (a 4), .ref (a 5), .int nb])), (a 1, .inl (cI, 57, .inl (sn_fil (fun j => g (57 * k + j)) f i))), (a 2, .inl (cI, 114, .inl g)), (a 3, .inl (cZ, 2, .inl kp)), (a 4, .inl (cI, 30, .inl tp)), (a 5, .inl (cI, 30, .inl ly))]) H → va_D A ([(a 0, .inr (3, [.ref (a 1), .ref (a 2), .ref (a 3), .ref (a 4), .ref (a 5), .int nb])), (a 1, .inl (cI, 57, .inl (sn_fil (fun j => g (57 * k + j)) f i))), (a 2, .inl (cI, 114, .inl g)), (a 3, .inl (cZ, 2, .inl kp)), (a 4, .inl (cI, 30, .inl tp)), (a 5, .inl (cI, 30, .inl ly))]) → va_S A s.heap H locs → ∀ ls : Array Slot, lv_has ls 3 [(0, .ref (a 0)), (1, .int (nI k)), (2, .int (nI i))] → W p l e (sn_rm 1 0 0) s m [.ref (a 0), .int (nI k)].toArray below meth c H locs 0 0 (MQ below (va_Qi (fun r_ (u_ : Nat → Int32) => r_ = sn_Rres kp (nI k) ∧ u_ = sn_Fres f g kp (nI k)) (fun u_ t_ => va_P D vwCl (sn_wM cI cZ a u_ g kp tp ly nb) t_.heap ∧ va_D A (sn_wM cI cZ a u_ g kp tp ly nb)) A) [.ref (a 0), .int (nI k)].toArray s 0 0 A) (F0 m 26 ls []) := by
        intro fu
        induction fu with
        | zero => intro i h1 hm; exact absurd hm (Nat.not_lt_zero _)
        | succ fu ih_loop =>
          intro i h1 hm H locs hP hD hS ls hl
          refine lv_iload_n hx hb dX4_restore_26 rfl (lv_at hl 2 rfl) ?_
          refine lv_bipush (v := 57) hx hb dX4_restore_27 (by decide) ?_
          refine lv_icmp_ge (tgt := 55) hx hb dX4_restore_29 (by decide) (fun c_3 => ?_) (fun c_3 => ?_)
          · have c_3 := (sn_cgej (a := i) (b := 57) rfl rfl (by omega) (by omega)).mp c_3
            refine lv_iconst (v := 1) hx hb dX4_restore_55 (by decide) ?_
            have hE : sn_eW ([(a 0, .inr (3, [.ref (a 1), .ref (a 2), .ref (a 3), .ref (a 4), .ref (a 5), .int nb])), (a 1, .inl (cI, 57, .inl (sn_fil (fun j => g (57 * k + j)) f i))), (a 2, .inl (cI, 114, .inl g)), (a 3, .inl (cZ, 2, .inl kp)), (a 4, .inl (cI, 30, .inl tp)), (a 5, .inl (cI, 30, .inl ly))]) (sn_wM cI cZ a (fun j => g (57 * k + j)) g kp tp ly nb) := sn_eC (sn_eQ _) (sn_eC (sn_eI (fun z_ hz => if_pos (by omega))) (sn_eS _))
            exact sn_uret (fun j => g (57 * k + j)) hx hb hr hlk dX4_restore_56 (hE.P hP) (hE.D hD) hS (((if_pos c_1).trans (by rw [nI_clamp (by omega)]; exact if_neg c_2)).symm) (((if_pos c_1).trans (by rw [nI_clamp (by omega)]; exact if_neg c_2)).symm) (Nat.le_of_ble_eq_true rfl) (Nat.le_of_ble_eq_true rfl)
          · have c_3 := (sn_cgef (a := i) (b := 57) rfl rfl (by omega) (by omega)).mp c_3
            refine lv_aload_n hx hb dX4_restore_32 rfl (lv_at hl 0 rfl) ?_
            refine va_get (D := D) (ci := 3) (v := .ref (a 1)) (C := RX4) (T := TX4) (N := 6) hx hb hts huX4 hown hK hP 0 rfl rfl 0 (by decide) (hts (.fieldLink RX4 7 "SnowSlabsModel" "state" "[I") (by decide +kernel)) (fun _ h9 => h9) rfl dX4_restore_33 ?_
            refine lv_iload_n hx hb dX4_restore_36 rfl (lv_at hl 2 rfl) ?_
            refine lv_aload_n hx hb dX4_restore_37 rfl (lv_at hl 0 rfl) ?_
            refine va_get (D := D) (ci := 3) (v := .ref (a 2)) (C := RX4) (T := TX4) (N := 6) hx hb hts huX4 hown hK hP 0 rfl rfl 1 (by decide) (hts (.fieldLink RX4 13 "SnowSlabsModel" "images" "[I") (by decide +kernel)) (fun _ h9 => h9) rfl dX4_restore_38 ?_
            refine lv_bipush (v := 57) hx hb dX4_restore_41 (by decide) ?_
            refine lv_iload_n hx hb dX4_restore_43 rfl (lv_at hl 1 rfl) ?_
            refine lv_imul hx hb dX4_restore_44 ?_
            refine sn_top (sn_nmul (a := 57) (b := k) rfl rfl) ?_
            refine lv_iload_n hx hb dX4_restore_45 rfl (lv_at hl 2 rfl) ?_
            refine lv_iadd hx hb dX4_restore_46 ?_
            refine sn_top (sn_nadd (a := 57 * k) (b := i) rfl rfl) ?_
            refine sn_ild (k := 57 * k + i) (v := g (57 * k + i)) 2 0 hx hb hK hP rfl rfl (by omega) (by decide) rfl (rfl) dX4_restore_47 ?_
            refine sn_ist (k := i) 1 0 hx hb hK hP hD hS rfl rfl (by omega) (by decide) rfl dX4_restore_48 (fun H locs hP hD hS => ?_)
            have hP : va_P D vwCl ([(a 0, .inr (3, [.ref (a 1), .ref (a 2), .ref (a 3), .ref (a 4), .ref (a 5), .int nb])), (a 1, .inl (cI, 57, .inl (upd (sn_fil (fun j => g (57 * k + j)) f i) i (g (57 * k + i))))), (a 2, .inl (cI, 114, .inl g)), (a 3, .inl (cZ, 2, .inl kp)), (a 4, .inl (cI, 30, .inl tp)), (a 5, .inl (cI, 30, .inl ly))]) H := hP
            have hD : va_D A ([(a 0, .inr (3, [.ref (a 1), .ref (a 2), .ref (a 3), .ref (a 4), .ref (a 5), .int nb])), (a 1, .inl (cI, 57, .inl (upd (sn_fil (fun j => g (57 * k + j)) f i) i (g (57 * k + i))))), (a 2, .inl (cI, 114, .inl g)), (a 3, .inl (cZ, 2, .inl kp)), (a 4, .inl (cI, 30, .inl tp)), (a 5, .inl (cI, 30, .inl ly))]) := hD
            refine lv_iinc (v := nI (i + 1)) (lv' := [(2, .int (nI (i + 1))), (0, .ref (a 0)), (1, .int (nI k))]) hx hb dX4_restore_49 hl (k := 2) rfl (sn_inc _) (by decide) rfl (fun ls hl => ?_)
            refine lv_goto (tgt := 26) hx hb dX4_restore_52 (by decide) ?_
            have hE : sn_eW ([(a 0, .inr (3, [.ref (a 1), .ref (a 2), .ref (a 3), .ref (a 4), .ref (a 5), .int nb])), (a 1, .inl (cI, 57, .inl (upd (sn_fil (fun j => g (57 * k + j)) f i) i (g (57 * k + i))))), (a 2, .inl (cI, 114, .inl g)), (a 3, .inl (cZ, 2, .inl kp)), (a 4, .inl (cI, 30, .inl tp)), (a 5, .inl (cI, 30, .inl ly))]) ([(a 0, .inr (3, [.ref (a 1), .ref (a 2), .ref (a 3), .ref (a 4), .ref (a 5), .int nb])), (a 1, .inl (cI, 57, .inl (sn_fil (fun j => g (57 * k + j)) f (i + 1)))), (a 2, .inl (cI, 114, .inl g)), (a 3, .inl (cZ, 2, .inl kp)), (a 4, .inl (cI, 30, .inl tp)), (a 5, .inl (cI, 30, .inl ly))]) := (by rw [← sn_fil_s]; exact sn_eS _)
            exact ih_loop (i + 1) (by omega) (by omega) _ _ (hE.P hP) (hE.D hD) hS ls (lv_sub hl [1, 2, 0] rfl)
      have hE : sn_eW ([(a 0, .inr (3, [.ref (a 1), .ref (a 2), .ref (a 3), .ref (a 4), .ref (a 5), .int nb])), (a 1, .inl (cI, 57, .inl f)), (a 2, .inl (cI, 114, .inl g)), (a 3, .inl (cZ, 2, .inl kp)), (a 4, .inl (cI, 30, .inl tp)), (a 5, .inl (cI, 30, .inl ly))]) ([(a 0, .inr (3, [.ref (a 1), .ref (a 2), .ref (a 3), .ref (a 4), .ref (a 5), .int nb])), (a 1, .inl (cI, 57, .inl (sn_fil (fun j => g (57 * k + j)) f 0))), (a 2, .inl (cI, 114, .inl g)), (a 3, .inl (cZ, 2, .inl kp)), (a 4, .inl (cI, 30, .inl tp)), (a 5, .inl (cI, 30, .inl ly))]) := sn_eC (sn_eQ _) (sn_eC (sn_eI (fun z_ hz => (if_neg (by omega)).symm)) (sn_eS _))
      exact loop ((57 - 0) + 1) 0 (Nat.zero_le _) (by omega) _ _ (hE.P hP) (hE.D hD) hS ls (lv_sub hl [1, 2, 0] rfl)
    · refine lv_bipush (v := (-3)) hx hb dX4_restore_21 (by decide) ?_
      exact sn_uret (f) hx hb hr hlk dX4_restore_23 hP hD hS (((if_pos c_1).trans (by rw [nI_clamp (by omega)]; exact if_pos c_2)).symm) (((if_pos c_1).trans (by rw [nI_clamp (by omega)]; exact if_pos c_2)).symm) (Nat.le_of_ble_eq_true rfl) (Nat.le_of_ble_eq_true rfl)
  · have c_1 : ¬ (0 ≤ x ∧ x ≤ 1) := sn_b_z.mp c_1
    refine lv_bipush (v := (-2)) hx hb dX4_restore_9 (by decide) ?_
    exact sn_uret (f) hx hb hr hlk dX4_restore_11 hP hD hS ((if_neg c_1).symm) ((if_neg c_1).symm) (Nat.le_of_ble_eq_true rfl) (Nat.le_of_ble_eq_true rfl)
