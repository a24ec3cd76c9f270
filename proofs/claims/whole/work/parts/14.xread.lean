set_option maxRecDepth 100000 in
set_option maxHeartbeats 4000000 in
theorem ct_X3_layer (l : Launch) (D : va_G) (cI cZ cR : ClassId) (o : Nat) (a bt : Nat → Nat) (im : Nat) (f : Nat → Int32) (n : Nat) (hI : sn_I f n) (x y : Int32) : sn_Rd l yX3_layer wsX3_layer 2 [.ref o, .int x, .int y] D (sn_ty cI cZ cR) (sn_wS cI cZ o a bt im f) (sn_Rlayer f n x y) := by
  refine sn_rd (cc := cX3_layer) (maxL := 3) (ret := (some .int)) (by decide) rfl (Nat.le_of_ble_eq_true rfl) ?_
  intro p e s m below meth c hx hb hml hr hlk hts hown hP hK hN ls hl
  have hC : CallFix p m c cX3_layer 3 s [.ref o, .int x, .int y].toArray wsX3_layer RX3 := ⟨hx, hb, hml, hown, hts⟩
  have hl : lv_has ls 3 [(0, .ref o), (1, .int x), (2, .int y)] := hl
  have huX0 : ∀ w ∈ wsX00, w ∈ wsX3_layer := by decide +kernel
  have huX3 : ∀ w ∈ wsX30, w ∈ wsX3_layer := by decide +kernel
  have hn10 := hI.2.1
  refine lv_aload_n hx hb dX3_layer_0 rfl (lv_at hl 0 rfl) ?_
  refine va_get (D := D) (ci := 2) (v := .ref (a 0)) (C := RX3) (T := TX3) (N := 3) hx hb hts huX3 hown hK hP 0 rfl rfl 0 (by decide) (hts (.fieldLink RX3 10 "SnowSlabs" "cover" "LSnowSlabs$Cover;") (by decide +kernel)) (fun _ h9 => h9) rfl dX3_layer_1 ?_
  refine lv_iload_n hx hb dX3_layer_4 rfl (lv_at hl 1 rfl) ?_
  refine sn_cV 1 0 hC hl (ct_X0_has l D cI cZ cR a f n (hI).1 x) gX3_layer_X0_has rfl (by decide +kernel) rfl ⟨Nat.le_of_ble_eq_true rfl, Nat.le_of_ble_eq_true rfl⟩ ⟨Nat.zero_le _, Nat.zero_le _⟩ (hP.sub (ws' := sn_wC cI cZ a f) [1, 2, 3, 4, 5, 6, 7] rfl) hK hN rfl rfl rfl (Nat.le_of_ble_eq_true rfl) dX3_layer_5 ?_
  refine lv_if_ne (tgt := 13) hx hb dX3_layer_8 (by decide) (fun c_1 => ?_) (fun c_1 => ?_)
  · have c_1 : 0 ≤ x ∧ x ≤ nI n - 1 := sn_b_nz.mp c_1
    obtain ⟨i, hi, hie⟩ := sn_isL hn10 c_1
    subst hie
    refine lv_iload_n hx hb dX3_layer_13 rfl (lv_at hl 2 rfl) ?_
    by_cases t_0 : y = 0
    · subst t_0
      refine lv_tableIn (tgt := 60) hx hb dX3_layer_14 (by decide) (by decide) (by decide +kernel : _ = some (46 : Int)) (by decide) ?_
      refine lv_aload_n hx hb dX3_layer_60 rfl (lv_at hl 0 rfl) ?_
      refine va_get (D := D) (ci := 2) (v := .ref (a 0)) (C := RX3) (T := TX3) (N := 3) hx hb hts huX3 hown hK hP 0 rfl rfl 0 (by decide) (hts (.fieldLink RX3 10 "SnowSlabs" "cover" "LSnowSlabs$Cover;") (by decide +kernel)) (fun _ h9 => h9) rfl dX3_layer_61 ?_
      refine va_get (D := D) (ci := 0) (v := .ref (a 1)) (C := RX0) (T := TX0) (N := 8) hx hb hts huX0 hown hK hP 1 rfl rfl 2 (by decide) (hts (.fieldLink RX3 47 "SnowSlabs$Cover" "thick" "[I") (by decide +kernel)) (fun _ h9 => h9) rfl dX3_layer_64 ?_
      refine lv_iload_n hx hb dX3_layer_67 rfl (lv_at hl 1 rfl) ?_
      refine sn_ild (k := i) (v := f (7 + 5 * i)) 2 0 hx hb hK hP rfl rfl (by omega) (by decide) rfl (rfl) dX3_layer_68 ?_
      exact sn_ret hx hb hr hlk dX3_layer_69 (((if_pos c_1).trans ((congrArg (fun z => sn_RlayerN f n z 0) (nI_clamp (by omega))).trans (rfl))).symm)
    · skip
      by_cases t_1 : y = 1
      · subst t_1
        refine lv_tableIn (tgt := 70) hx hb dX3_layer_14 (by decide) (by decide) (by decide +kernel : _ = some (56 : Int)) (by decide) ?_
        refine lv_aload_n hx hb dX3_layer_70 rfl (lv_at hl 0 rfl) ?_
        refine va_get (D := D) (ci := 2) (v := .ref (a 0)) (C := RX3) (T := TX3) (N := 3) hx hb hts huX3 hown hK hP 0 rfl rfl 0 (by decide) (hts (.fieldLink RX3 10 "SnowSlabs" "cover" "LSnowSlabs$Cover;") (by decide +kernel)) (fun _ h9 => h9) rfl dX3_layer_71 ?_
        refine va_get (D := D) (ci := 0) (v := .ref (a 2)) (C := RX0) (T := TX0) (N := 8) hx hb hts huX0 hown hK hP 1 rfl rfl 3 (by decide) (hts (.fieldLink RX3 50 "SnowSlabs$Cover" "dense" "[I") (by decide +kernel)) (fun _ h9 => h9) rfl dX3_layer_74 ?_
        refine lv_iload_n hx hb dX3_layer_77 rfl (lv_at hl 1 rfl) ?_
        refine sn_ild (k := i) (v := f (8 + 5 * i)) 3 0 hx hb hK hP rfl rfl (by omega) (by decide) rfl (rfl) dX3_layer_78 ?_
        exact sn_ret hx hb hr hlk dX3_layer_79 (((if_pos c_1).trans ((congrArg (fun z => sn_RlayerN f n z 1) (nI_clamp (by omega))).trans (rfl))).symm)
      · skip
        by_cases t_2 : y = 2
        · subst t_2
          refine lv_tableIn (tgt := 80) hx hb dX3_layer_14 (by decide) (by decide) (by decide +kernel : _ = some (66 : Int)) (by decide) ?_
          refine lv_aload_n hx hb dX3_layer_80 rfl (lv_at hl 0 rfl) ?_
          refine va_get (D := D) (ci := 2) (v := .ref (a 0)) (C := RX3) (T := TX3) (N := 3) hx hb hts huX3 hown hK hP 0 rfl rfl 0 (by decide) (hts (.fieldLink RX3 10 "SnowSlabs" "cover" "LSnowSlabs$Cover;") (by decide +kernel)) (fun _ h9 => h9) rfl dX3_layer_81 ?_
          refine va_get (D := D) (ci := 0) (v := .ref (a 3)) (C := RX0) (T := TX0) (N := 8) hx hb hts huX0 hown hK hP 1 rfl rfl 4 (by decide) (hts (.fieldLink RX3 53 "SnowSlabs$Cover" "grain" "[I") (by decide +kernel)) (fun _ h9 => h9) rfl dX3_layer_84 ?_
          refine lv_iload_n hx hb dX3_layer_87 rfl (lv_at hl 1 rfl) ?_
          refine sn_ild (k := i) (v := f (9 + 5 * i)) 4 0 hx hb hK hP rfl rfl (by omega) (by decide) rfl (rfl) dX3_layer_88 ?_
          exact sn_ret hx hb hr hlk dX3_layer_89 (((if_pos c_1).trans ((congrArg (fun z => sn_RlayerN f n z 2) (nI_clamp (by omega))).trans (rfl))).symm)
        · skip
          by_cases t_3 : y = 3
          · subst t_3
            refine lv_tableIn (tgt := 90) hx hb dX3_layer_14 (by decide) (by decide) (by decide +kernel : _ = some (76 : Int)) (by decide) ?_
            refine lv_aload_n hx hb dX3_layer_90 rfl (lv_at hl 0 rfl) ?_
            refine va_get (D := D) (ci := 2) (v := .ref (a 0)) (C := RX3) (T := TX3) (N := 3) hx hb hts huX3 hown hK hP 0 rfl rfl 0 (by decide) (hts (.fieldLink RX3 10 "SnowSlabs" "cover" "LSnowSlabs$Cover;") (by decide +kernel)) (fun _ h9 => h9) rfl dX3_layer_91 ?_
            refine va_get (D := D) (ci := 0) (v := .ref (a 4)) (C := RX0) (T := TX0) (N := 8) hx hb hts huX0 hown hK hP 1 rfl rfl 5 (by decide) (hts (.fieldLink RX3 56 "SnowSlabs$Cover" "hard" "[I") (by decide +kernel)) (fun _ h9 => h9) rfl dX3_layer_94 ?_
            refine lv_iload_n hx hb dX3_layer_97 rfl (lv_at hl 1 rfl) ?_
            refine sn_ild (k := i) (v := f (10 + 5 * i)) 5 0 hx hb hK hP rfl rfl (by omega) (by decide) rfl (rfl) dX3_layer_98 ?_
            exact sn_ret hx hb hr hlk dX3_layer_99 (((if_pos c_1).trans ((congrArg (fun z => sn_RlayerN f n z 3) (nI_clamp (by omega))).trans (rfl))).symm)
          · skip
            by_cases t_4 : y = 4
            · subst t_4
              refine lv_tableIn (tgt := 100) hx hb dX3_layer_14 (by decide) (by decide) (by decide +kernel : _ = some (86 : Int)) (by decide) ?_
              refine lv_aload_n hx hb dX3_layer_100 rfl (lv_at hl 0 rfl) ?_
              refine va_get (D := D) (ci := 2) (v := .ref (a 0)) (C := RX3) (T := TX3) (N := 3) hx hb hts huX3 hown hK hP 0 rfl rfl 0 (by decide) (hts (.fieldLink RX3 10 "SnowSlabs" "cover" "LSnowSlabs$Cover;") (by decide +kernel)) (fun _ h9 => h9) rfl dX3_layer_101 ?_
              refine va_get (D := D) (ci := 0) (v := .ref (a 5)) (C := RX0) (T := TX0) (N := 8) hx hb hts huX0 hown hK hP 1 rfl rfl 6 (by decide) (hts (.fieldLink RX3 59 "SnowSlabs$Cover" "wet" "[Z") (by decide +kernel)) (fun _ h9 => h9) rfl dX3_layer_104 ?_
              refine lv_iload_n hx hb dX3_layer_107 rfl (lv_at hl 1 rfl) ?_
              refine sn_zld (k := i) (v := f (11 + 5 * i)) 6 1 hx hb hK hP rfl rfl (by omega) (by decide) rfl (rfl) dX3_layer_108 ?_
              refine lv_if_eq (tgt := 116) hx hb dX3_layer_109 (by decide) (fun c_2 => ?_) (fun c_2 => ?_)
              · refine lv_iconst (v := 0) hx hb dX3_layer_116 (by decide) ?_
                exact sn_ret hx hb hr hlk dX3_layer_117 (((if_pos c_1).trans ((congrArg (fun z => sn_RlayerN f n z 4) (nI_clamp (by omega))).trans (show f (11 + 5 * i) = _ from c_2))).symm)
              · refine lv_iconst (v := 1) hx hb dX3_layer_112 (by decide) ?_
                refine lv_goto (tgt := 117) hx hb dX3_layer_113 (by decide) ?_
                exact sn_ret hx hb hr hlk dX3_layer_117 (((if_pos c_1).trans ((congrArg (fun z => sn_RlayerN f n z 4) (nI_clamp (by omega))).trans (show f (11 + 5 * i) = _ from (hI.2.2.2 i (by omega)).2.2.2.2.resolve_left c_2))).symm)
            · skip
              by_cases t_5 : y = 5
              · subst t_5
                refine lv_tableIn (tgt := 118) hx hb dX3_layer_14 (by decide) (by decide) (by decide +kernel : _ = some (104 : Int)) (by decide) ?_
                refine lv_aload_n hx hb dX3_layer_118 rfl (lv_at hl 0 rfl) ?_
                refine va_get (D := D) (ci := 2) (v := .ref (a 0)) (C := RX3) (T := TX3) (N := 3) hx hb hts huX3 hown hK hP 0 rfl rfl 0 (by decide) (hts (.fieldLink RX3 10 "SnowSlabs" "cover" "LSnowSlabs$Cover;") (by decide +kernel)) (fun _ h9 => h9) rfl dX3_layer_119 ?_
                refine lv_iload_n hx hb dX3_layer_122 rfl (lv_at hl 1 rfl) ?_
                refine sn_cV 1 0 hC hl (ct_X0_strength l D cI cZ cR a f n hI i (by have := hI.2.1; omega)) gX3_layer_X0_strength rfl (by decide +kernel) rfl ⟨Nat.le_of_ble_eq_true rfl, Nat.le_of_ble_eq_true rfl⟩ ⟨Nat.zero_le _, Nat.zero_le _⟩ (hP.sub (ws' := sn_wC cI cZ a f) [1, 2, 3, 4, 5, 6, 7] rfl) hK hN rfl rfl rfl (Nat.le_of_ble_eq_true rfl) dX3_layer_123 ?_
                exact sn_ret hx hb hr hlk dX3_layer_126 (((if_pos c_1).trans ((congrArg (fun z => sn_RlayerN f n z 5) (nI_clamp (by omega))).trans (rfl))).symm)
              · skip
                by_cases t_6 : y = 6
                · subst t_6
                  refine lv_tableIn (tgt := 127) hx hb dX3_layer_14 (by decide) (by decide) (by decide +kernel : _ = some (113 : Int)) (by decide) ?_
                  refine lv_aload_n hx hb dX3_layer_127 rfl (lv_at hl 0 rfl) ?_
                  refine va_get (D := D) (ci := 2) (v := .ref (a 0)) (C := RX3) (T := TX3) (N := 3) hx hb hts huX3 hown hK hP 0 rfl rfl 0 (by decide) (hts (.fieldLink RX3 10 "SnowSlabs" "cover" "LSnowSlabs$Cover;") (by decide +kernel)) (fun _ h9 => h9) rfl dX3_layer_128 ?_
                  refine lv_iload_n hx hb dX3_layer_131 rfl (lv_at hl 1 rfl) ?_
                  refine lv_aload_n hx hb dX3_layer_132 rfl (lv_at hl 0 rfl) ?_
                  refine va_get (D := D) (ci := 2) (v := .ref (a 0)) (C := RX3) (T := TX3) (N := 3) hx hb hts huX3 hown hK hP 0 rfl rfl 0 (by decide) (hts (.fieldLink RX3 10 "SnowSlabs" "cover" "LSnowSlabs$Cover;") (by decide +kernel)) (fun _ h9 => h9) rfl dX3_layer_133 ?_
                  refine va_get (D := D) (ci := 0) (v := .int (f 0)) (C := RX0) (T := TX0) (N := 8) hx hb hts huX0 hown hK hP 1 rfl rfl 0 (by decide) (hts (.fieldLink RX3 31 "SnowSlabs$Cover" "size" "I") (by decide +kernel)) (fun _ h9 => h9) rfl dX3_layer_136 ?_
                  refine sn_top (hI.1) ?_
                  refine sn_cV 2 0 hC hl (ct_X0_depth l D cI cZ cR a f (nI i) (i + 1) n (nI_1 _) (by omega) (by first | exact hI.2.1 | omega)) gX3_layer_X0_depth rfl (by decide +kernel) rfl ⟨Nat.le_of_ble_eq_true rfl, Nat.le_of_ble_eq_true rfl⟩ ⟨Nat.zero_le _, Nat.zero_le _⟩ (hP.sub (ws' := sn_wC cI cZ a f) [1, 2, 3, 4, 5, 6, 7] rfl) hK hN rfl rfl rfl (Nat.le_of_ble_eq_true rfl) dX3_layer_139 ?_
                  exact sn_ret hx hb hr hlk dX3_layer_142 (((if_pos c_1).trans ((congrArg (fun z => sn_RlayerN f n z 6) (nI_clamp (by omega))).trans (rfl))).symm)
                · skip
                  by_cases t_7 : y = 7
                  · subst t_7
                    refine lv_tableIn (tgt := 143) hx hb dX3_layer_14 (by decide) (by decide) (by decide +kernel : _ = some (129 : Int)) (by decide) ?_
                    refine lv_aload_n hx hb dX3_layer_143 rfl (lv_at hl 0 rfl) ?_
                    refine va_get (D := D) (ci := 2) (v := .ref (a 0)) (C := RX3) (T := TX3) (N := 3) hx hb hts huX3 hown hK hP 0 rfl rfl 0 (by decide) (hts (.fieldLink RX3 10 "SnowSlabs" "cover" "LSnowSlabs$Cover;") (by decide +kernel)) (fun _ h9 => h9) rfl dX3_layer_144 ?_
                    refine lv_iload_n hx hb dX3_layer_147 rfl (lv_at hl 1 rfl) ?_
                    refine lv_aload_n hx hb dX3_layer_148 rfl (lv_at hl 0 rfl) ?_
                    refine va_get (D := D) (ci := 2) (v := .ref (a 0)) (C := RX3) (T := TX3) (N := 3) hx hb hts huX3 hown hK hP 0 rfl rfl 0 (by decide) (hts (.fieldLink RX3 10 "SnowSlabs" "cover" "LSnowSlabs$Cover;") (by decide +kernel)) (fun _ h9 => h9) rfl dX3_layer_149 ?_
                    refine va_get (D := D) (ci := 0) (v := .int (f 0)) (C := RX0) (T := TX0) (N := 8) hx hb hts huX0 hown hK hP 1 rfl rfl 0 (by decide) (hts (.fieldLink RX3 31 "SnowSlabs$Cover" "size" "I") (by decide +kernel)) (fun _ h9 => h9) rfl dX3_layer_152 ?_
                    refine sn_top (hI.1) ?_
                    refine sn_cV 2 0 hC hl (ct_X0_load l D cI cZ cR a f i n (by omega) (by first | exact hI.2.1 | omega)) gX3_layer_X0_load rfl (by decide +kernel) rfl ⟨Nat.le_of_ble_eq_true rfl, Nat.le_of_ble_eq_true rfl⟩ ⟨Nat.zero_le _, Nat.zero_le _⟩ (hP.sub (ws' := sn_wC cI cZ a f) [1, 2, 3, 4, 5, 6, 7] rfl) hK hN rfl rfl rfl (Nat.le_of_ble_eq_true rfl) dX3_layer_155 ?_
                    exact sn_ret hx hb hr hlk dX3_layer_158 (((if_pos c_1).trans ((congrArg (fun z => sn_RlayerN f n z 7) (nI_clamp (by omega))).trans (rfl))).symm)
                  · refine lv_tableOut (tgt := 159) hx hb dX3_layer_14 (by have e0 := lv_neT t_0 (a := 0) rfl; have e1 := lv_neT t_1 (a := 1) rfl; have e2 := lv_neT t_2 (a := 2) rfl; have e3 := lv_neT t_3 (a := 3) rfl; have e4 := lv_neT t_4 (a := 4) rfl; have e5 := lv_neT t_5 (a := 5) rfl; have e6 := lv_neT t_6 (a := 6) rfl; have e7 := lv_neT t_7 (a := 7) rfl; omega) (by decide) ?_
                    refine lv_bipush (v := (-2)) hx hb dX3_layer_159 (by decide) ?_
                    exact sn_ret hx hb hr hlk dX3_layer_161 (((if_pos c_1).trans (show sn_RlayerN f n _ y = -2 from (((if_neg t_0).trans ((if_neg t_1).trans ((if_neg t_2).trans ((if_neg t_3).trans ((if_neg t_4).trans ((if_neg t_5).trans ((if_neg t_6).trans ((if_neg t_7).trans (rfl))))))))).symm).symm)).symm)
  · have c_1 : ¬ (0 ≤ x ∧ x ≤ nI n - 1) := sn_b_z.mp c_1
    refine lv_iconst (v := (-1)) hx hb dX3_layer_11 (by decide) ?_
    exact sn_ret hx hb hr hlk dX3_layer_12 ((if_neg c_1).symm)
set_option maxRecDepth 100000 in
set_option maxHeartbeats 4000000 in
theorem ct_X3_slope (l : Launch) (D : va_G) (cI cZ cR : ClassId) (o : Nat) (a bt : Nat → Nat) (im : Nat) (f : Nat → Int32) (n : Nat) (hI : sn_I f n) (x y z : Int32) : sn_Rd l yX3_slope wsX3_slope 4 [.ref o, .int x, .int y, .int z] D (sn_ty cI cZ cR) (sn_wS cI cZ o a bt im f) (sn_Rslope f n x y z) := by
  refine sn_rd (cc := cX3_slope) (maxL := 4) (ret := (some .int)) (by decide) rfl (Nat.le_of_ble_eq_true rfl) ?_
  intro p e s m below meth c hx hb hml hr hlk hts hown hP hK hN ls hl
  have hC : CallFix p m c cX3_slope 4 s [.ref o, .int x, .int y, .int z].toArray wsX3_slope RX3 := ⟨hx, hb, hml, hown, hts⟩
  have hl : lv_has ls 4 [(0, .ref o), (1, .int x), (2, .int y), (3, .int z)] := hl
  have huX3 : ∀ w ∈ wsX30, w ∈ wsX3_slope := by decide +kernel
  have hn10 := hI.2.1
  refine lv_aload_n hx hb dX3_slope_0 rfl (lv_at hl 0 rfl) ?_
  refine va_get (D := D) (ci := 2) (v := .ref (a 0)) (C := RX3) (T := TX3) (N := 3) hx hb hts huX3 hown hK hP 0 rfl rfl 0 (by decide) (hts (.fieldLink RX3 10 "SnowSlabs" "cover" "LSnowSlabs$Cover;") (by decide +kernel)) (fun _ h9 => h9) rfl dX3_slope_1 ?_
  refine lv_iload_n hx hb dX3_slope_4 rfl (lv_at hl 1 rfl) ?_
  refine sn_cV 1 0 hC hl (ct_X0_has l D cI cZ cR a f n (hI).1 x) gX3_slope_X0_has rfl (by decide +kernel) rfl ⟨Nat.le_of_ble_eq_true rfl, Nat.le_of_ble_eq_true rfl⟩ ⟨Nat.zero_le _, Nat.zero_le _⟩ (hP.sub (ws' := sn_wC cI cZ a f) [1, 2, 3, 4, 5, 6, 7] rfl) hK hN rfl rfl rfl (Nat.le_of_ble_eq_true rfl) dX3_slope_5 ?_
  refine lv_if_ne (tgt := 13) hx hb dX3_slope_8 (by decide) (fun c_1 => ?_) (fun c_1 => ?_)
  · have c_1 : 0 ≤ x ∧ x ≤ nI n - 1 := sn_b_nz.mp c_1
    obtain ⟨i, hi, hie⟩ := sn_isL hn10 c_1
    subst hie
    refine lv_iload_n hx hb dX3_slope_13 rfl (lv_at hl 2 rfl) ?_
    refine lv_iconst (v := 0) hx hb dX3_slope_14 (by decide) ?_
    refine lv_bipush (v := 100) hx hb dX3_slope_15 (by decide) ?_
    refine sn_cS 3 hC hl (ct_X3_within l D _ [] y 0 100) gX3_slope_X3_within rfl (by decide +kernel) rfl ⟨Nat.le_of_ble_eq_true rfl, Nat.le_of_ble_eq_true rfl⟩ ⟨Nat.zero_le _, Nat.zero_le _⟩ (fun _ _ h => by simp at h) hK hN rfl (Nat.le_of_ble_eq_true rfl) dX3_slope_17 ?_
    refine lv_if_eq (tgt := 32) hx hb dX3_slope_20 (by decide) (fun c_2 => ?_) (fun c_2 => ?_)
    · have c_2 : ¬ (0 ≤ y ∧ y ≤ 100) := sn_b_z.mp c_2
      refine lv_bipush (v := (-2)) hx hb dX3_slope_32 (by decide) ?_
      exact sn_ret hx hb hr hlk dX3_slope_34 (((if_pos c_1).trans (if_neg (fun h => c_2 h.1))).symm)
    · have c_2 : 0 ≤ y ∧ y ≤ 100 := sn_b_nz.mp c_2
      refine lv_iload_n hx hb dX3_slope_23 rfl (lv_at hl 3 rfl) ?_
      refine lv_iconst (v := 0) hx hb dX3_slope_24 (by decide) ?_
      refine lv_iconst (v := 1) hx hb dX3_slope_25 (by decide) ?_
      refine sn_cS 3 hC hl (ct_X3_within l D _ [] z 0 1) gX3_slope_X3_within rfl (by decide +kernel) rfl ⟨Nat.le_of_ble_eq_true rfl, Nat.le_of_ble_eq_true rfl⟩ ⟨Nat.zero_le _, Nat.zero_le _⟩ (fun _ _ h => by simp at h) hK hN rfl (Nat.le_of_ble_eq_true rfl) dX3_slope_26 ?_
      refine lv_if_ne (tgt := 35) hx hb dX3_slope_29 (by decide) (fun c_3 => ?_) (fun c_3 => ?_)
      · have c_3 : 0 ≤ z ∧ z ≤ 1 := sn_b_nz.mp c_3
        refine lv_iload_n hx hb dX3_slope_35 rfl (lv_at hl 3 rfl) ?_
        refine lv_if_ne (tgt := 51) hx hb dX3_slope_36 (by decide) (fun c_4 => ?_) (fun c_4 => ?_)
        · refine lv_aload_n hx hb dX3_slope_51 rfl (lv_at hl 0 rfl) ?_
          refine va_get (D := D) (ci := 2) (v := .ref (a 0)) (C := RX3) (T := TX3) (N := 3) hx hb hts huX3 hown hK hP 0 rfl rfl 0 (by decide) (hts (.fieldLink RX3 10 "SnowSlabs" "cover" "LSnowSlabs$Cover;") (by decide +kernel)) (fun _ h9 => h9) rfl dX3_slope_52 ?_
          refine lv_iload_n hx hb dX3_slope_55 rfl (lv_at hl 1 rfl) ?_
          refine lv_iload_n hx hb dX3_slope_56 rfl (lv_at hl 2 rfl) ?_
          refine sn_cV 2 0 hC hl (ct_X0_margin l D cI cZ cR a f n hI i (by omega) y) gX3_slope_X0_margin rfl (by decide +kernel) rfl ⟨Nat.le_of_ble_eq_true rfl, Nat.le_of_ble_eq_true rfl⟩ ⟨Nat.zero_le _, Nat.zero_le _⟩ (hP.sub (ws' := sn_wC cI cZ a f) [1, 2, 3, 4, 5, 6, 7] rfl) hK hN rfl rfl rfl (Nat.le_of_ble_eq_true rfl) dX3_slope_57 ?_
          exact sn_ret hx hb hr hlk dX3_slope_60 (((if_pos c_1).trans ((if_pos (⟨c_2, c_3⟩)).trans ((if_neg c_4).trans (by rw [nI_clamp (by omega)])))).symm)
        · refine lv_aload_n hx hb dX3_slope_39 rfl (lv_at hl 0 rfl) ?_
          refine va_get (D := D) (ci := 2) (v := .ref (a 0)) (C := RX3) (T := TX3) (N := 3) hx hb hts huX3 hown hK hP 0 rfl rfl 0 (by decide) (hts (.fieldLink RX3 10 "SnowSlabs" "cover" "LSnowSlabs$Cover;") (by decide +kernel)) (fun _ h9 => h9) rfl dX3_slope_40 ?_
          refine lv_iload_n hx hb dX3_slope_43 rfl (lv_at hl 1 rfl) ?_
          refine lv_iload_n hx hb dX3_slope_44 rfl (lv_at hl 2 rfl) ?_
          refine sn_cV 2 0 hC hl (ct_X0_shear l D cI cZ cR a f n hI i (by omega) y) gX3_slope_X0_shear rfl (by decide +kernel) rfl ⟨Nat.le_of_ble_eq_true rfl, Nat.le_of_ble_eq_true rfl⟩ ⟨Nat.zero_le _, Nat.zero_le _⟩ (hP.sub (ws' := sn_wC cI cZ a f) [1, 2, 3, 4, 5, 6, 7] rfl) hK hN rfl rfl rfl (Nat.le_of_ble_eq_true rfl) dX3_slope_45 ?_
          refine lv_goto (tgt := 60) hx hb dX3_slope_48 (by decide) ?_
          exact sn_ret hx hb hr hlk dX3_slope_60 (((if_pos c_1).trans ((if_pos (⟨c_2, c_3⟩)).trans ((if_pos c_4).trans (by rw [nI_clamp (by omega)])))).symm)
      · have c_3 : ¬ (0 ≤ z ∧ z ≤ 1) := sn_b_z.mp c_3
        refine lv_bipush (v := (-2)) hx hb dX3_slope_32 (by decide) ?_
        exact sn_ret hx hb hr hlk dX3_slope_34 (((if_pos c_1).trans (if_neg (fun h => c_3 h.2))).symm)
  · have c_1 : ¬ (0 ≤ x ∧ x ≤ nI n - 1) := sn_b_z.mp c_1
    refine lv_iconst (v := (-1)) hx hb dX3_slope_11 (by decide) ?_
    exact sn_ret hx hb hr hlk dX3_slope_12 ((if_neg c_1).symm)
set_option maxRecDepth 100000 in
set_option maxHeartbeats 4000000 in
theorem ct_X3_weakest (l : Launch) (D : va_G) (cI cZ cR : ClassId) (o : Nat) (a bt : Nat → Nat) (im : Nat) (f : Nat → Int32) (n : Nat) (hI : sn_I f n) (x y : Int32) : sn_Rd l yX3_weakest wsX3_weakest 5 [.ref o, .int x, .int y] D (sn_ty cI cZ cR) (sn_wS cI cZ o a bt im f) (sn_Rweak f n x y) := by
  refine sn_rd (cc := cX3_weakest) (maxL := 4) (ret := (some .int)) (by decide) rfl (Nat.le_of_ble_eq_true rfl) ?_
  intro p e s m below meth c hx hb hml hr hlk hts hown hP hK hN ls hl
  have hC : CallFix p m c cX3_weakest 4 s [.ref o, .int x, .int y].toArray wsX3_weakest RX3 := ⟨hx, hb, hml, hown, hts⟩
  have hl : lv_has ls 4 [(0, .ref o), (1, .int x), (2, .int y)] := hl
  have huX3 : ∀ w ∈ wsX30, w ∈ wsX3_weakest := by decide +kernel
  have hn10 := hI.2.1
  have hwl : sn_wk f n x ≤ n - 1 := sn_wkA_le f n x (n - 1)
  refine lv_iload_n hx hb dX3_weakest_0 rfl (lv_at hl 1 rfl) ?_
  refine lv_iconst (v := 0) hx hb dX3_weakest_1 (by decide) ?_
  refine lv_bipush (v := 100) hx hb dX3_weakest_2 (by decide) ?_
  refine sn_cS 3 hC hl (ct_X3_within l D _ [] x 0 100) gX3_weakest_X3_within rfl (by decide +kernel) rfl ⟨Nat.le_of_ble_eq_true rfl, Nat.le_of_ble_eq_true rfl⟩ ⟨Nat.zero_le _, Nat.zero_le _⟩ (fun _ _ h => by simp at h) hK hN rfl (Nat.le_of_ble_eq_true rfl) dX3_weakest_4 ?_
  refine lv_if_eq (tgt := 19) hx hb dX3_weakest_7 (by decide) (fun c_1 => ?_) (fun c_1 => ?_)
  · have c_1 : ¬ (0 ≤ x ∧ x ≤ 100) := sn_b_z.mp c_1
    refine lv_bipush (v := (-2)) hx hb dX3_weakest_19 (by decide) ?_
    exact sn_ret hx hb hr hlk dX3_weakest_21 ((if_neg (fun h => c_1 h.1)).symm)
  · have c_1 : 0 ≤ x ∧ x ≤ 100 := sn_b_nz.mp c_1
    refine lv_iload_n hx hb dX3_weakest_10 rfl (lv_at hl 2 rfl) ?_
    refine lv_iconst (v := 0) hx hb dX3_weakest_11 (by decide) ?_
    refine lv_iconst (v := 1) hx hb dX3_weakest_12 (by decide) ?_
    refine sn_cS 3 hC hl (ct_X3_within l D _ [] y 0 1) gX3_weakest_X3_within rfl (by decide +kernel) rfl ⟨Nat.le_of_ble_eq_true rfl, Nat.le_of_ble_eq_true rfl⟩ ⟨Nat.zero_le _, Nat.zero_le _⟩ (fun _ _ h => by simp at h) hK hN rfl (Nat.le_of_ble_eq_true rfl) dX3_weakest_13 ?_
    refine lv_if_ne (tgt := 22) hx hb dX3_weakest_16 (by decide) (fun c_2 => ?_) (fun c_2 => ?_)
    · have c_2 : 0 ≤ y ∧ y ≤ 1 := sn_b_nz.mp c_2
      refine lv_aload_n hx hb dX3_weakest_22 rfl (lv_at hl 0 rfl) ?_
      refine va_get (D := D) (ci := 2) (v := .ref (a 0)) (C := RX3) (T := TX3) (N := 3) hx hb hts huX3 hown hK hP 0 rfl rfl 0 (by decide) (hts (.fieldLink RX3 10 "SnowSlabs" "cover" "LSnowSlabs$Cover;") (by decide +kernel)) (fun _ h9 => h9) rfl dX3_weakest_23 ?_
      refine lv_iload_n hx hb dX3_weakest_26 rfl (lv_at hl 1 rfl) ?_
      refine sn_cV 1 0 hC hl (ct_X0_leastMargin l D cI cZ cR a f n hI x) gX3_weakest_X0_leastMargin rfl (by decide +kernel) rfl ⟨Nat.le_of_ble_eq_true rfl, Nat.le_of_ble_eq_true rfl⟩ ⟨Nat.zero_le _, Nat.zero_le _⟩ (hP.sub (ws' := sn_wC cI cZ a f) [1, 2, 3, 4, 5, 6, 7] rfl) hK hN rfl rfl rfl (Nat.le_of_ble_eq_true rfl) dX3_weakest_27 ?_
      refine lv_istore_n (lv' := [(3, .int (sn_en (sn_wk f n x))), (0, .ref o), (1, .int x), (2, .int y)]) hx hb dX3_weakest_30 rfl hl (by decide) rfl (fun ls hl => ?_)
      refine lv_iload_n hx hb dX3_weakest_31 rfl (lv_at hl 0 rfl) ?_
      refine lv_bipush (v := (-6)) hx hb dX3_weakest_32 (by decide) ?_
      refine lv_icmp_ne (tgt := 40) hx hb dX3_weakest_34 (by decide) (fun c_3 => ?_) (fun c_3 => ?_)
      · have c_3 : ¬ sn_wk f n x = 0 := fun z => c_3 ((sn_en_none (by omega)).mpr z)
        refine lv_iload_n hx hb dX3_weakest_40 rfl (lv_at hl 3 rfl) ?_
        refine lv_if_ne (tgt := 48) hx hb dX3_weakest_41 (by decide) (fun c_4 => ?_) (fun c_4 => ?_)
        · refine lv_aload_n hx hb dX3_weakest_48 rfl (lv_at hl 1 rfl) ?_
          refine va_get (D := D) (ci := 2) (v := .ref (a 0)) (C := RX3) (T := TX3) (N := 3) hx hb hts huX3 hown hK hP 0 rfl rfl 0 (by decide) (hts (.fieldLink RX3 10 "SnowSlabs" "cover" "LSnowSlabs$Cover;") (by decide +kernel)) (fun _ h9 => h9) rfl dX3_weakest_49 ?_
          refine lv_iload_n hx hb dX3_weakest_52 rfl (lv_at hl 0 rfl) ?_
          refine sn_top (y := nI (sn_wk f n x - 1)) (sn_en_pos c_3) ?_
          refine lv_iload_n hx hb dX3_weakest_53 rfl (lv_at hl 2 rfl) ?_
          refine sn_cV 2 0 hC hl (ct_X0_margin l D cI cZ cR a f n hI (sn_wk f n x - 1) (by omega) x) gX3_weakest_X0_margin rfl (by decide +kernel) rfl ⟨Nat.le_of_ble_eq_true rfl, Nat.le_of_ble_eq_true rfl⟩ ⟨Nat.zero_le _, Nat.zero_le _⟩ (hP.sub (ws' := sn_wC cI cZ a f) [1, 2, 3, 4, 5, 6, 7] rfl) hK hN rfl rfl rfl (Nat.le_of_ble_eq_true rfl) dX3_weakest_54 ?_
          exact sn_ret hx hb hr hlk dX3_weakest_57 (((if_pos (⟨c_1, c_2⟩)).trans ((if_neg c_3).trans (if_neg c_4))).symm)
        · refine lv_iload_n hx hb dX3_weakest_44 rfl (lv_at hl 0 rfl) ?_
          refine lv_goto (tgt := 57) hx hb dX3_weakest_45 (by decide) ?_
          exact sn_ret hx hb hr hlk dX3_weakest_57 (((if_pos (⟨c_1, c_2⟩)).trans ((if_neg c_3).trans ((if_pos c_4).trans ((sn_en_pos c_3).symm)))).symm)
      · have c_3 := (sn_en_none (by omega)).mp c_3
        refine lv_bipush (v := (-6)) hx hb dX3_weakest_37 (by decide) ?_
        exact sn_ret hx hb hr hlk dX3_weakest_39 (((if_pos (⟨c_1, c_2⟩)).trans (if_pos c_3)).symm)
    · have c_2 : ¬ (0 ≤ y ∧ y ≤ 1) := sn_b_z.mp c_2
      refine lv_bipush (v := (-2)) hx hb dX3_weakest_19 (by decide) ?_
      exact sn_ret hx hb hr hlk dX3_weakest_21 ((if_neg (fun h => c_2 h.2)).symm)
set_option maxRecDepth 100000 in
set_option maxHeartbeats 4000000 in
theorem ct_X3_goes (l : Launch) (D : va_G) (cI cZ cR : ClassId) (o : Nat) (a bt : Nat → Nat) (im : Nat) (f : Nat → Int32) (n : Nat) (hI : sn_I f n) (x y z : Int32) : sn_Rd l yX3_goes wsX3_goes 4 [.ref o, .int x, .int y, .int z] D (sn_ty cI cZ cR) (sn_wS cI cZ o a bt im f) (sn_Rgoes f n x y z) := by
  refine sn_rd (cc := cX3_goes) (maxL := 4) (ret := (some .int)) (by decide) rfl (Nat.le_of_ble_eq_true rfl) ?_
  intro p e s m below meth c hx hb hml hr hlk hts hown hP hK hN ls hl
  have hC : CallFix p m c cX3_goes 4 s [.ref o, .int x, .int y, .int z].toArray wsX3_goes RX3 := ⟨hx, hb, hml, hown, hts⟩
  have hl : lv_has ls 4 [(0, .ref o), (1, .int x), (2, .int y), (3, .int z)] := hl
  have huX0 : ∀ w ∈ wsX00, w ∈ wsX3_goes := by decide +kernel
  have huX3 : ∀ w ∈ wsX30, w ∈ wsX3_goes := by decide +kernel
  have hn10 := hI.2.1
  refine lv_aload_n hx hb dX3_goes_0 rfl (lv_at hl 0 rfl) ?_
  refine va_get (D := D) (ci := 2) (v := .ref (a 0)) (C := RX3) (T := TX3) (N := 3) hx hb hts huX3 hown hK hP 0 rfl rfl 0 (by decide) (hts (.fieldLink RX3 10 "SnowSlabs" "cover" "LSnowSlabs$Cover;") (by decide +kernel)) (fun _ h9 => h9) rfl dX3_goes_1 ?_
  refine lv_iload_n hx hb dX3_goes_4 rfl (lv_at hl 1 rfl) ?_
  refine sn_cV 1 0 hC hl (ct_X0_has l D cI cZ cR a f n (hI).1 x) gX3_goes_X0_has rfl (by decide +kernel) rfl ⟨Nat.le_of_ble_eq_true rfl, Nat.le_of_ble_eq_true rfl⟩ ⟨Nat.zero_le _, Nat.zero_le _⟩ (hP.sub (ws' := sn_wC cI cZ a f) [1, 2, 3, 4, 5, 6, 7] rfl) hK hN rfl rfl rfl (Nat.le_of_ble_eq_true rfl) dX3_goes_5 ?_
  refine lv_if_ne (tgt := 13) hx hb dX3_goes_8 (by decide) (fun c_1 => ?_) (fun c_1 => ?_)
  · have c_1 : 0 ≤ x ∧ x ≤ nI n - 1 := sn_b_nz.mp c_1
    obtain ⟨i, hi, hie⟩ := sn_isL hn10 c_1
    subst hie
    refine lv_iload_n hx hb dX3_goes_13 rfl (lv_at hl 2 rfl) ?_
    refine lv_iconst (v := 0) hx hb dX3_goes_14 (by decide) ?_
    refine lv_bipush (v := 100) hx hb dX3_goes_15 (by decide) ?_
    refine sn_cS 3 hC hl (ct_X3_within l D _ [] y 0 100) gX3_goes_X3_within rfl (by decide +kernel) rfl ⟨Nat.le_of_ble_eq_true rfl, Nat.le_of_ble_eq_true rfl⟩ ⟨Nat.zero_le _, Nat.zero_le _⟩ (fun _ _ h => by simp at h) hK hN rfl (Nat.le_of_ble_eq_true rfl) dX3_goes_17 ?_
    refine lv_if_eq (tgt := 33) hx hb dX3_goes_20 (by decide) (fun c_2 => ?_) (fun c_2 => ?_)
    · have c_2 : ¬ (0 ≤ y ∧ y ≤ 100) := sn_b_z.mp c_2
      refine lv_bipush (v := (-2)) hx hb dX3_goes_33 (by decide) ?_
      exact sn_ret hx hb hr hlk dX3_goes_35 (((if_pos c_1).trans (if_neg (fun h => c_2 h.1))).symm)
    · have c_2 : 0 ≤ y ∧ y ≤ 100 := sn_b_nz.mp c_2
      refine lv_iload_n hx hb dX3_goes_23 rfl (lv_at hl 3 rfl) ?_
      refine lv_iconst (v := 0) hx hb dX3_goes_24 (by decide) ?_
      refine lv_bipush (v := 99) hx hb dX3_goes_25 (by decide) ?_
      refine sn_cS 3 hC hl (ct_X3_within l D _ [] z 0 99) gX3_goes_X3_within rfl (by decide +kernel) rfl ⟨Nat.le_of_ble_eq_true rfl, Nat.le_of_ble_eq_true rfl⟩ ⟨Nat.zero_le _, Nat.zero_le _⟩ (fun _ _ h => by simp at h) hK hN rfl (Nat.le_of_ble_eq_true rfl) dX3_goes_27 ?_
      refine lv_if_ne (tgt := 36) hx hb dX3_goes_30 (by decide) (fun c_3 => ?_) (fun c_3 => ?_)
      · have c_3 : 0 ≤ z ∧ z ≤ 99 := sn_b_nz.mp c_3
        refine lv_iload_n hx hb dX3_goes_36 rfl (lv_at hl 1 rfl) ?_
        refine lv_aload_n hx hb dX3_goes_37 rfl (lv_at hl 0 rfl) ?_
        refine va_get (D := D) (ci := 2) (v := .ref (a 0)) (C := RX3) (T := TX3) (N := 3) hx hb hts huX3 hown hK hP 0 rfl rfl 0 (by decide) (hts (.fieldLink RX3 10 "SnowSlabs" "cover" "LSnowSlabs$Cover;") (by decide +kernel)) (fun _ h9 => h9) rfl dX3_goes_38 ?_
        refine va_get (D := D) (ci := 0) (v := .int (f 0)) (C := RX0) (T := TX0) (N := 8) hx hb hts huX0 hown hK hP 1 rfl rfl 0 (by decide) (hts (.fieldLink RX3 31 "SnowSlabs$Cover" "size" "I") (by decide +kernel)) (fun _ h9 => h9) rfl dX3_goes_41 ?_
        refine sn_top (hI.1) ?_
        refine lv_iconst (v := 1) hx hb dX3_goes_44 (by decide) ?_
        refine lv_isub hx hb dX3_goes_45 ?_
        refine lv_icmp_ne (tgt := 52) hx hb dX3_goes_46 (by decide) (fun c_4 => ?_) (fun c_4 => ?_)
        · refine lv_aload_n hx hb dX3_goes_52 rfl (lv_at hl 0 rfl) ?_
          refine va_get (D := D) (ci := 2) (v := .ref (a 0)) (C := RX3) (T := TX3) (N := 3) hx hb hts huX3 hown hK hP 0 rfl rfl 0 (by decide) (hts (.fieldLink RX3 10 "SnowSlabs" "cover" "LSnowSlabs$Cover;") (by decide +kernel)) (fun _ h9 => h9) rfl dX3_goes_53 ?_
          refine lv_iload_n hx hb dX3_goes_56 rfl (lv_at hl 1 rfl) ?_
          refine lv_iload_n hx hb dX3_goes_57 rfl (lv_at hl 2 rfl) ?_
          refine lv_iload_n hx hb dX3_goes_58 rfl (lv_at hl 3 rfl) ?_
          refine sn_cV 3 0 hC hl (ct_X0_slabGoes l D cI cZ cR a f n hI i (by omega) y z) gX3_goes_X0_slabGoes rfl (by decide +kernel) rfl ⟨Nat.le_of_ble_eq_true rfl, Nat.le_of_ble_eq_true rfl⟩ ⟨Nat.zero_le _, Nat.zero_le _⟩ (hP.sub (ws' := sn_wC cI cZ a f) [1, 2, 3, 4, 5, 6, 7] rfl) hK hN rfl rfl rfl (Nat.le_of_ble_eq_true rfl) dX3_goes_59 ?_
          refine lv_if_eq (tgt := 69) hx hb dX3_goes_62 (by decide) (fun c_5 => ?_) (fun c_5 => ?_)
          · have c_5 : ¬ (sn_Go f n y z i) := sn_b_z.mp c_5
            refine lv_iconst (v := 0) hx hb dX3_goes_69 (by decide) ?_
            exact sn_ret hx hb hr hlk dX3_goes_70 (((if_pos c_1).trans ((if_pos (⟨c_2, c_3⟩)).trans ((if_neg c_4).trans (by rw [nI_clamp (by omega)]; exact (sn_b_f c_5).symm)))).symm)
          · have c_5 : sn_Go f n y z i := sn_b_nz.mp c_5
            refine lv_iconst (v := 1) hx hb dX3_goes_65 (by decide) ?_
            refine lv_goto (tgt := 70) hx hb dX3_goes_66 (by decide) ?_
            exact sn_ret hx hb hr hlk dX3_goes_70 (((if_pos c_1).trans ((if_pos (⟨c_2, c_3⟩)).trans ((if_neg c_4).trans (by rw [nI_clamp (by omega)]; exact (sn_b_t c_5).symm)))).symm)
        · refine lv_bipush (v := (-3)) hx hb dX3_goes_49 (by decide) ?_
          exact sn_ret hx hb hr hlk dX3_goes_51 (((if_pos c_1).trans ((if_pos (⟨c_2, c_3⟩)).trans (if_pos c_4))).symm)
      · have c_3 : ¬ (0 ≤ z ∧ z ≤ 99) := sn_b_z.mp c_3
        refine lv_bipush (v := (-2)) hx hb dX3_goes_33 (by decide) ?_
        exact sn_ret hx hb hr hlk dX3_goes_35 (((if_pos c_1).trans (if_neg (fun h => c_3 h.2))).symm)
  · have c_1 : ¬ (0 ≤ x ∧ x ≤ nI n - 1) := sn_b_z.mp c_1
    refine lv_iconst (v := (-1)) hx hb dX3_goes_11 (by decide) ?_
    exact sn_ret hx hb hr hlk dX3_goes_12 ((if_neg c_1).symm)
set_option maxRecDepth 100000 in
set_option maxHeartbeats 4000000 in
theorem ct_X3_steep (l : Launch) (D : va_G) (cI cZ cR : ClassId) (o : Nat) (a bt : Nat → Nat) (im : Nat) (f : Nat → Int32) (n : Nat) (hI : sn_I f n) (x y : Int32) : sn_Rd l yX3_steep wsX3_steep 5 [.ref o, .int x, .int y] D (sn_ty cI cZ cR) (sn_wS cI cZ o a bt im f) (sn_Rsteep f n x y) := by
  refine sn_rd (cc := cX3_steep) (maxL := 5) (ret := (some .int)) (by decide) rfl (Nat.le_of_ble_eq_true rfl) ?_
  intro p e s m below meth c hx hb hml hr hlk hts hown hP hK hN ls hl
  have hC : CallFix p m c cX3_steep 5 s [.ref o, .int x, .int y].toArray wsX3_steep RX3 := ⟨hx, hb, hml, hown, hts⟩
  have hl : lv_has ls 5 [(0, .ref o), (1, .int x), (2, .int y)] := hl
  have huX3 : ∀ w ∈ wsX30, w ∈ wsX3_steep := by decide +kernel
  have hn10 := hI.2.1
  refine lv_iload_n hx hb dX3_steep_0 rfl (lv_at hl 1 rfl) ?_
  refine lv_iconst (v := 0) hx hb dX3_steep_1 (by decide) ?_
  refine lv_bipush (v := 99) hx hb dX3_steep_2 (by decide) ?_
  refine sn_cS 3 hC hl (ct_X3_within l D _ [] x 0 99) gX3_steep_X3_within rfl (by decide +kernel) rfl ⟨Nat.le_of_ble_eq_true rfl, Nat.le_of_ble_eq_true rfl⟩ ⟨Nat.zero_le _, Nat.zero_le _⟩ (fun _ _ h => by simp at h) hK hN rfl (Nat.le_of_ble_eq_true rfl) dX3_steep_4 ?_
  refine lv_if_eq (tgt := 19) hx hb dX3_steep_7 (by decide) (fun c_1 => ?_) (fun c_1 => ?_)
  · have c_1 : ¬ (0 ≤ x ∧ x ≤ 99) := sn_b_z.mp c_1
    refine lv_bipush (v := (-2)) hx hb dX3_steep_19 (by decide) ?_
    exact sn_ret hx hb hr hlk dX3_steep_21 ((if_neg (fun h => c_1 h.1)).symm)
  · have c_1 : 0 ≤ x ∧ x ≤ 99 := sn_b_nz.mp c_1
    refine lv_iload_n hx hb dX3_steep_10 rfl (lv_at hl 2 rfl) ?_
    refine lv_iconst (v := 0) hx hb dX3_steep_11 (by decide) ?_
    refine lv_iconst (v := 1) hx hb dX3_steep_12 (by decide) ?_
    refine sn_cS 3 hC hl (ct_X3_within l D _ [] y 0 1) gX3_steep_X3_within rfl (by decide +kernel) rfl ⟨Nat.le_of_ble_eq_true rfl, Nat.le_of_ble_eq_true rfl⟩ ⟨Nat.zero_le _, Nat.zero_le _⟩ (fun _ _ h => by simp at h) hK hN rfl (Nat.le_of_ble_eq_true rfl) dX3_steep_13 ?_
    refine lv_if_ne (tgt := 22) hx hb dX3_steep_16 (by decide) (fun c_2 => ?_) (fun c_2 => ?_)
    · have c_2 : 0 ≤ y ∧ y ≤ 1 := sn_b_nz.mp c_2
      refine lv_iconst (v := 0) hx hb dX3_steep_22 (by decide) ?_
      refine lv_istore_n (lv' := [(3, .int 0), (0, .ref o), (1, .int x), (2, .int y)]) hx hb dX3_steep_23 rfl hl (by decide) rfl (fun ls hl => ?_)
      have loopO : ∀ (fu : Nat) (k : Nat), (k ≤ 101) → (sn_stp f n x y (101 - k) k = sn_stp f n x y 101 0) → 101 - k < fu → ∀ ls : Array Slot, lv_has ls 5 [(0, .ref o), (1, .int x), (2, .int y), (3, .int (nI k))] → W p l e (sn_rm 5 0 0) s m [.ref o, .int x, .int y].toArray below meth c s.heap [] 0 0 (MQ below (vp_Si (fun r_ => r_ = (sn_Rsteep f n x y))) [.ref o, .int x, .int y].toArray s 0 0 (fun _ => False)) (F0 m 24 ls []) := by
        intro fu
        induction fu with
        | zero => intro k h1 hq hm; exact absurd hm (Nat.not_lt_zero _)
        | succ fu ih_loopO =>
          intro k h1 hq hm ls hl
          refine lv_iload_n hx hb dX3_steep_24 rfl (lv_at hl 3 rfl) ?_
          refine lv_bipush (v := 100) hx hb dX3_steep_25 (by decide) ?_
          refine lv_icmp_gt (tgt := 65) hx hb dX3_steep_27 (by decide) (fun c_3 => ?_) (fun c_3 => ?_)
          · have c_3 := (sn_cgtj (a := k) (b := 100) rfl rfl (by omega) (by omega)).mp c_3
            refine lv_bipush (v := (-6)) hx hb dX3_steep_65 (by decide) ?_
            exact sn_ret hx hb hr hlk dX3_steep_67 (((if_pos (⟨c_1, c_2⟩)).trans (hq.symm.trans (by rw [show k = 101 by omega]; rfl))).symm)
          · have c_3 := (sn_cgtf (a := k) (b := 100) rfl rfl (by omega) (by omega)).mp c_3
            refine lv_aload_n hx hb dX3_steep_30 rfl (lv_at hl 0 rfl) ?_
            refine va_get (D := D) (ci := 2) (v := .ref (a 0)) (C := RX3) (T := TX3) (N := 3) hx hb hts huX3 hown hK hP 0 rfl rfl 0 (by decide) (hts (.fieldLink RX3 10 "SnowSlabs" "cover" "LSnowSlabs$Cover;") (by decide +kernel)) (fun _ h9 => h9) rfl dX3_steep_31 ?_
            refine lv_iload_n hx hb dX3_steep_34 rfl (lv_at hl 3 rfl) ?_
            refine lv_iload_n hx hb dX3_steep_35 rfl (lv_at hl 1 rfl) ?_
            refine sn_cV 2 0 hC hl (ct_X0_going l D cI cZ cR a f n hI (nI k) x) gX3_steep_X0_going rfl (by decide +kernel) rfl ⟨Nat.le_of_ble_eq_true rfl, Nat.le_of_ble_eq_true rfl⟩ ⟨Nat.zero_le _, Nat.zero_le _⟩ (hP.sub (ws' := sn_wC cI cZ a f) [1, 2, 3, 4, 5, 6, 7] rfl) hK hN rfl rfl rfl (Nat.le_of_ble_eq_true rfl) dX3_steep_36 ?_
            refine lv_istore (lv' := [(4, .int (sn_en (sn_gn f n (nI k) x))), (0, .ref o), (1, .int x), (2, .int y), (3, .int (nI k))]) hx hb dX3_steep_39 hl (by decide) rfl (fun ls hl => ?_)
            have hgl : sn_gn f n (nI k) x ≤ n - 1 := sn_gnA_le f n (nI k) x (n - 1)
            refine lv_iload hx hb dX3_steep_41 (lv_at hl 0 rfl) ?_
            refine lv_bipush (v := (-6)) hx hb dX3_steep_43 (by decide) ?_
            refine lv_icmp_eq (tgt := 59) hx hb dX3_steep_45 (by decide) (fun c_4 => ?_) (fun c_4 => ?_)
            · have c_4 := (sn_en_none (by omega)).mp c_4
              refine lv_iinc (v := nI (k + 1)) (lv' := [(3, .int (nI (k + 1))), (4, .int (sn_en (sn_gn f n (nI k) x))), (0, .ref o), (1, .int x), (2, .int y)]) hx hb dX3_steep_59 hl (k := 4) rfl (sn_inc _) (by decide) rfl (fun ls hl => ?_)
              refine lv_goto (tgt := 24) hx hb dX3_steep_62 (by decide) ?_
              exact ih_loopO (k + 1) (by omega) ((sn_stp_z (by omega) (show _ = 0 from c_4)).symm.trans hq) (by omega) ls (lv_sub hl [2, 3, 4, 0] rfl)
            · have c_4 : ¬ sn_gn f n (nI k) x = 0 := fun z => c_4 ((sn_en_none (by omega)).mpr z)
              refine lv_iload_n hx hb dX3_steep_48 rfl (lv_at hl 3 rfl) ?_
              refine lv_if_ne (tgt := 56) hx hb dX3_steep_49 (by decide) (fun c_5 => ?_) (fun c_5 => ?_)
              · refine lv_iload hx hb dX3_steep_56 (lv_at hl 0 rfl) ?_
                exact sn_ret hx hb hr hlk dX3_steep_58 (((if_pos (⟨c_1, c_2⟩)).trans (hq.symm.trans ((sn_stp_p (by omega) c_4).trans ((if_neg c_5).trans (sn_en_pos c_4).symm)))).symm)
              · refine lv_iload_n hx hb dX3_steep_52 rfl (lv_at hl 4 rfl) ?_
                refine lv_goto (tgt := 58) hx hb dX3_steep_53 (by decide) ?_
                exact sn_ret hx hb hr hlk dX3_steep_58 (((if_pos (⟨c_1, c_2⟩)).trans (hq.symm.trans ((sn_stp_p (by omega) c_4).trans (if_pos c_5)))).symm)
      exact loopO ((101 - 0) + 1) 0 (Nat.zero_le _) rfl (by omega) ls (lv_sub hl [1, 2, 3, 0] rfl)
    · have c_2 : ¬ (0 ≤ y ∧ y ≤ 1) := sn_b_z.mp c_2
      refine lv_bipush (v := (-2)) hx hb dX3_steep_19 (by decide) ?_
      exact sn_ret hx hb hr hlk dX3_steep_21 ((if_neg (fun h => c_2 h.2)).symm)
set_option maxRecDepth 100000 in
set_option maxHeartbeats 4000000 in
theorem ct_X3_need (l : Launch) (D : va_G) (cI cZ cR : ClassId) (o : Nat) (a bt : Nat → Nat) (im : Nat) (f : Nat → Int32) (n : Nat) (hI : sn_I f n) (x : Int32) : sn_Rd l yX3_need wsX3_need 3 [.ref o, .int x] D (sn_ty cI cZ cR) (sn_wS cI cZ o a bt im f) (sn_Rneed f n x) := by
  refine sn_rd (cc := cX3_need) (maxL := 3) (ret := (some .int)) (by decide) rfl (Nat.le_of_ble_eq_true rfl) ?_
  intro p e s m below meth c hx hb hml hr hlk hts hown hP hK hN ls hl
  have hC : CallFix p m c cX3_need 3 s [.ref o, .int x].toArray wsX3_need RX3 := ⟨hx, hb, hml, hown, hts⟩
  have hl : lv_has ls 3 [(0, .ref o), (1, .int x)] := hl
  have huX0 : ∀ w ∈ wsX00, w ∈ wsX3_need := by decide +kernel
  have huX3 : ∀ w ∈ wsX30, w ∈ wsX3_need := by decide +kernel
  have hn10 := hI.2.1
  refine lv_iload_n hx hb dX3_need_0 rfl (lv_at hl 1 rfl) ?_
  refine lv_iconst (v := 1) hx hb dX3_need_1 (by decide) ?_
  refine lv_bipush (v := 30) hx hb dX3_need_2 (by decide) ?_
  refine sn_cS 3 hC hl (ct_X3_within l D _ [] x 1 30) gX3_need_X3_within rfl (by decide +kernel) rfl ⟨Nat.le_of_ble_eq_true rfl, Nat.le_of_ble_eq_true rfl⟩ ⟨Nat.zero_le _, Nat.zero_le _⟩ (fun _ _ h => by simp at h) hK hN rfl (Nat.le_of_ble_eq_true rfl) dX3_need_4 ?_
  refine lv_if_ne (tgt := 13) hx hb dX3_need_7 (by decide) (fun c_1 => ?_) (fun c_1 => ?_)
  · have c_1 : 1 ≤ x ∧ x ≤ 30 := sn_b_nz.mp c_1
    obtain ⟨t, ht1, ht2, ht3⟩ := sn_rng (lo := 1) (hi := 30) c_1 (by decide)
    subst ht3
    refine lv_iconst (v := 1) hx hb dX3_need_13 (by decide) ?_
    refine lv_istore_n (lv' := [(2, .int 1), (0, .ref o), (1, .int (nI t))]) hx hb dX3_need_14 rfl hl (by decide) rfl (fun ls hl => ?_)
    have loop : ∀ (fu : Nat) (v : Nat), (1 ≤ v) → (v ≤ 51) → (sn_ned f n t (51 - v) v = sn_ned f n t 50 1) → 51 - v < fu → ∀ ls : Array Slot, lv_has ls 3 [(0, .ref o), (1, .int (nI t)), (2, .int (nI v))] → W p l e (sn_rm 3 0 0) s m [.ref o, .int (nI t)].toArray below meth c s.heap [] 0 0 (MQ below (vp_Si (fun r_ => r_ = (sn_Rneed f n (nI t)))) [.ref o, .int (nI t)].toArray s 0 0 (fun _ => False)) (F0 m 15 ls []) := by
      intro fu
      induction fu with
      | zero => intro v h1 h2 hq hm; exact absurd hm (Nat.not_lt_zero _)
      | succ fu ih_loop =>
        intro v h1 h2 hq hm ls hl
        refine lv_iload_n hx hb dX3_need_15 rfl (lv_at hl 2 rfl) ?_
        refine lv_bipush (v := 50) hx hb dX3_need_16 (by decide) ?_
        refine lv_icmp_gt (tgt := 53) hx hb dX3_need_18 (by decide) (fun c_2 => ?_) (fun c_2 => ?_)
        · have c_2 := (sn_cgtj (a := v) (b := 50) rfl rfl (by omega) (by omega)).mp c_2
          refine lv_bipush (v := (-6)) hx hb dX3_need_53 (by decide) ?_
          exact sn_ret hx hb hr hlk dX3_need_55 (((if_pos c_1).trans ((congrArg (fun z => sn_ned f n z 50 1) (nI_clamp (by omega))).trans (hq.symm.trans (by rw [show v = 51 by omega]; rfl)))).symm)
        · have c_2 := (sn_cgtf (a := v) (b := 50) rfl rfl (by omega) (by omega)).mp c_2
          refine lv_aload_n hx hb dX3_need_21 rfl (lv_at hl 0 rfl) ?_
          refine va_get (D := D) (ci := 2) (v := .ref (a 0)) (C := RX3) (T := TX3) (N := 3) hx hb hts huX3 hown hK hP 0 rfl rfl 0 (by decide) (hts (.fieldLink RX3 10 "SnowSlabs" "cover" "LSnowSlabs$Cover;") (by decide +kernel)) (fun _ h9 => h9) rfl dX3_need_22 ?_
          refine lv_aload_n hx hb dX3_need_25 rfl (lv_at hl 0 rfl) ?_
          refine va_get (D := D) (ci := 2) (v := .ref (a 0)) (C := RX3) (T := TX3) (N := 3) hx hb hts huX3 hown hK hP 0 rfl rfl 0 (by decide) (hts (.fieldLink RX3 10 "SnowSlabs" "cover" "LSnowSlabs$Cover;") (by decide +kernel)) (fun _ h9 => h9) rfl dX3_need_26 ?_
          refine va_get (D := D) (ci := 0) (v := .int (f 0)) (C := RX0) (T := TX0) (N := 8) hx hb hts huX0 hown hK hP 1 rfl rfl 0 (by decide) (hts (.fieldLink RX3 31 "SnowSlabs$Cover" "size" "I") (by decide +kernel)) (fun _ h9 => h9) rfl dX3_need_29 ?_
          refine sn_top (hI.1) ?_
          refine lv_iload_n hx hb dX3_need_32 rfl (lv_at hl 1 rfl) ?_
          refine lv_iload_n hx hb dX3_need_33 rfl (lv_at hl 2 rfl) ?_
          refine sn_cS 2 hC hl (ct_X2_weightOf l D _ [] t (by omega) (nI v)) gX3_need_X2_weightOf rfl (by decide +kernel) rfl ⟨Nat.le_of_ble_eq_true rfl, Nat.le_of_ble_eq_true rfl⟩ ⟨Nat.zero_le _, Nat.zero_le _⟩ (fun _ _ h => by simp at h) hK hN rfl (Nat.le_of_ble_eq_true rfl) dX3_need_34 ?_
          refine sn_cV 2 0 hC hl (ct_X0_breaking l D cI cZ cR a f n hI n (by first | exact hI.2.1 | omega) (sn_wt t (nI v))) gX3_need_X0_breaking rfl (by decide +kernel) rfl ⟨Nat.le_of_ble_eq_true rfl, Nat.le_of_ble_eq_true rfl⟩ ⟨Nat.zero_le _, Nat.zero_le _⟩ (hP.sub (ws' := sn_wC cI cZ a f) [1, 2, 3, 4, 5, 6, 7] rfl) hK hN rfl rfl rfl (Nat.le_of_ble_eq_true rfl) dX3_need_37 ?_
          have hbl := sn_bk_le f n (sn_wt t (nI v))
          refine lv_bipush (v := (-6)) hx hb dX3_need_40 (by decide) ?_
          refine lv_icmp_eq (tgt := 47) hx hb dX3_need_42 (by decide) (fun c_3 => ?_) (fun c_3 => ?_)
          · have c_3 := (sn_en_none (by omega)).mp c_3
            refine lv_iinc (v := nI (v + 1)) (lv' := [(2, .int (nI (v + 1))), (0, .ref o), (1, .int (nI t))]) hx hb dX3_need_47 hl (k := 2) rfl (sn_inc _) (by decide) rfl (fun ls hl => ?_)
            refine lv_goto (tgt := 15) hx hb dX3_need_50 (by decide) ?_
            exact ih_loop (v + 1) (by omega) (by omega) ((sn_ned_z (by omega) c_3).symm.trans hq) (by omega) ls (lv_sub hl [1, 2, 0] rfl)
          · have c_3 : ¬ sn_bk f n (sn_wt t (nI v)) = 0 := fun z => c_3 ((sn_en_none (by omega)).mpr z)
            refine lv_iload_n hx hb dX3_need_45 rfl (lv_at hl 2 rfl) ?_
            exact sn_ret hx hb hr hlk dX3_need_46 (((if_pos c_1).trans ((congrArg (fun z => sn_ned f n z 50 1) (nI_clamp (by omega))).trans (hq.symm.trans (sn_ned_p (by omega) c_3)))).symm)
    exact loop ((51 - 1) + 1) 1 (Nat.le_refl _) (by omega) rfl (by omega) ls (lv_sub hl [1, 2, 0] rfl)
  · have c_1 : ¬ (1 ≤ x ∧ x ≤ 30) := sn_b_z.mp c_1
    refine lv_bipush (v := (-2)) hx hb dX3_need_10 (by decide) ?_
    exact sn_ret hx hb hr hlk dX3_need_12 ((if_neg c_1).symm)
set_option maxRecDepth 100000 in
set_option maxHeartbeats 4000000 in
theorem ct_X3_heat (l : Launch) (D : va_G) (cI cZ cR : ClassId) (o : Nat) (a bt : Nat → Nat) (im : Nat) (f : Nat → Int32) (x y z : Int32) : sn_Rd l yX3_heat wsX3_heat 3 [.ref o, .int x, .int y, .int z] D (sn_ty cI cZ cR) (sn_wS cI cZ o a bt im f) (sn_Rheat x y z) := by
  refine sn_rd (cc := cX3_heat) (maxL := 4) (ret := (some .int)) (by decide) rfl (Nat.le_of_ble_eq_true rfl) ?_
  intro p e s m below meth c hx hb hml hr hlk hts hown hP hK hN ls hl
  have hC : CallFix p m c cX3_heat 4 s [.ref o, .int x, .int y, .int z].toArray wsX3_heat RX3 := ⟨hx, hb, hml, hown, hts⟩
  have hl : lv_has ls 4 [(0, .ref o), (1, .int x), (2, .int y), (3, .int z)] := hl
  refine lv_iload_n hx hb dX3_heat_0 rfl (lv_at hl 1 rfl) ?_
  refine lv_iconst (v := 0) hx hb dX3_heat_1 (by decide) ?_
  refine lv_bipush (v := 7) hx hb dX3_heat_2 (by decide) ?_
  refine sn_cS 3 hC hl (ct_X3_within l D _ [] x 0 7) gX3_heat_X3_within rfl (by decide +kernel) rfl ⟨Nat.le_of_ble_eq_true rfl, Nat.le_of_ble_eq_true rfl⟩ ⟨Nat.zero_le _, Nat.zero_le _⟩ (fun _ _ h => by simp at h) hK hN rfl (Nat.le_of_ble_eq_true rfl) dX3_heat_4 ?_
  refine lv_if_ne (tgt := 12) hx hb dX3_heat_7 (by decide) (fun c_1 => ?_) (fun c_1 => ?_)
  · have c_1 : 0 ≤ x ∧ x ≤ 7 := sn_b_nz.mp c_1
    refine lv_iload_n hx hb dX3_heat_12 rfl (lv_at hl 2 rfl) ?_
    refine lv_iconst (v := 0) hx hb dX3_heat_13 (by decide) ?_
    refine lv_bipush (v := 23) hx hb dX3_heat_14 (by decide) ?_
    refine sn_cS 3 hC hl (ct_X3_within l D _ [] y 0 23) gX3_heat_X3_within rfl (by decide +kernel) rfl ⟨Nat.le_of_ble_eq_true rfl, Nat.le_of_ble_eq_true rfl⟩ ⟨Nat.zero_le _, Nat.zero_le _⟩ (fun _ _ h => by simp at h) hK hN rfl (Nat.le_of_ble_eq_true rfl) dX3_heat_16 ?_
    refine lv_if_eq (tgt := 31) hx hb dX3_heat_19 (by decide) (fun c_2 => ?_) (fun c_2 => ?_)
    · have c_2 : ¬ (0 ≤ y ∧ y ≤ 23) := sn_b_z.mp c_2
      refine lv_bipush (v := (-2)) hx hb dX3_heat_31 (by decide) ?_
      exact sn_ret hx hb hr hlk dX3_heat_33 (((if_pos c_1).trans (if_neg (fun h => c_2 h.1))).symm)
    · have c_2 : 0 ≤ y ∧ y ≤ 23 := sn_b_nz.mp c_2
      refine lv_iload_n hx hb dX3_heat_22 rfl (lv_at hl 3 rfl) ?_
      refine lv_iconst (v := 0) hx hb dX3_heat_23 (by decide) ?_
      refine lv_iconst (v := 1) hx hb dX3_heat_24 (by decide) ?_
      refine sn_cS 3 hC hl (ct_X3_within l D _ [] z 0 1) gX3_heat_X3_within rfl (by decide +kernel) rfl ⟨Nat.le_of_ble_eq_true rfl, Nat.le_of_ble_eq_true rfl⟩ ⟨Nat.zero_le _, Nat.zero_le _⟩ (fun _ _ h => by simp at h) hK hN rfl (Nat.le_of_ble_eq_true rfl) dX3_heat_25 ?_
      refine lv_if_ne (tgt := 34) hx hb dX3_heat_28 (by decide) (fun c_3 => ?_) (fun c_3 => ?_)
      · have c_3 : 0 ≤ z ∧ z ≤ 1 := sn_b_nz.mp c_3
        obtain ⟨i, hi1, hi2, hi3⟩ := sn_rng (lo := 0) (hi := 7) c_1 (by decide)
        subst hi3
        obtain ⟨h, hh1, hh2, hh3⟩ := sn_rng (lo := 0) (hi := 23) c_2 (by decide)
        subst hh3
        refine lv_iload_n hx hb dX3_heat_34 rfl (lv_at hl 3 rfl) ?_
        refine lv_if_ne (tgt := 46) hx hb dX3_heat_35 (by decide) (fun c_4 => ?_) (fun c_4 => ?_)
        · refine lv_iload_n hx hb dX3_heat_46 rfl (lv_at hl 1 rfl) ?_
          refine lv_iload_n hx hb dX3_heat_47 rfl (lv_at hl 2 rfl) ?_
          refine sn_cS 2 hC hl (ct_X1_heatUpTo l D _ [] i h (by omega) (by omega)) gX3_heat_X1_heatUpTo rfl (by decide +kernel) rfl ⟨Nat.le_of_ble_eq_true rfl, Nat.le_of_ble_eq_true rfl⟩ ⟨Nat.zero_le _, Nat.zero_le _⟩ (fun _ _ h => by simp at h) hK hN rfl (Nat.le_of_ble_eq_true rfl) dX3_heat_48 ?_
          exact sn_ret hx hb hr hlk dX3_heat_51 (((if_pos c_1).trans ((if_pos (⟨c_2, c_3⟩)).trans ((if_neg c_4).trans (by rw [nI_clamp (by omega), nI_clamp (by omega)])))).symm)
        · refine lv_iload_n hx hb dX3_heat_38 rfl (lv_at hl 1 rfl) ?_
          refine lv_iload_n hx hb dX3_heat_39 rfl (lv_at hl 2 rfl) ?_
          refine sn_cS 2 hC hl (ct_X1_heatIn l D _ [] i h (by omega) (by omega)) gX3_heat_X1_heatIn rfl (by decide +kernel) rfl ⟨Nat.le_of_ble_eq_true rfl, Nat.le_of_ble_eq_true rfl⟩ ⟨Nat.zero_le _, Nat.zero_le _⟩ (fun _ _ h => by simp at h) hK hN rfl (Nat.le_of_ble_eq_true rfl) dX3_heat_40 ?_
          refine lv_goto (tgt := 51) hx hb dX3_heat_43 (by decide) ?_
          exact sn_ret hx hb hr hlk dX3_heat_51 (((if_pos c_1).trans ((if_pos (⟨c_2, c_3⟩)).trans ((if_pos c_4).trans (by rw [nI_clamp (by omega), nI_clamp (by omega)])))).symm)
      · have c_3 : ¬ (0 ≤ z ∧ z ≤ 1) := sn_b_z.mp c_3
        refine lv_bipush (v := (-2)) hx hb dX3_heat_31 (by decide) ?_
        exact sn_ret hx hb hr hlk dX3_heat_33 (((if_pos c_1).trans (if_neg (fun h => c_3 h.2))).symm)
  · have c_1 : ¬ (0 ≤ x ∧ x ≤ 7) := sn_b_z.mp c_1
    refine lv_iconst (v := (-1)) hx hb dX3_heat_10 (by decide) ?_
    exact sn_ret hx hb hr hlk dX3_heat_11 ((if_neg c_1).symm)
set_option maxRecDepth 100000 in
set_option maxHeartbeats 4000000 in
theorem ct_X3_warm (l : Launch) (D : va_G) (cI cZ cR : ClassId) (o : Nat) (a bt : Nat → Nat) (im : Nat) (f : Nat → Int32) (x y : Int32) : sn_Rd l yX3_warm wsX3_warm 3 [.ref o, .int x, .int y] D (sn_ty cI cZ cR) (sn_wS cI cZ o a bt im f) (sn_Rwarm x y) := by
  refine sn_rd (cc := cX3_warm) (maxL := 3) (ret := (some .int)) (by decide) rfl (Nat.le_of_ble_eq_true rfl) ?_
  intro p e s m below meth c hx hb hml hr hlk hts hown hP hK hN ls hl
  have hC : CallFix p m c cX3_warm 3 s [.ref o, .int x, .int y].toArray wsX3_warm RX3 := ⟨hx, hb, hml, hown, hts⟩
  have hl : lv_has ls 3 [(0, .ref o), (1, .int x), (2, .int y)] := hl
  refine lv_iload_n hx hb dX3_warm_0 rfl (lv_at hl 1 rfl) ?_
  refine lv_iconst (v := 0) hx hb dX3_warm_1 (by decide) ?_
  refine lv_bipush (v := 7) hx hb dX3_warm_2 (by decide) ?_
  refine sn_cS 3 hC hl (ct_X3_within l D _ [] x 0 7) gX3_warm_X3_within rfl (by decide +kernel) rfl ⟨Nat.le_of_ble_eq_true rfl, Nat.le_of_ble_eq_true rfl⟩ ⟨Nat.zero_le _, Nat.zero_le _⟩ (fun _ _ h => by simp at h) hK hN rfl (Nat.le_of_ble_eq_true rfl) dX3_warm_4 ?_
  refine lv_if_ne (tgt := 12) hx hb dX3_warm_7 (by decide) (fun c_1 => ?_) (fun c_1 => ?_)
  · have c_1 : 0 ≤ x ∧ x ≤ 7 := sn_b_nz.mp c_1
    refine lv_iload_n hx hb dX3_warm_12 rfl (lv_at hl 2 rfl) ?_
    refine lv_iconst (v := 1) hx hb dX3_warm_13 (by decide) ?_
    refine lv_sipush (v := 999) hx hb dX3_warm_14 (by decide) ?_
    refine sn_cS 3 hC hl (ct_X3_within l D _ [] y 1 999) gX3_warm_X3_within rfl (by decide +kernel) rfl ⟨Nat.le_of_ble_eq_true rfl, Nat.le_of_ble_eq_true rfl⟩ ⟨Nat.zero_le _, Nat.zero_le _⟩ (fun _ _ h => by simp at h) hK hN rfl (Nat.le_of_ble_eq_true rfl) dX3_warm_17 ?_
    refine lv_if_ne (tgt := 26) hx hb dX3_warm_20 (by decide) (fun c_2 => ?_) (fun c_2 => ?_)
    · have c_2 : 1 ≤ y ∧ y ≤ 999 := sn_b_nz.mp c_2
      obtain ⟨i, hi1, hi2, hi3⟩ := sn_rng (lo := 0) (hi := 7) c_1 (by decide)
      subst hi3
      obtain ⟨t, ht1, ht2, ht3⟩ := sn_rng (lo := 1) (hi := 999) c_2 (by decide)
      subst ht3
      refine lv_iload_n hx hb dX3_warm_26 rfl (lv_at hl 1 rfl) ?_
      refine lv_iload_n hx hb dX3_warm_27 rfl (lv_at hl 2 rfl) ?_
      refine sn_cS 2 hC hl (ct_X1_warmHour l D _ [] i t (by omega) (by omega)) gX3_warm_X1_warmHour rfl (by decide +kernel) rfl ⟨Nat.le_of_ble_eq_true rfl, Nat.le_of_ble_eq_true rfl⟩ ⟨Nat.zero_le _, Nat.zero_le _⟩ (fun _ _ h => by simp at h) hK hN rfl (Nat.le_of_ble_eq_true rfl) dX3_warm_28 ?_
      exact sn_ret hx hb hr hlk dX3_warm_31 (((if_pos c_1).trans ((if_pos c_2).trans (by rw [nI_clamp (by omega), nI_clamp (by omega)]))).symm)
    · have c_2 : ¬ (1 ≤ y ∧ y ≤ 999) := sn_b_z.mp c_2
      refine lv_bipush (v := (-2)) hx hb dX3_warm_23 (by decide) ?_
      exact sn_ret hx hb hr hlk dX3_warm_25 (((if_pos c_1).trans (if_neg c_2)).symm)
  · have c_1 : ¬ (0 ≤ x ∧ x ≤ 7) := sn_b_z.mp c_1
    refine lv_iconst (v := (-1)) hx hb dX3_warm_10 (by decide) ?_
    exact sn_ret hx hb hr hlk dX3_warm_11 ((if_neg c_1).symm)
set_option maxRecDepth 100000 in
set_option maxHeartbeats 4000000 in
theorem ct_X3_order (l : Launch) (D : va_G) (cI cZ cR : ClassId) (o : Nat) (a bt : Nat → Nat) (im : Nat) (f : Nat → Int32) (x y : Int32) : sn_Rd l yX3_order wsX3_order 4 [.ref o, .int x, .int y] D (sn_ty cI cZ cR) (sn_wS cI cZ o a bt im f) (sn_Rord x y) := by
  refine sn_rd (cc := cX3_order) (maxL := 3) (ret := (some .int)) (by decide) rfl (Nat.le_of_ble_eq_true rfl) ?_
  intro p e s m below meth c hx hb hml hr hlk hts hown hP hK hN ls hl
  have hC : CallFix p m c cX3_order 3 s [.ref o, .int x, .int y].toArray wsX3_order RX3 := ⟨hx, hb, hml, hown, hts⟩
  have hl : lv_has ls 3 [(0, .ref o), (1, .int x), (2, .int y)] := hl
  refine lv_iload_n hx hb dX3_order_0 rfl (lv_at hl 1 rfl) ?_
  refine lv_iconst (v := 1) hx hb dX3_order_1 (by decide) ?_
  refine lv_sipush (v := 999) hx hb dX3_order_2 (by decide) ?_
  refine sn_cS 3 hC hl (ct_X3_within l D _ [] x 1 999) gX3_order_X3_within rfl (by decide +kernel) rfl ⟨Nat.le_of_ble_eq_true rfl, Nat.le_of_ble_eq_true rfl⟩ ⟨Nat.zero_le _, Nat.zero_le _⟩ (fun _ _ h => by simp at h) hK hN rfl (Nat.le_of_ble_eq_true rfl) dX3_order_5 ?_
  refine lv_if_ne (tgt := 14) hx hb dX3_order_8 (by decide) (fun c_1 => ?_) (fun c_1 => ?_)
  · have c_1 : 1 ≤ x ∧ x ≤ 999 := sn_b_nz.mp c_1
    obtain ⟨t, ht1, ht2, ht3⟩ := sn_rng (lo := 1) (hi := 999) c_1 (by decide)
    subst ht3
    refine lv_iload_n hx hb dX3_order_14 rfl (lv_at hl 2 rfl) ?_
    refine lv_iconst (v := (-1)) hx hb dX3_order_15 (by decide) ?_
    refine lv_icmp_ne (tgt := 26) hx hb dX3_order_16 (by decide) (fun c_2 => ?_) (fun c_2 => ?_)
    · refine lv_iload_n hx hb dX3_order_26 rfl (lv_at hl 1 rfl) ?_
      refine lv_iload_n hx hb dX3_order_27 rfl (lv_at hl 2 rfl) ?_
      refine sn_cS 2 hC hl (ct_X1_sideAtPlace l D _ [] t (by omega) y) gX3_order_X1_sideAtPlace rfl (by decide +kernel) rfl ⟨Nat.le_of_ble_eq_true rfl, Nat.le_of_ble_eq_true rfl⟩ ⟨Nat.zero_le _, Nat.zero_le _⟩ (fun _ _ h => by simp at h) hK hN rfl (Nat.le_of_ble_eq_true rfl) dX3_order_28 ?_
      exact sn_ret hx hb hr hlk dX3_order_31 (((if_pos c_1).trans ((congrArg (fun z => sn_pikM (sn_ro z 24) 0 y) (nI_clamp (by omega))).trans (sn_pik_ne y c_2 _ _))).symm)
    · refine lv_iload_n hx hb dX3_order_19 rfl (lv_at hl 1 rfl) ?_
      refine sn_cS 1 hC hl (ct_X1_warmSides l D _ [] t (by omega)) gX3_order_X1_warmSides rfl (by decide +kernel) rfl ⟨Nat.le_of_ble_eq_true rfl, Nat.le_of_ble_eq_true rfl⟩ ⟨Nat.zero_le _, Nat.zero_le _⟩ (fun _ _ h => by simp at h) hK hN rfl (Nat.le_of_ble_eq_true rfl) dX3_order_20 ?_
      refine lv_goto (tgt := 31) hx hb dX3_order_23 (by decide) ?_
      exact sn_ret hx hb hr hlk dX3_order_31 (((if_pos c_1).trans ((congrArg (fun z => sn_pikM (sn_ro z 24) 0 y) (nI_clamp (by omega))).trans (by rw [c_2, show (0 : Int32) = nI 0 from rfl, sn_pik_m1 _ 0 (by have := sn_ws_le t 8; rw [← sn_ws_len]; omega), sn_ws_len, Nat.zero_add]))).symm)
  · have c_1 : ¬ (1 ≤ x ∧ x ≤ 999) := sn_b_z.mp c_1
    refine lv_bipush (v := (-2)) hx hb dX3_order_11 (by decide) ?_
    exact sn_ret hx hb hr hlk dX3_order_13 ((if_neg c_1).symm)
set_option maxRecDepth 100000 in
set_option maxHeartbeats 4000000 in
theorem ct_X3_keptSet (l : Launch) (D : va_G) (cI cZ cR : ClassId) (o : Nat) (a bt : Nat → Nat) (im : Nat) (f : Nat → Int32) (og : Nat → Option Nat) (kp : Nat → Int32) (hk0 : kp 0 = 0 ↔ og 0 = none) (hk1 : kp 1 = 0 ↔ og 1 = none) : sn_Rd l yX3_keptSet wsX3_keptSet 0 [.ref o] D (sn_ty cI cZ cR) (sn_wS cI cZ o a bt im f ++ [(im, .inl (cR, 2, .inr (.inr (.inr (.inr og)))))]) (sn_kps kp) := by
  refine sn_rd (cc := cX3_keptSet) (maxL := 3) (ret := (some .int)) (by decide) rfl (Nat.le_of_ble_eq_true rfl) ?_
  intro p e s m below meth c hx hb hml hr hlk hts hown hP hK hN ls hl
  have hC : CallFix p m c cX3_keptSet 3 s [.ref o].toArray wsX3_keptSet RX3 := ⟨hx, hb, hml, hown, hts⟩
  have hl : lv_has ls 3 [(0, .ref o)] := hl
  have huX3 : ∀ w ∈ wsX30, w ∈ wsX3_keptSet := by decide +kernel
  refine lv_iconst (v := 0) hx hb dX3_keptSet_0 (by decide) ?_
  refine lv_istore_n (lv' := [(1, .int 0), (0, .ref o)]) hx hb dX3_keptSet_1 rfl hl (by decide) rfl (fun ls hl => ?_)
  refine lv_iconst (v := 0) hx hb dX3_keptSet_2 (by decide) ?_
  refine lv_istore_n (lv' := [(2, .int 0), (1, .int 0), (0, .ref o)]) hx hb dX3_keptSet_3 rfl hl (by decide) rfl (fun ls hl => ?_)
  refine lv_iload_n hx hb dX3_keptSet_4 rfl (lv_at hl 0 rfl) ?_
  refine lv_iconst (v := 2) hx hb dX3_keptSet_5 (by decide) ?_
  refine lv_icmp_ge (tgt := 30) hx hb dX3_keptSet_6 (by decide) (fun c_1 => ?_) (fun c_1 => ?_)
  · have c_1 := (sn_cgej (a := 0) (b := 2) rfl rfl (by omega) (by omega)).mp c_1
    exact absurd c_1 (by omega)
  · have c_1 := (sn_cgef (a := 0) (b := 2) rfl rfl (by omega) (by omega)).mp c_1
    refine lv_aload_n hx hb dX3_keptSet_9 rfl (lv_at hl 2 rfl) ?_
    refine va_get (D := D) (ci := 2) (v := .ref im) (C := RX3) (T := TX3) (N := 3) hx hb hts huX3 hown hK hP 0 rfl rfl 2 (by decide) (hts (.fieldLink RX3 23 "SnowSlabs" "images" "[LSnowSlabs$Cover;") (by decide +kernel)) (fun _ h9 => h9) rfl dX3_keptSet_10 ?_
    refine lv_iload_n hx hb dX3_keptSet_13 rfl (lv_at hl 0 rfl) ?_
    refine sn_ald (k := 0) 8 2 hx hb hK hP rfl rfl (by omega) (by decide) rfl dX3_keptSet_14 ?_
    refine sn_ifnull (tgt := 24) hx hb dX3_keptSet_15 (by decide) (fun o_2 => ?_) (fun r_3 o_2 => ?_)
    · refine lv_iinc (v := nI 1) (lv' := [(2, .int (nI 1)), (1, .int 0), (0, .ref o)]) hx hb dX3_keptSet_24 hl (k := 0) rfl (by decide) (by decide) rfl (fun ls hl => ?_)
      refine lv_goto (tgt := 4) hx hb dX3_keptSet_27 (by decide) ?_
      refine lv_iload_n hx hb dX3_keptSet_4 rfl (lv_at hl 0 rfl) ?_
      refine lv_iconst (v := 2) hx hb dX3_keptSet_5 (by decide) ?_
      refine lv_icmp_ge (tgt := 30) hx hb dX3_keptSet_6 (by decide) (fun c_4 => ?_) (fun c_4 => ?_)
      · have c_4 := (sn_cgej (a := 1) (b := 2) rfl rfl (by omega) (by omega)).mp c_4
        exact absurd c_4 (by omega)
      · have c_4 := (sn_cgef (a := 1) (b := 2) rfl rfl (by omega) (by omega)).mp c_4
        refine lv_aload_n hx hb dX3_keptSet_9 rfl (lv_at hl 2 rfl) ?_
        refine va_get (D := D) (ci := 2) (v := .ref im) (C := RX3) (T := TX3) (N := 3) hx hb hts huX3 hown hK hP 0 rfl rfl 2 (by decide) (hts (.fieldLink RX3 23 "SnowSlabs" "images" "[LSnowSlabs$Cover;") (by decide +kernel)) (fun _ h9 => h9) rfl dX3_keptSet_10 ?_
        refine lv_iload_n hx hb dX3_keptSet_13 rfl (lv_at hl 0 rfl) ?_
        refine sn_ald (k := 1) 8 2 hx hb hK hP rfl rfl (by omega) (by decide) rfl dX3_keptSet_14 ?_
        refine sn_ifnull (tgt := 24) hx hb dX3_keptSet_15 (by decide) (fun o_5 => ?_) (fun r_6 o_5 => ?_)
        · refine lv_iinc (v := nI 2) (lv' := [(2, .int (nI 2)), (1, .int 0), (0, .ref o)]) hx hb dX3_keptSet_24 hl (k := 0) rfl (by decide) (by decide) rfl (fun ls hl => ?_)
          refine lv_goto (tgt := 4) hx hb dX3_keptSet_27 (by decide) ?_
          refine lv_iload_n hx hb dX3_keptSet_4 rfl (lv_at hl 0 rfl) ?_
          refine lv_iconst (v := 2) hx hb dX3_keptSet_5 (by decide) ?_
          refine lv_icmp_ge (tgt := 30) hx hb dX3_keptSet_6 (by decide) (fun c_7 => ?_) (fun c_7 => ?_)
          · have c_7 := (sn_cgej (a := 2) (b := 2) rfl rfl (by omega) (by omega)).mp c_7
            refine lv_iload_n hx hb dX3_keptSet_30 rfl (lv_at hl 1 rfl) ?_
            exact sn_ret hx hb hr hlk dX3_keptSet_31 ((show sn_kps kp = _ from by unfold sn_kps; rw [if_pos (hk0.mpr o_2), if_pos (hk1.mpr o_5)]; decide).symm)
          · have c_7 := (sn_cgef (a := 2) (b := 2) rfl rfl (by omega) (by omega)).mp c_7
            exact absurd c_7 (by omega)
        · refine lv_iload_n hx hb dX3_keptSet_18 rfl (lv_at hl 1 rfl) ?_
          refine lv_iconst (v := 1) hx hb dX3_keptSet_19 (by decide) ?_
          refine lv_iload_n hx hb dX3_keptSet_20 rfl (lv_at hl 0 rfl) ?_
          refine lv_ishl hx hb dX3_keptSet_21 ?_
          refine lv_ior hx hb dX3_keptSet_22 ?_
          refine lv_istore_n (lv' := [(1, .int ((0 : Int32) ||| ((1 : Int32) <<< ((nI 1 : Int32) &&& 31) : Int32))), (2, .int (nI 1)), (0, .ref o)]) hx hb dX3_keptSet_23 rfl hl (by decide) rfl (fun ls hl => ?_)
          refine lv_iinc (v := nI 2) (lv' := [(2, .int (nI 2)), (1, .int ((0 : Int32) ||| ((1 : Int32) <<< ((nI 1 : Int32) &&& 31) : Int32))), (0, .ref o)]) hx hb dX3_keptSet_24 hl (k := 1) rfl (by decide) (by decide) rfl (fun ls hl => ?_)
          refine lv_goto (tgt := 4) hx hb dX3_keptSet_27 (by decide) ?_
          refine lv_iload_n hx hb dX3_keptSet_4 rfl (lv_at hl 0 rfl) ?_
          refine lv_iconst (v := 2) hx hb dX3_keptSet_5 (by decide) ?_
          refine lv_icmp_ge (tgt := 30) hx hb dX3_keptSet_6 (by decide) (fun c_8 => ?_) (fun c_8 => ?_)
          · have c_8 := (sn_cgej (a := 2) (b := 2) rfl rfl (by omega) (by omega)).mp c_8
            refine lv_iload_n hx hb dX3_keptSet_30 rfl (lv_at hl 1 rfl) ?_
            exact sn_ret hx hb hr hlk dX3_keptSet_31 ((show sn_kps kp = _ from by unfold sn_kps; rw [if_pos (hk0.mpr o_2), if_neg (fun z => by rw [hk1.mp z] at o_5; cases o_5)]; decide).symm)
          · have c_8 := (sn_cgef (a := 2) (b := 2) rfl rfl (by omega) (by omega)).mp c_8
            exact absurd c_8 (by omega)
    · refine lv_iload_n hx hb dX3_keptSet_18 rfl (lv_at hl 1 rfl) ?_
      refine lv_iconst (v := 1) hx hb dX3_keptSet_19 (by decide) ?_
      refine lv_iload_n hx hb dX3_keptSet_20 rfl (lv_at hl 0 rfl) ?_
      refine lv_ishl hx hb dX3_keptSet_21 ?_
      refine lv_ior hx hb dX3_keptSet_22 ?_
      refine lv_istore_n (lv' := [(1, .int ((0 : Int32) ||| ((1 : Int32) <<< ((0 : Int32) &&& 31) : Int32))), (2, .int 0), (0, .ref o)]) hx hb dX3_keptSet_23 rfl hl (by decide) rfl (fun ls hl => ?_)
      refine lv_iinc (v := nI 1) (lv' := [(2, .int (nI 1)), (1, .int ((0 : Int32) ||| ((1 : Int32) <<< ((0 : Int32) &&& 31) : Int32))), (0, .ref o)]) hx hb dX3_keptSet_24 hl (k := 1) rfl (by decide) (by decide) rfl (fun ls hl => ?_)
      refine lv_goto (tgt := 4) hx hb dX3_keptSet_27 (by decide) ?_
      refine lv_iload_n hx hb dX3_keptSet_4 rfl (lv_at hl 0 rfl) ?_
      refine lv_iconst (v := 2) hx hb dX3_keptSet_5 (by decide) ?_
      refine lv_icmp_ge (tgt := 30) hx hb dX3_keptSet_6 (by decide) (fun c_9 => ?_) (fun c_9 => ?_)
      · have c_9 := (sn_cgej (a := 1) (b := 2) rfl rfl (by omega) (by omega)).mp c_9
        exact absurd c_9 (by omega)
      · have c_9 := (sn_cgef (a := 1) (b := 2) rfl rfl (by omega) (by omega)).mp c_9
        refine lv_aload_n hx hb dX3_keptSet_9 rfl (lv_at hl 2 rfl) ?_
        refine va_get (D := D) (ci := 2) (v := .ref im) (C := RX3) (T := TX3) (N := 3) hx hb hts huX3 hown hK hP 0 rfl rfl 2 (by decide) (hts (.fieldLink RX3 23 "SnowSlabs" "images" "[LSnowSlabs$Cover;") (by decide +kernel)) (fun _ h9 => h9) rfl dX3_keptSet_10 ?_
        refine lv_iload_n hx hb dX3_keptSet_13 rfl (lv_at hl 0 rfl) ?_
        refine sn_ald (k := 1) 8 2 hx hb hK hP rfl rfl (by omega) (by decide) rfl dX3_keptSet_14 ?_
        refine sn_ifnull (tgt := 24) hx hb dX3_keptSet_15 (by decide) (fun o_10 => ?_) (fun r_11 o_10 => ?_)
        · refine lv_iinc (v := nI 2) (lv' := [(2, .int (nI 2)), (1, .int ((0 : Int32) ||| ((1 : Int32) <<< ((0 : Int32) &&& 31) : Int32))), (0, .ref o)]) hx hb dX3_keptSet_24 hl (k := 0) rfl (by decide) (by decide) rfl (fun ls hl => ?_)
          refine lv_goto (tgt := 4) hx hb dX3_keptSet_27 (by decide) ?_
          refine lv_iload_n hx hb dX3_keptSet_4 rfl (lv_at hl 0 rfl) ?_
          refine lv_iconst (v := 2) hx hb dX3_keptSet_5 (by decide) ?_
          refine lv_icmp_ge (tgt := 30) hx hb dX3_keptSet_6 (by decide) (fun c_12 => ?_) (fun c_12 => ?_)
          · have c_12 := (sn_cgej (a := 2) (b := 2) rfl rfl (by omega) (by omega)).mp c_12
            refine lv_iload_n hx hb dX3_keptSet_30 rfl (lv_at hl 1 rfl) ?_
            exact sn_ret hx hb hr hlk dX3_keptSet_31 ((show sn_kps kp = _ from by unfold sn_kps; rw [if_neg (fun z => by rw [hk0.mp z] at o_2; cases o_2), if_pos (hk1.mpr o_10)]; decide).symm)
          · have c_12 := (sn_cgef (a := 2) (b := 2) rfl rfl (by omega) (by omega)).mp c_12
            exact absurd c_12 (by omega)
        · refine lv_iload_n hx hb dX3_keptSet_18 rfl (lv_at hl 1 rfl) ?_
          refine lv_iconst (v := 1) hx hb dX3_keptSet_19 (by decide) ?_
          refine lv_iload_n hx hb dX3_keptSet_20 rfl (lv_at hl 0 rfl) ?_
          refine lv_ishl hx hb dX3_keptSet_21 ?_
          refine lv_ior hx hb dX3_keptSet_22 ?_
          refine lv_istore_n (lv' := [(1, .int (((0 : Int32) ||| ((1 : Int32) <<< ((0 : Int32) &&& 31) : Int32) : Int32) ||| ((1 : Int32) <<< ((nI 1 : Int32) &&& 31) : Int32))), (2, .int (nI 1)), (0, .ref o)]) hx hb dX3_keptSet_23 rfl hl (by decide) rfl (fun ls hl => ?_)
          refine lv_iinc (v := nI 2) (lv' := [(2, .int (nI 2)), (1, .int (((0 : Int32) ||| ((1 : Int32) <<< ((0 : Int32) &&& 31) : Int32) : Int32) ||| ((1 : Int32) <<< ((nI 1 : Int32) &&& 31) : Int32))), (0, .ref o)]) hx hb dX3_keptSet_24 hl (k := 1) rfl (by decide) (by decide) rfl (fun ls hl => ?_)
          refine lv_goto (tgt := 4) hx hb dX3_keptSet_27 (by decide) ?_
          refine lv_iload_n hx hb dX3_keptSet_4 rfl (lv_at hl 0 rfl) ?_
          refine lv_iconst (v := 2) hx hb dX3_keptSet_5 (by decide) ?_
          refine lv_icmp_ge (tgt := 30) hx hb dX3_keptSet_6 (by decide) (fun c_13 => ?_) (fun c_13 => ?_)
          · have c_13 := (sn_cgej (a := 2) (b := 2) rfl rfl (by omega) (by omega)).mp c_13
            refine lv_iload_n hx hb dX3_keptSet_30 rfl (lv_at hl 1 rfl) ?_
            exact sn_ret hx hb hr hlk dX3_keptSet_31 ((show sn_kps kp = _ from by unfold sn_kps; rw [if_neg (fun z => by rw [hk0.mp z] at o_2; cases o_2), if_neg (fun z => by rw [hk1.mp z] at o_10; cases o_10)]; decide).symm)
          · have c_13 := (sn_cgef (a := 2) (b := 2) rfl rfl (by omega) (by omega)).mp c_13
            exact absurd c_13 (by omega)
set_option maxRecDepth 100000 in
set_option maxHeartbeats 4000000 in
theorem ct_X3_count (l : Launch) (D : va_G) (cI cZ cR : ClassId) (o : Nat) (a bt : Nat → Nat) (im : Nat) (f : Nat → Int32) (n : Nat) (hI : sn_I f n) (og : Nat → Option Nat) (kp : Nat → Int32) (hk0 : kp 0 = 0 ↔ og 0 = none) (hk1 : kp 1 = 0 ↔ og 1 = none) (x : Int32) : sn_Rd l yX3_count wsX3_count 2 [.ref o, .int x] D (sn_ty cI cZ cR) (sn_wS cI cZ o a bt im f ++ [(im, .inl (cR, 2, .inr (.inr (.inr (.inr og)))))]) (sn_Rcount f n kp x) := by
  refine sn_rd (cc := cX3_count) (maxL := 2) (ret := (some .int)) (by decide) rfl (Nat.le_of_ble_eq_true rfl) ?_
  intro p e s m below meth c hx hb hml hr hlk hts hown hP hK hN ls hl
  have hC : CallFix p m c cX3_count 2 s [.ref o, .int x].toArray wsX3_count RX3 := ⟨hx, hb, hml, hown, hts⟩
  have hl : lv_has ls 2 [(0, .ref o), (1, .int x)] := hl
  have huX0 : ∀ w ∈ wsX00, w ∈ wsX3_count := by decide +kernel
  have huX3 : ∀ w ∈ wsX30, w ∈ wsX3_count := by decide +kernel
  have hn10 := hI.2.1
  refine lv_iload_n hx hb dX3_count_0 rfl (lv_at hl 1 rfl) ?_
  refine lv_bipush (v := 10) hx hb dX3_count_1 (by decide) ?_
  refine lv_bipush (v := 14) hx hb dX3_count_3 (by decide) ?_
  refine sn_cS 3 hC hl (ct_X3_within l D _ [] x 10 14) gX3_count_X3_within rfl (by decide +kernel) rfl ⟨Nat.le_of_ble_eq_true rfl, Nat.le_of_ble_eq_true rfl⟩ ⟨Nat.zero_le _, Nat.zero_le _⟩ (fun _ _ h => by simp at h) hK hN rfl (Nat.le_of_ble_eq_true rfl) dX3_count_5 ?_
  refine lv_if_eq (tgt := 24) hx hb dX3_count_8 (by decide) (fun c_1 => ?_) (fun c_1 => ?_)
  · have c_1 : ¬ (10 ≤ x ∧ x ≤ 14) := sn_b_z.mp c_1
    refine lv_iload_n hx hb dX3_count_24 rfl (lv_at hl 1 rfl) ?_
    by_cases t_0 : x = 0
    · subst t_0
      refine lv_tableIn (tgt := 60) hx hb dX3_count_25 (by decide) (by decide) (by decide +kernel : _ = some (35 : Int)) (by decide) ?_
      refine lv_aload_n hx hb dX3_count_60 rfl (lv_at hl 0 rfl) ?_
      refine va_get (D := D) (ci := 2) (v := .ref (a 0)) (C := RX3) (T := TX3) (N := 3) hx hb hts huX3 hown hK hP 0 rfl rfl 0 (by decide) (hts (.fieldLink RX3 10 "SnowSlabs" "cover" "LSnowSlabs$Cover;") (by decide +kernel)) (fun _ h9 => h9) rfl dX3_count_61 ?_
      refine va_get (D := D) (ci := 0) (v := .int (f 0)) (C := RX0) (T := TX0) (N := 8) hx hb hts huX0 hown hK hP 1 rfl rfl 0 (by decide) (hts (.fieldLink RX3 31 "SnowSlabs$Cover" "size" "I") (by decide +kernel)) (fun _ h9 => h9) rfl dX3_count_64 ?_
      refine sn_top (hI.1) ?_
      exact sn_ret hx hb hr hlk dX3_count_67 (((if_neg c_1).trans (rfl)).symm)
    · skip
      by_cases t_1 : x = 1
      · subst t_1
        refine lv_tableIn (tgt := 68) hx hb dX3_count_25 (by decide) (by decide) (by decide +kernel : _ = some (43 : Int)) (by decide) ?_
        refine lv_aload_n hx hb dX3_count_68 rfl (lv_at hl 0 rfl) ?_
        refine va_get (D := D) (ci := 2) (v := .ref (a 0)) (C := RX3) (T := TX3) (N := 3) hx hb hts huX3 hown hK hP 0 rfl rfl 0 (by decide) (hts (.fieldLink RX3 10 "SnowSlabs" "cover" "LSnowSlabs$Cover;") (by decide +kernel)) (fun _ h9 => h9) rfl dX3_count_69 ?_
        refine sn_cV 0 0 hC hl (ct_X0_allThick l D cI cZ cR a f n hI ) gX3_count_X0_allThick rfl (by decide +kernel) rfl ⟨Nat.le_of_ble_eq_true rfl, Nat.le_of_ble_eq_true rfl⟩ ⟨Nat.zero_le _, Nat.zero_le _⟩ (hP.sub (ws' := sn_wC cI cZ a f) [1, 2, 3, 4, 5, 6, 7] rfl) hK hN rfl rfl rfl (Nat.le_of_ble_eq_true rfl) dX3_count_72 ?_
        exact sn_ret hx hb hr hlk dX3_count_75 (((if_neg c_1).trans (rfl)).symm)
      · skip
        by_cases t_2 : x = 2
        · subst t_2
          refine lv_tableIn (tgt := 76) hx hb dX3_count_25 (by decide) (by decide) (by decide +kernel : _ = some (51 : Int)) (by decide) ?_
          refine lv_aload_n hx hb dX3_count_76 rfl (lv_at hl 0 rfl) ?_
          refine va_get (D := D) (ci := 2) (v := .ref (a 0)) (C := RX3) (T := TX3) (N := 3) hx hb hts huX3 hown hK hP 0 rfl rfl 0 (by decide) (hts (.fieldLink RX3 10 "SnowSlabs" "cover" "LSnowSlabs$Cover;") (by decide +kernel)) (fun _ h9 => h9) rfl dX3_count_77 ?_
          refine lv_iconst (v := (-1)) hx hb dX3_count_80 (by decide) ?_
          refine lv_aload_n hx hb dX3_count_81 rfl (lv_at hl 0 rfl) ?_
          refine va_get (D := D) (ci := 2) (v := .ref (a 0)) (C := RX3) (T := TX3) (N := 3) hx hb hts huX3 hown hK hP 0 rfl rfl 0 (by decide) (hts (.fieldLink RX3 10 "SnowSlabs" "cover" "LSnowSlabs$Cover;") (by decide +kernel)) (fun _ h9 => h9) rfl dX3_count_82 ?_
          refine va_get (D := D) (ci := 0) (v := .int (f 0)) (C := RX0) (T := TX0) (N := 8) hx hb hts huX0 hown hK hP 1 rfl rfl 0 (by decide) (hts (.fieldLink RX3 31 "SnowSlabs$Cover" "size" "I") (by decide +kernel)) (fun _ h9 => h9) rfl dX3_count_85 ?_
          refine sn_top (hI.1) ?_
          refine sn_cV 2 0 hC hl (ct_X0_massAbove l D cI cZ cR a f (-1) 0 n (by decide) (by omega) (by first | exact hI.2.1 | omega)) gX3_count_X0_massAbove rfl (by decide +kernel) rfl ⟨Nat.le_of_ble_eq_true rfl, Nat.le_of_ble_eq_true rfl⟩ ⟨Nat.zero_le _, Nat.zero_le _⟩ (hP.sub (ws' := sn_wC cI cZ a f) [1, 2, 3, 4, 5, 6, 7] rfl) hK hN rfl rfl rfl (Nat.le_of_ble_eq_true rfl) dX3_count_88 ?_
          exact sn_ret hx hb hr hlk dX3_count_91 (((if_neg c_1).trans (rfl)).symm)
        · skip
          by_cases t_3 : x = 3
          · subst t_3
            refine lv_tableIn (tgt := 92) hx hb dX3_count_25 (by decide) (by decide) (by decide +kernel : _ = some (67 : Int)) (by decide) ?_
            refine lv_aload_n hx hb dX3_count_92 rfl (lv_at hl 0 rfl) ?_
            refine va_get (D := D) (ci := 2) (v := .ref (a 0)) (C := RX3) (T := TX3) (N := 3) hx hb hts huX3 hown hK hP 0 rfl rfl 0 (by decide) (hts (.fieldLink RX3 10 "SnowSlabs" "cover" "LSnowSlabs$Cover;") (by decide +kernel)) (fun _ h9 => h9) rfl dX3_count_93 ?_
            refine va_get (D := D) (ci := 0) (v := .int (f 1)) (C := RX0) (T := TX0) (N := 8) hx hb hts huX0 hown hK hP 1 rfl rfl 1 (by decide) (hts (.fieldLink RX3 83 "SnowSlabs$Cover" "blowWeight" "I") (by decide +kernel)) (fun _ h9 => h9) rfl dX3_count_96 ?_
            exact sn_ret hx hb hr hlk dX3_count_99 (((if_neg c_1).trans (rfl)).symm)
          · skip
            by_cases t_4 : x = 4
            · subst t_4
              refine lv_tableIn (tgt := 100) hx hb dX3_count_25 (by decide) (by decide) (by decide +kernel : _ = some (75 : Int)) (by decide) ?_
              refine lv_aload_n hx hb dX3_count_100 rfl (lv_at hl 0 rfl) ?_
              refine sn_cV 0 0 hC hl (ct_X3_keptSet l D cI cZ cR o a bt im f og kp hk0 hk1) gX3_count_X3_keptSet rfl (by decide +kernel) rfl ⟨Nat.le_of_ble_eq_true rfl, Nat.le_of_ble_eq_true rfl⟩ ⟨Nat.zero_le _, Nat.zero_le _⟩ hP hK hN rfl rfl rfl (Nat.le_of_ble_eq_true rfl) dX3_count_101 ?_
              exact sn_ret hx hb hr hlk dX3_count_104 (((if_neg c_1).trans (rfl)).symm)
            · refine lv_tableOut (tgt := 105) hx hb dX3_count_25 (by have e0 := lv_neT t_0 (a := 0) rfl; have e1 := lv_neT t_1 (a := 1) rfl; have e2 := lv_neT t_2 (a := 2) rfl; have e3 := lv_neT t_3 (a := 3) rfl; have e4 := lv_neT t_4 (a := 4) rfl; omega) (by decide) ?_
              refine lv_bipush (v := (-2)) hx hb dX3_count_105 (by decide) ?_
              exact sn_ret hx hb hr hlk dX3_count_107 (((if_neg c_1).trans ((if_neg t_0).trans ((if_neg t_1).trans ((if_neg t_2).trans ((if_neg t_3).trans (if_neg t_4)))))).symm)
  · have c_1 : 10 ≤ x ∧ x ≤ 14 := sn_b_nz.mp c_1
    obtain ⟨t, ht1, ht2, ht3⟩ := sn_rng (lo := 10) (hi := 14) c_1 (by decide)
    subst ht3
    refine lv_aload_n hx hb dX3_count_11 rfl (lv_at hl 0 rfl) ?_
    refine va_get (D := D) (ci := 2) (v := .ref (a 0)) (C := RX3) (T := TX3) (N := 3) hx hb hts huX3 hown hK hP 0 rfl rfl 0 (by decide) (hts (.fieldLink RX3 10 "SnowSlabs" "cover" "LSnowSlabs$Cover;") (by decide +kernel)) (fun _ h9 => h9) rfl dX3_count_12 ?_
    refine va_get (D := D) (ci := 0) (v := .ref (a 6)) (C := RX0) (T := TX0) (N := 8) hx hb hts huX0 hown hK hP 1 rfl rfl 7 (by decide) (hts (.fieldLink RX3 39 "SnowSlabs$Cover" "firmness" "[I") (by decide +kernel)) (fun _ h9 => h9) rfl dX3_count_15 ?_
    refine lv_iload_n hx hb dX3_count_18 rfl (lv_at hl 1 rfl) ?_
    refine lv_bipush (v := 10) hx hb dX3_count_19 (by decide) ?_
    refine lv_isub hx hb dX3_count_21 ?_
    refine sn_top (y := nI (t - 10)) (sn_nsub (a := t) (b := 10) rfl rfl (by omega)) ?_
    refine sn_ild (k := t - 10) (v := f (2 + (t - 10))) 7 0 hx hb hK hP rfl rfl (by omega) (by decide) rfl (rfl) dX3_count_22 ?_
    exact sn_ret hx hb hr hlk dX3_count_23 (((if_pos c_1).trans (by rw [nI_clamp (by omega)])).symm)
