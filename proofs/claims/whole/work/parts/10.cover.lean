set_option maxRecDepth 100000 in
set_option maxHeartbeats 4000000 in
theorem ct_X3_within (l : Launch) (D : va_G) (tys : List (ClassId × FieldType)) (w : va_W) (x y z : Int32) : sn_Rd l yX3_within wsX3_within 0 [.int x, .int y, .int z] D tys (w) (sn_b (y ≤ x ∧ x ≤ z)) := by
  refine sn_rd (cc := cX3_within) (maxL := 3) (ret := (some .boolean)) (by decide) rfl (Nat.le_of_ble_eq_true rfl) ?_
  intro p e s m below meth c hx hb hml hr hlk hts hown hP hK hN ls hl
  have hC : CallFix p m c cX3_within 3 s [.int x, .int y, .int z].toArray wsX3_within RX3 := ⟨hx, hb, hml, hown, hts⟩
  have hl : lv_has ls 3 [(0, .int x), (1, .int y), (2, .int z)] := hl
  refine lv_iload_n hx hb dX3_within_0 rfl (lv_at hl 0 rfl) ?_
  refine lv_iload_n hx hb dX3_within_1 rfl (lv_at hl 1 rfl) ?_
  refine lv_icmp_lt (tgt := 14) hx hb dX3_within_2 (by decide) (fun c_1 => ?_) (fun c_1 => ?_)
  · refine lv_iconst (v := 0) hx hb dX3_within_14 (by decide) ?_
    exact sn_zret hx hb hr hlk dX3_within_15 (by decide) (sn_b_f (by simp only [sn_le, sn_lt, sn_eq] at c_1 ⊢; omega))
  · refine lv_iload_n hx hb dX3_within_5 rfl (lv_at hl 0 rfl) ?_
    refine lv_iload_n hx hb dX3_within_6 rfl (lv_at hl 2 rfl) ?_
    refine lv_icmp_gt (tgt := 14) hx hb dX3_within_7 (by decide) (fun c_2 => ?_) (fun c_2 => ?_)
    · refine lv_iconst (v := 0) hx hb dX3_within_14 (by decide) ?_
      exact sn_zret hx hb hr hlk dX3_within_15 (by decide) (sn_b_f (by simp only [sn_le, sn_lt, sn_eq] at c_1 c_2 ⊢; omega))
    · refine lv_iconst (v := 1) hx hb dX3_within_10 (by decide) ?_
      refine lv_goto (tgt := 15) hx hb dX3_within_11 (by decide) ?_
      exact sn_zret hx hb hr hlk dX3_within_15 (by decide) (sn_b_t (by simp only [sn_le, sn_lt, sn_eq] at c_1 c_2 ⊢; omega))
set_option maxRecDepth 100000 in
set_option maxHeartbeats 4000000 in
theorem ct_X4_in (l : Launch) (D : va_G) (tys : List (ClassId × FieldType)) (w : va_W) (x y z : Int32) : sn_Rd l yX4_in wsX4_in 0 [.int x, .int y, .int z] D tys (w) (sn_b (y ≤ x ∧ x ≤ z)) := by
  refine sn_rd (cc := cX4_in) (maxL := 3) (ret := (some .boolean)) (by decide) rfl (Nat.le_of_ble_eq_true rfl) ?_
  intro p e s m below meth c hx hb hml hr hlk hts hown hP hK hN ls hl
  have hC : CallFix p m c cX4_in 3 s [.int x, .int y, .int z].toArray wsX4_in RX4 := ⟨hx, hb, hml, hown, hts⟩
  have hl : lv_has ls 3 [(0, .int x), (1, .int y), (2, .int z)] := hl
  refine lv_iload_n hx hb dX4_in_0 rfl (lv_at hl 0 rfl) ?_
  refine lv_iload_n hx hb dX4_in_1 rfl (lv_at hl 1 rfl) ?_
  refine lv_icmp_lt (tgt := 14) hx hb dX4_in_2 (by decide) (fun c_1 => ?_) (fun c_1 => ?_)
  · refine lv_iconst (v := 0) hx hb dX4_in_14 (by decide) ?_
    exact sn_zret hx hb hr hlk dX4_in_15 (by decide) (sn_b_f (by simp only [sn_le, sn_lt, sn_eq] at c_1 ⊢; omega))
  · refine lv_iload_n hx hb dX4_in_5 rfl (lv_at hl 0 rfl) ?_
    refine lv_iload_n hx hb dX4_in_6 rfl (lv_at hl 2 rfl) ?_
    refine lv_icmp_gt (tgt := 14) hx hb dX4_in_7 (by decide) (fun c_2 => ?_) (fun c_2 => ?_)
    · refine lv_iconst (v := 0) hx hb dX4_in_14 (by decide) ?_
      exact sn_zret hx hb hr hlk dX4_in_15 (by decide) (sn_b_f (by simp only [sn_le, sn_lt, sn_eq] at c_1 c_2 ⊢; omega))
    · refine lv_iconst (v := 1) hx hb dX4_in_10 (by decide) ?_
      refine lv_goto (tgt := 15) hx hb dX4_in_11 (by decide) ?_
      exact sn_zret hx hb hr hlk dX4_in_15 (by decide) (sn_b_t (by simp only [sn_le, sn_lt, sn_eq] at c_1 c_2 ⊢; omega))
set_option maxRecDepth 100000 in
set_option maxHeartbeats 4000000 in
theorem ct_X3_cut (l : Launch) (D : va_G) (tys : List (ClassId × FieldType)) (w : va_W) (x y : Int32) (h0 : ¬ y = 0) : sn_Rd l yX3_cut wsX3_cut 0 [.int x, .int y] D tys (w) (x / y) := by
  refine sn_rd (cc := cX3_cut) (maxL := 2) (ret := (some .int)) (by decide) rfl (Nat.le_of_ble_eq_true rfl) ?_
  intro p e s m below meth c hx hb hml hr hlk hts hown hP hK hN ls hl
  have hC : CallFix p m c cX3_cut 2 s [.int x, .int y].toArray wsX3_cut RX3 := ⟨hx, hb, hml, hown, hts⟩
  have hl : lv_has ls 2 [(0, .int x), (1, .int y)] := hl
  refine lv_iload_n hx hb dX3_cut_0 rfl (lv_at hl 1 rfl) ?_
  refine lv_if_ne (tgt := 8) hx hb dX3_cut_1 (by decide) (fun c_1 => ?_) (fun c_1 => ?_)
  · refine lv_iload_n hx hb dX3_cut_8 rfl (lv_at hl 0 rfl) ?_
    refine lv_iload_n hx hb dX3_cut_9 rfl (lv_at hl 1 rfl) ?_
    refine lv_idiv hx hb dX3_cut_10 h0 ?_
    exact sn_ret hx hb hr hlk dX3_cut_11 (rfl)
  · exact absurd c_1 (h0)
set_option maxRecDepth 100000 in
set_option maxHeartbeats 4000000 in
theorem ct_X0_has (l : Launch) (D : va_G) (cI cZ cR : ClassId) (a : Nat → Nat) (f : Nat → Int32) (n : Nat) (hn : f 0 = nI n) (x : Int32) : sn_Rd l yX0_has wsX0_has 1 [.ref (a 0), .int x] D (sn_ty cI cZ cR) (sn_wC cI cZ a f) (sn_b (0 ≤ x ∧ x ≤ nI n - 1)) := by
  refine sn_rd (cc := cX0_has) (maxL := 2) (ret := (some .boolean)) (by decide) rfl (Nat.le_of_ble_eq_true rfl) ?_
  intro p e s m below meth c hx hb hml hr hlk hts hown hP hK hN ls hl
  have hC : CallFix p m c cX0_has 2 s [.ref (a 0), .int x].toArray wsX0_has RX0 := ⟨hx, hb, hml, hown, hts⟩
  have hl : lv_has ls 2 [(0, .ref (a 0)), (1, .int x)] := hl
  have huX0 : ∀ w ∈ wsX00, w ∈ wsX0_has := by decide +kernel
  refine lv_iload_n hx hb dX0_has_0 rfl (lv_at hl 1 rfl) ?_
  refine lv_iconst (v := 0) hx hb dX0_has_1 (by decide) ?_
  refine lv_aload_n hx hb dX0_has_2 rfl (lv_at hl 0 rfl) ?_
  refine va_get (D := D) (ci := 0) (v := .int (f 0)) (C := RX0) (T := TX0) (N := 8) hx hb hts huX0 hown hK hP 0 rfl rfl 0 (by decide) (hts (.fieldLink RX0 9 "SnowSlabs$Cover" "size" "I") (by decide +kernel)) (fun _ h9 => h9) rfl dX0_has_3 ?_
  refine sn_top (hn) ?_
  refine lv_iconst (v := 1) hx hb dX0_has_6 (by decide) ?_
  refine lv_isub hx hb dX0_has_7 ?_
  refine sn_cN 3 hC hl (ct_X3_within l D _ [] x 0 ((nI n) - 1)) gX0_has_X3_within_n52 rfl hN.1 (hts (.initialized RX3) (by decide +kernel)) (hts (.static yX3_within) (by decide +kernel)) (by decide +kernel) rfl ⟨Nat.le_of_ble_eq_true rfl, Nat.le_of_ble_eq_true rfl⟩ ⟨Nat.zero_le _, Nat.zero_le _⟩ (fun _ _ h => by simp at h) hK hN rfl (Nat.le_of_ble_eq_true rfl) dX0_has_8 ?_
  exact sn_zret hx hb hr hlk dX0_has_11 (sn_b_01 _) (rfl)
set_option maxRecDepth 100000 in
set_option maxHeartbeats 4000000 in
theorem ct_X0_strength (l : Launch) (D : va_G) (cI cZ cR : ClassId) (a : Nat → Nat) (f : Nat → Int32) (n : Nat) (hI : sn_I f n) (i : Nat) (hi : i < 10) : sn_Rd l yX0_strength wsX0_strength 0 [.ref (a 0), .int (nI i)] D (sn_ty cI cZ cR) (sn_wC cI cZ a f) (sn_str f i) := by
  refine sn_rd (cc := cX0_strength) (maxL := 3) (ret := (some .int)) (by decide) rfl (Nat.le_of_ble_eq_true rfl) ?_
  intro p e s m below meth c hx hb hml hr hlk hts hown hP hK hN ls hl
  have hC : CallFix p m c cX0_strength 3 s [.ref (a 0), .int (nI i)].toArray wsX0_strength RX0 := ⟨hx, hb, hml, hown, hts⟩
  have hl : lv_has ls 3 [(0, .ref (a 0)), (1, .int (nI i))] := hl
  have huX0 : ∀ w ∈ wsX00, w ∈ wsX0_strength := by decide +kernel
  refine lv_aload_n hx hb dX0_strength_0 rfl (lv_at hl 0 rfl) ?_
  refine va_get (D := D) (ci := 0) (v := .ref (a 6)) (C := RX0) (T := TX0) (N := 8) hx hb hts huX0 hown hK hP 0 rfl rfl 7 (by decide) (hts (.fieldLink RX0 43 "SnowSlabs$Cover" "firmness" "[I") (by decide +kernel)) (fun _ h9 => h9) rfl dX0_strength_1 ?_
  refine lv_aload_n hx hb dX0_strength_4 rfl (lv_at hl 0 rfl) ?_
  refine va_get (D := D) (ci := 0) (v := .ref (a 3)) (C := RX0) (T := TX0) (N := 8) hx hb hts huX0 hown hK hP 0 rfl rfl 4 (by decide) (hts (.fieldLink RX0 25 "SnowSlabs$Cover" "grain" "[I") (by decide +kernel)) (fun _ h9 => h9) rfl dX0_strength_5 ?_
  refine lv_iload_n hx hb dX0_strength_8 rfl (lv_at hl 1 rfl) ?_
  refine sn_ild (k := i) (v := f (9 + 5 * i)) 3 0 hx hb hK hP rfl rfl (by omega) (by decide) rfl (rfl) dX0_strength_9 ?_
  refine va_iald hx hb hK hP 6 0 rfl rfl (hI.2.2.2 i hi).2.2.1 dX0_strength_10 ?_
  refine lv_aload_n hx hb dX0_strength_11 rfl (lv_at hl 0 rfl) ?_
  refine va_get (D := D) (ci := 0) (v := .ref (a 4)) (C := RX0) (T := TX0) (N := 8) hx hb hts huX0 hown hK hP 0 rfl rfl 5 (by decide) (hts (.fieldLink RX0 28 "SnowSlabs$Cover" "hard" "[I") (by decide +kernel)) (fun _ h9 => h9) rfl dX0_strength_12 ?_
  refine lv_iload_n hx hb dX0_strength_15 rfl (lv_at hl 1 rfl) ?_
  refine sn_ild (k := i) (v := f (10 + 5 * i)) 4 0 hx hb hK hP rfl rfl (by omega) (by decide) rfl (rfl) dX0_strength_16 ?_
  refine lv_imul hx hb dX0_strength_17 ?_
  refine lv_aload_n hx hb dX0_strength_18 rfl (lv_at hl 0 rfl) ?_
  refine va_get (D := D) (ci := 0) (v := .ref (a 2)) (C := RX0) (T := TX0) (N := 8) hx hb hts huX0 hown hK hP 0 rfl rfl 3 (by decide) (hts (.fieldLink RX0 22 "SnowSlabs$Cover" "dense" "[I") (by decide +kernel)) (fun _ h9 => h9) rfl dX0_strength_19 ?_
  refine lv_iload_n hx hb dX0_strength_22 rfl (lv_at hl 1 rfl) ?_
  refine sn_ild (k := i) (v := f (8 + 5 * i)) 2 0 hx hb hK hP rfl rfl (by omega) (by decide) rfl (rfl) dX0_strength_23 ?_
  refine lv_imul hx hb dX0_strength_24 ?_
  refine lv_bipush (v := 100) hx hb dX0_strength_25 (by decide) ?_
  refine lv_idiv hx hb dX0_strength_27 (by decide) ?_
  refine lv_istore_n (lv' := [(2, .int ((((f (2 + ((f (9 + 5 * i)).toNatClampNeg))) * (f (10 + 5 * i))) * (f (8 + 5 * i))) / 100)), (0, .ref (a 0)), (1, .int (nI i))]) hx hb dX0_strength_28 rfl hl (by decide) rfl (fun ls hl => ?_)
  refine lv_aload_n hx hb dX0_strength_29 rfl (lv_at hl 1 rfl) ?_
  refine va_get (D := D) (ci := 0) (v := .ref (a 5)) (C := RX0) (T := TX0) (N := 8) hx hb hts huX0 hown hK hP 0 rfl rfl 6 (by decide) (hts (.fieldLink RX0 31 "SnowSlabs$Cover" "wet" "[Z") (by decide +kernel)) (fun _ h9 => h9) rfl dX0_strength_30 ?_
  refine lv_iload_n hx hb dX0_strength_33 rfl (lv_at hl 2 rfl) ?_
  refine sn_zld (k := i) (v := f (11 + 5 * i)) 5 1 hx hb hK hP rfl rfl (by omega) (by decide) rfl (rfl) dX0_strength_34 ?_
  refine lv_if_eq (tgt := 44) hx hb dX0_strength_35 (by decide) (fun c_1 => ?_) (fun c_1 => ?_)
  · refine lv_iload_n hx hb dX0_strength_44 rfl (lv_at hl 0 rfl) ?_
    exact sn_ret hx hb hr hlk dX0_strength_45 ((if_pos c_1).symm)
  · refine lv_iload_n hx hb dX0_strength_38 rfl (lv_at hl 0 rfl) ?_
    refine lv_iconst (v := 2) hx hb dX0_strength_39 (by decide) ?_
    refine lv_idiv hx hb dX0_strength_40 (by decide) ?_
    refine lv_goto (tgt := 45) hx hb dX0_strength_41 (by decide) ?_
    exact sn_ret hx hb hr hlk dX0_strength_45 ((if_neg c_1).symm)
set_option maxRecDepth 100000 in
set_option maxHeartbeats 4000000 in
theorem ct_X0_depth (l : Launch) (D : va_G) (cI cZ cR : ClassId) (a : Nat → Nat) (f : Nat → Int32) (x : Int32) (i b : Nat) (hx1 : x + 1 = nI i) (hib : i ≤ b) (hb10 : b ≤ 10) : sn_Rd l yX0_depth wsX0_depth 0 [.ref (a 0), .int x, .int (nI b)] D (sn_ty cI cZ cR) (sn_wC cI cZ a f) (sn_dep f i b) := by
  refine sn_rd (cc := cX0_depth) (maxL := 5) (ret := (some .int)) (by decide) rfl (Nat.le_of_ble_eq_true rfl) ?_
  intro p e s m below meth c hx hb hml hr hlk hts hown hP hK hN ls hl
  have hC : CallFix p m c cX0_depth 5 s [.ref (a 0), .int x, .int (nI b)].toArray wsX0_depth RX0 := ⟨hx, hb, hml, hown, hts⟩
  have hl : lv_has ls 5 [(0, .ref (a 0)), (1, .int x), (2, .int (nI b))] := hl
  have huX0 : ∀ w ∈ wsX00, w ∈ wsX0_depth := by decide +kernel
  refine lv_iconst (v := 0) hx hb dX0_depth_0 (by decide) ?_
  refine sn_top (y := sn_dep f i i) ((sn_dep_self f i).symm) ?_
  refine lv_istore_n (lv' := [(3, .int (sn_dep f i i)), (0, .ref (a 0)), (1, .int x), (2, .int (nI b))]) hx hb dX0_depth_1 rfl hl (by decide) rfl (fun ls hl => ?_)
  refine lv_iload_n hx hb dX0_depth_2 rfl (lv_at hl 2 rfl) ?_
  refine lv_iconst (v := 1) hx hb dX0_depth_3 (by decide) ?_
  refine lv_iadd hx hb dX0_depth_4 ?_
  refine sn_top (y := nI i) (hx1) ?_
  refine lv_istore (lv' := [(4, .int (nI i)), (3, .int (sn_dep f i i)), (0, .ref (a 0)), (1, .int x), (2, .int (nI b))]) hx hb dX0_depth_5 hl (by decide) rfl (fun ls hl => ?_)
  have loop : ∀ (fu : Nat) (k : Nat), (i ≤ k) → (k ≤ b) → b - k < fu → ∀ ls : Array Slot, lv_has ls 5 [(0, .ref (a 0)), (1, .int x), (2, .int (nI b)), (3, .int (sn_dep f i k)), (4, .int (nI k))] → W p l e (sn_rm 0 0 0) s m [.ref (a 0), .int x, .int (nI b)].toArray below meth c s.heap [] 0 0 (MQ below (vp_Si (fun r_ => r_ = (sn_dep f i b))) [.ref (a 0), .int x, .int (nI b)].toArray s 0 0 (fun _ => False)) (F0 m 7 ls []) := by
    intro fu
    induction fu with
    | zero => intro k h1 h2 hm; exact absurd hm (Nat.not_lt_zero _)
    | succ fu ih_loop =>
      intro k h1 h2 hm ls hl
      refine lv_iload hx hb dX0_depth_7 (lv_at hl 4 rfl) ?_
      refine lv_iload_n hx hb dX0_depth_9 rfl (lv_at hl 2 rfl) ?_
      refine lv_icmp_ge (tgt := 29) hx hb dX0_depth_10 (by decide) (fun c_1 => ?_) (fun c_1 => ?_)
      · have c_1 := (sn_cgej (a := k) (b := b) rfl rfl (by omega) (by omega)).mp c_1
        refine lv_iload_n hx hb dX0_depth_29 rfl (lv_at hl 3 rfl) ?_
        exact sn_ret hx hb hr hlk dX0_depth_30 (by rw [show k = b by omega])
      · have c_1 := (sn_cgef (a := k) (b := b) rfl rfl (by omega) (by omega)).mp c_1
        refine lv_iload_n hx hb dX0_depth_13 rfl (lv_at hl 3 rfl) ?_
        refine lv_aload_n hx hb dX0_depth_14 rfl (lv_at hl 0 rfl) ?_
        refine va_get (D := D) (ci := 0) (v := .ref (a 1)) (C := RX0) (T := TX0) (N := 8) hx hb hts huX0 hown hK hP 0 rfl rfl 2 (by decide) (hts (.fieldLink RX0 18 "SnowSlabs$Cover" "thick" "[I") (by decide +kernel)) (fun _ h9 => h9) rfl dX0_depth_15 ?_
        refine lv_iload hx hb dX0_depth_18 (lv_at hl 4 rfl) ?_
        refine sn_ild (k := k) (v := f (7 + 5 * k)) 1 0 hx hb hK hP rfl rfl (by omega) (by decide) rfl (rfl) dX0_depth_20 ?_
        refine lv_iadd hx hb dX0_depth_21 ?_
        refine sn_top (y := sn_dep f i (k + 1)) (sn_dep_s h1) ?_
        refine lv_istore_n (lv' := [(3, .int (sn_dep f i (k + 1))), (0, .ref (a 0)), (1, .int x), (2, .int (nI b)), (4, .int (nI k))]) hx hb dX0_depth_22 rfl hl (by decide) rfl (fun ls hl => ?_)
        refine lv_iinc (v := nI (k + 1)) (lv' := [(4, .int (nI (k + 1))), (3, .int (sn_dep f i (k + 1))), (0, .ref (a 0)), (1, .int x), (2, .int (nI b))]) hx hb dX0_depth_23 hl (k := 4) rfl (sn_inc _) (by decide) rfl (fun ls hl => ?_)
        refine lv_goto (tgt := 7) hx hb dX0_depth_26 (by decide) ?_
        exact ih_loop (k + 1) (by omega) (by omega) (by omega) ls (lv_sub hl [2, 3, 4, 1, 0] rfl)
  exact loop ((b - i) + 1) i (Nat.le_refl _) hib (by omega) ls (lv_sub hl [2, 3, 4, 1, 0] rfl)
set_option maxRecDepth 100000 in
set_option maxHeartbeats 4000000 in
theorem ct_X0_massAbove (l : Launch) (D : va_G) (cI cZ cR : ClassId) (a : Nat → Nat) (f : Nat → Int32) (x : Int32) (i b : Nat) (hx1 : x + 1 = nI i) (hib : i ≤ b) (hb10 : b ≤ 10) : sn_Rd l yX0_massAbove wsX0_massAbove 0 [.ref (a 0), .int x, .int (nI b)] D (sn_ty cI cZ cR) (sn_wC cI cZ a f) (sn_mas f i b) := by
  refine sn_rd (cc := cX0_massAbove) (maxL := 5) (ret := (some .int)) (by decide) rfl (Nat.le_of_ble_eq_true rfl) ?_
  intro p e s m below meth c hx hb hml hr hlk hts hown hP hK hN ls hl
  have hC : CallFix p m c cX0_massAbove 5 s [.ref (a 0), .int x, .int (nI b)].toArray wsX0_massAbove RX0 := ⟨hx, hb, hml, hown, hts⟩
  have hl : lv_has ls 5 [(0, .ref (a 0)), (1, .int x), (2, .int (nI b))] := hl
  have huX0 : ∀ w ∈ wsX00, w ∈ wsX0_massAbove := by decide +kernel
  refine lv_iconst (v := 0) hx hb dX0_massAbove_0 (by decide) ?_
  refine sn_top (y := sn_mas f i i) ((sn_mas_self f i).symm) ?_
  refine lv_istore_n (lv' := [(3, .int (sn_mas f i i)), (0, .ref (a 0)), (1, .int x), (2, .int (nI b))]) hx hb dX0_massAbove_1 rfl hl (by decide) rfl (fun ls hl => ?_)
  refine lv_iload_n hx hb dX0_massAbove_2 rfl (lv_at hl 2 rfl) ?_
  refine lv_iconst (v := 1) hx hb dX0_massAbove_3 (by decide) ?_
  refine lv_iadd hx hb dX0_massAbove_4 ?_
  refine sn_top (y := nI i) (hx1) ?_
  refine lv_istore (lv' := [(4, .int (nI i)), (3, .int (sn_mas f i i)), (0, .ref (a 0)), (1, .int x), (2, .int (nI b))]) hx hb dX0_massAbove_5 hl (by decide) rfl (fun ls hl => ?_)
  have loop : ∀ (fu : Nat) (k : Nat), (i ≤ k) → (k ≤ b) → b - k < fu → ∀ ls : Array Slot, lv_has ls 5 [(0, .ref (a 0)), (1, .int x), (2, .int (nI b)), (3, .int (sn_mas f i k)), (4, .int (nI k))] → W p l e (sn_rm 0 0 0) s m [.ref (a 0), .int x, .int (nI b)].toArray below meth c s.heap [] 0 0 (MQ below (vp_Si (fun r_ => r_ = (sn_mas f i b))) [.ref (a 0), .int x, .int (nI b)].toArray s 0 0 (fun _ => False)) (F0 m 7 ls []) := by
    intro fu
    induction fu with
    | zero => intro k h1 h2 hm; exact absurd hm (Nat.not_lt_zero _)
    | succ fu ih_loop =>
      intro k h1 h2 hm ls hl
      refine lv_iload hx hb dX0_massAbove_7 (lv_at hl 4 rfl) ?_
      refine lv_iload_n hx hb dX0_massAbove_9 rfl (lv_at hl 2 rfl) ?_
      refine lv_icmp_ge (tgt := 37) hx hb dX0_massAbove_10 (by decide) (fun c_1 => ?_) (fun c_1 => ?_)
      · have c_1 := (sn_cgej (a := k) (b := b) rfl rfl (by omega) (by omega)).mp c_1
        refine lv_iload_n hx hb dX0_massAbove_37 rfl (lv_at hl 3 rfl) ?_
        exact sn_ret hx hb hr hlk dX0_massAbove_38 (by rw [show k = b by omega])
      · have c_1 := (sn_cgef (a := k) (b := b) rfl rfl (by omega) (by omega)).mp c_1
        refine lv_iload_n hx hb dX0_massAbove_13 rfl (lv_at hl 3 rfl) ?_
        refine lv_aload_n hx hb dX0_massAbove_14 rfl (lv_at hl 0 rfl) ?_
        refine va_get (D := D) (ci := 0) (v := .ref (a 1)) (C := RX0) (T := TX0) (N := 8) hx hb hts huX0 hown hK hP 0 rfl rfl 2 (by decide) (hts (.fieldLink RX0 18 "SnowSlabs$Cover" "thick" "[I") (by decide +kernel)) (fun _ h9 => h9) rfl dX0_massAbove_15 ?_
        refine lv_iload hx hb dX0_massAbove_18 (lv_at hl 4 rfl) ?_
        refine sn_ild (k := k) (v := f (7 + 5 * k)) 1 0 hx hb hK hP rfl rfl (by omega) (by decide) rfl (rfl) dX0_massAbove_20 ?_
        refine lv_aload_n hx hb dX0_massAbove_21 rfl (lv_at hl 0 rfl) ?_
        refine va_get (D := D) (ci := 0) (v := .ref (a 2)) (C := RX0) (T := TX0) (N := 8) hx hb hts huX0 hown hK hP 0 rfl rfl 3 (by decide) (hts (.fieldLink RX0 22 "SnowSlabs$Cover" "dense" "[I") (by decide +kernel)) (fun _ h9 => h9) rfl dX0_massAbove_22 ?_
        refine lv_iload hx hb dX0_massAbove_25 (lv_at hl 4 rfl) ?_
        refine sn_ild (k := k) (v := f (8 + 5 * k)) 2 0 hx hb hK hP rfl rfl (by omega) (by decide) rfl (rfl) dX0_massAbove_27 ?_
        refine lv_imul hx hb dX0_massAbove_28 ?_
        refine lv_iadd hx hb dX0_massAbove_29 ?_
        refine sn_top (y := sn_mas f i (k + 1)) (sn_mas_s h1) ?_
        refine lv_istore_n (lv' := [(3, .int (sn_mas f i (k + 1))), (0, .ref (a 0)), (1, .int x), (2, .int (nI b)), (4, .int (nI k))]) hx hb dX0_massAbove_30 rfl hl (by decide) rfl (fun ls hl => ?_)
        refine lv_iinc (v := nI (k + 1)) (lv' := [(4, .int (nI (k + 1))), (3, .int (sn_mas f i (k + 1))), (0, .ref (a 0)), (1, .int x), (2, .int (nI b))]) hx hb dX0_massAbove_31 hl (k := 4) rfl (sn_inc _) (by decide) rfl (fun ls hl => ?_)
        refine lv_goto (tgt := 7) hx hb dX0_massAbove_34 (by decide) ?_
        exact ih_loop (k + 1) (by omega) (by omega) (by omega) ls (lv_sub hl [2, 3, 4, 1, 0] rfl)
  exact loop ((b - i) + 1) i (Nat.le_refl _) hib (by omega) ls (lv_sub hl [2, 3, 4, 1, 0] rfl)
set_option maxRecDepth 100000 in
set_option maxHeartbeats 4000000 in
theorem ct_X0_load (l : Launch) (D : va_G) (cI cZ cR : ClassId) (a : Nat → Nat) (f : Nat → Int32) (i b : Nat) (hib : i + 1 ≤ b) (hb10 : b ≤ 10) : sn_Rd l yX0_load wsX0_load 1 [.ref (a 0), .int (nI i), .int (nI b)] D (sn_ty cI cZ cR) (sn_wC cI cZ a f) (sn_lod f i b) := by
  refine sn_rd (cc := cX0_load) (maxL := 3) (ret := (some .int)) (by decide) rfl (Nat.le_of_ble_eq_true rfl) ?_
  intro p e s m below meth c hx hb hml hr hlk hts hown hP hK hN ls hl
  have hC : CallFix p m c cX0_load 3 s [.ref (a 0), .int (nI i), .int (nI b)].toArray wsX0_load RX0 := ⟨hx, hb, hml, hown, hts⟩
  have hl : lv_has ls 3 [(0, .ref (a 0)), (1, .int (nI i)), (2, .int (nI b))] := hl
  refine lv_aload_n hx hb dX0_load_0 rfl (lv_at hl 0 rfl) ?_
  refine lv_iload_n hx hb dX0_load_1 rfl (lv_at hl 1 rfl) ?_
  refine lv_iload_n hx hb dX0_load_2 rfl (lv_at hl 2 rfl) ?_
  refine sn_cV 2 0 hC hl (ct_X0_massAbove l D cI cZ cR a f (nI i) (i + 1) b (nI_1 _) (by omega) (by first | exact hI.2.1 | omega)) gX0_load_X0_massAbove rfl (by decide +kernel) rfl ⟨Nat.le_of_ble_eq_true rfl, Nat.le_of_ble_eq_true rfl⟩ ⟨Nat.zero_le _, Nat.zero_le _⟩ hP hK hN rfl rfl rfl (Nat.le_of_ble_eq_true rfl) dX0_load_3 ?_
  refine lv_bipush (v := 100) hx hb dX0_load_6 (by decide) ?_
  refine lv_idiv hx hb dX0_load_8 (by decide) ?_
  exact sn_ret hx hb hr hlk dX0_load_9 (rfl)
set_option maxRecDepth 100000 in
set_option maxHeartbeats 4000000 in
theorem ct_X0_press (l : Launch) (D : va_G) (cI cZ cR : ClassId) (a : Nat → Nat) (f : Nat → Int32) (n : Nat) (hI : sn_I f n) (i b : Nat) (hib : i + 1 ≤ b) (hb10 : b ≤ 10) (wt : Int32) : sn_Rd l yX0_press wsX0_press 1 [.ref (a 0), .int (nI i), .int (nI b), .int wt] D (sn_ty cI cZ cR) (sn_wC cI cZ a f) (sn_prs f i b wt) := by
  refine sn_rd (cc := cX0_press) (maxL := 4) (ret := (some .int)) (by decide) rfl (Nat.le_of_ble_eq_true rfl) ?_
  intro p e s m below meth c hx hb hml hr hlk hts hown hP hK hN ls hl
  have hC : CallFix p m c cX0_press 4 s [.ref (a 0), .int (nI i), .int (nI b), .int wt].toArray wsX0_press RX0 := ⟨hx, hb, hml, hown, hts⟩
  have hl : lv_has ls 4 [(0, .ref (a 0)), (1, .int (nI i)), (2, .int (nI b)), (3, .int wt)] := hl
  refine lv_bipush (v := 100) hx hb dX0_press_0 (by decide) ?_
  refine lv_iload_n hx hb dX0_press_2 rfl (lv_at hl 3 rfl) ?_
  refine lv_imul hx hb dX0_press_3 ?_
  refine lv_aload_n hx hb dX0_press_4 rfl (lv_at hl 0 rfl) ?_
  refine lv_iload_n hx hb dX0_press_5 rfl (lv_at hl 1 rfl) ?_
  refine lv_iload_n hx hb dX0_press_6 rfl (lv_at hl 2 rfl) ?_
  refine sn_cV 2 0 hC hl (ct_X0_depth l D cI cZ cR a f (nI i) (i + 1) b (nI_1 _) (by omega) (by first | exact hI.2.1 | omega)) gX0_press_X0_depth rfl (by decide +kernel) rfl ⟨Nat.le_of_ble_eq_true rfl, Nat.le_of_ble_eq_true rfl⟩ ⟨Nat.zero_le _, Nat.zero_le _⟩ hP hK hN rfl rfl rfl (Nat.le_of_ble_eq_true rfl) dX0_press_7 ?_
  refine lv_bipush (v := 10) hx hb dX0_press_10 (by decide) ?_
  refine lv_iadd hx hb dX0_press_12 ?_
  refine sn_cN 2 hC hl (ct_X3_cut l D _ [] (100 * wt) ((sn_dep f (i + 1) b) + 10) (sn_dep_ne hI (i + 1) b hb10)) gX0_press_X3_cut_n63 rfl hN.2.1 (hts (.initialized RX3) (by decide +kernel)) (hts (.static yX3_cut) (by decide +kernel)) (by decide +kernel) rfl ⟨Nat.le_of_ble_eq_true rfl, Nat.le_of_ble_eq_true rfl⟩ ⟨Nat.zero_le _, Nat.zero_le _⟩ (fun _ _ h => by simp at h) hK hN rfl (Nat.le_of_ble_eq_true rfl) dX0_press_13 ?_
  exact sn_ret hx hb hr hlk dX0_press_16 (rfl)
set_option maxRecDepth 100000 in
set_option maxHeartbeats 4000000 in
theorem ct_X0_shear (l : Launch) (D : va_G) (cI cZ cR : ClassId) (a : Nat → Nat) (f : Nat → Int32) (n : Nat) (hI : sn_I f n) (i : Nat) (hi : i < n) (st : Int32) : sn_Rd l yX0_shear wsX0_shear 2 [.ref (a 0), .int (nI i), .int st] D (sn_ty cI cZ cR) (sn_wC cI cZ a f) (sn_she f i n st) := by
  refine sn_rd (cc := cX0_shear) (maxL := 3) (ret := (some .int)) (by decide) rfl (Nat.le_of_ble_eq_true rfl) ?_
  intro p e s m below meth c hx hb hml hr hlk hts hown hP hK hN ls hl
  have hC : CallFix p m c cX0_shear 3 s [.ref (a 0), .int (nI i), .int st].toArray wsX0_shear RX0 := ⟨hx, hb, hml, hown, hts⟩
  have hl : lv_has ls 3 [(0, .ref (a 0)), (1, .int (nI i)), (2, .int st)] := hl
  have huX0 : ∀ w ∈ wsX00, w ∈ wsX0_shear := by decide +kernel
  refine lv_aload_n hx hb dX0_shear_0 rfl (lv_at hl 0 rfl) ?_
  refine lv_iload_n hx hb dX0_shear_1 rfl (lv_at hl 1 rfl) ?_
  refine lv_aload_n hx hb dX0_shear_2 rfl (lv_at hl 0 rfl) ?_
  refine va_get (D := D) (ci := 0) (v := .int (f 0)) (C := RX0) (T := TX0) (N := 8) hx hb hts huX0 hown hK hP 0 rfl rfl 0 (by decide) (hts (.fieldLink RX0 9 "SnowSlabs$Cover" "size" "I") (by decide +kernel)) (fun _ h9 => h9) rfl dX0_shear_3 ?_
  refine sn_top (hI.1) ?_
  refine sn_cV 2 0 hC hl (ct_X0_load l D cI cZ cR a f i n (by omega) (by first | exact hI.2.1 | omega)) gX0_shear_X0_load rfl (by decide +kernel) rfl ⟨Nat.le_of_ble_eq_true rfl, Nat.le_of_ble_eq_true rfl⟩ ⟨Nat.zero_le _, Nat.zero_le _⟩ hP hK hN rfl rfl rfl (Nat.le_of_ble_eq_true rfl) dX0_shear_6 ?_
  refine lv_iload_n hx hb dX0_shear_9 rfl (lv_at hl 2 rfl) ?_
  refine lv_imul hx hb dX0_shear_10 ?_
  refine lv_bipush (v := 100) hx hb dX0_shear_11 (by decide) ?_
  refine lv_idiv hx hb dX0_shear_13 (by decide) ?_
  exact sn_ret hx hb hr hlk dX0_shear_14 (rfl)
set_option maxRecDepth 100000 in
set_option maxHeartbeats 4000000 in
theorem ct_X0_margin (l : Launch) (D : va_G) (cI cZ cR : ClassId) (a : Nat → Nat) (f : Nat → Int32) (n : Nat) (hI : sn_I f n) (i : Nat) (hi : i < n) (st : Int32) : sn_Rd l yX0_margin wsX0_margin 3 [.ref (a 0), .int (nI i), .int st] D (sn_ty cI cZ cR) (sn_wC cI cZ a f) (sn_mar f i n st) := by
  refine sn_rd (cc := cX0_margin) (maxL := 4) (ret := (some .int)) (by decide) rfl (Nat.le_of_ble_eq_true rfl) ?_
  intro p e s m below meth c hx hb hml hr hlk hts hown hP hK hN ls hl
  have hC : CallFix p m c cX0_margin 4 s [.ref (a 0), .int (nI i), .int st].toArray wsX0_margin RX0 := ⟨hx, hb, hml, hown, hts⟩
  have hl : lv_has ls 4 [(0, .ref (a 0)), (1, .int (nI i)), (2, .int st)] := hl
  refine lv_aload_n hx hb dX0_margin_0 rfl (lv_at hl 0 rfl) ?_
  refine lv_iload_n hx hb dX0_margin_1 rfl (lv_at hl 1 rfl) ?_
  refine lv_iload_n hx hb dX0_margin_2 rfl (lv_at hl 2 rfl) ?_
  refine sn_cV 2 0 hC hl (ct_X0_shear l D cI cZ cR a f n hI i (by omega) st) gX0_margin_X0_shear rfl (by decide +kernel) rfl ⟨Nat.le_of_ble_eq_true rfl, Nat.le_of_ble_eq_true rfl⟩ ⟨Nat.zero_le _, Nat.zero_le _⟩ hP hK hN rfl rfl rfl (Nat.le_of_ble_eq_true rfl) dX0_margin_3 ?_
  refine lv_istore_n (lv' := [(3, .int (sn_she f i n st)), (0, .ref (a 0)), (1, .int (nI i)), (2, .int st)]) hx hb dX0_margin_6 rfl hl (by decide) rfl (fun ls hl => ?_)
  refine lv_iload_n hx hb dX0_margin_7 rfl (lv_at hl 0 rfl) ?_
  refine lv_if_ne (tgt := 17) hx hb dX0_margin_8 (by decide) (fun c_1 => ?_) (fun c_1 => ?_)
  · refine lv_bipush (v := 100) hx hb dX0_margin_17 (by decide) ?_
    refine lv_aload_n hx hb dX0_margin_19 rfl (lv_at hl 1 rfl) ?_
    refine lv_iload_n hx hb dX0_margin_20 rfl (lv_at hl 2 rfl) ?_
    refine sn_cV 1 0 hC hl (ct_X0_strength l D cI cZ cR a f n hI i (by have := hI.2.1; omega)) gX0_margin_X0_strength rfl (by decide +kernel) rfl ⟨Nat.le_of_ble_eq_true rfl, Nat.le_of_ble_eq_true rfl⟩ ⟨Nat.zero_le _, Nat.zero_le _⟩ hP hK hN rfl rfl rfl (Nat.le_of_ble_eq_true rfl) dX0_margin_21 ?_
    refine lv_imul hx hb dX0_margin_24 ?_
    refine lv_iload_n hx hb dX0_margin_25 rfl (lv_at hl 0 rfl) ?_
    refine lv_idiv hx hb dX0_margin_26 c_1 ?_
    exact sn_ret hx hb hr hlk dX0_margin_27 ((if_neg c_1).symm)
  · refine lv_sipush (v := 9999) hx hb dX0_margin_11 (by decide) ?_
    refine lv_goto (tgt := 27) hx hb dX0_margin_14 (by decide) ?_
    exact sn_ret hx hb hr hlk dX0_margin_27 ((if_pos c_1).symm)
set_option maxRecDepth 100000 in
set_option maxHeartbeats 4000000 in
theorem ct_X0_allThick (l : Launch) (D : va_G) (cI cZ cR : ClassId) (a : Nat → Nat) (f : Nat → Int32) (n : Nat) (hI : sn_I f n) : sn_Rd l yX0_allThick wsX0_allThick 1 [.ref (a 0)] D (sn_ty cI cZ cR) (sn_wC cI cZ a f) (sn_dep f 0 n) := by
  refine sn_rd (cc := cX0_allThick) (maxL := 1) (ret := (some .int)) (by decide) rfl (Nat.le_of_ble_eq_true rfl) ?_
  intro p e s m below meth c hx hb hml hr hlk hts hown hP hK hN ls hl
  have hC : CallFix p m c cX0_allThick 1 s [.ref (a 0)].toArray wsX0_allThick RX0 := ⟨hx, hb, hml, hown, hts⟩
  have hl : lv_has ls 1 [(0, .ref (a 0))] := hl
  have huX0 : ∀ w ∈ wsX00, w ∈ wsX0_allThick := by decide +kernel
  refine lv_aload_n hx hb dX0_allThick_0 rfl (lv_at hl 0 rfl) ?_
  refine lv_iconst (v := (-1)) hx hb dX0_allThick_1 (by decide) ?_
  refine lv_aload_n hx hb dX0_allThick_2 rfl (lv_at hl 0 rfl) ?_
  refine va_get (D := D) (ci := 0) (v := .int (f 0)) (C := RX0) (T := TX0) (N := 8) hx hb hts huX0 hown hK hP 0 rfl rfl 0 (by decide) (hts (.fieldLink RX0 9 "SnowSlabs$Cover" "size" "I") (by decide +kernel)) (fun _ h9 => h9) rfl dX0_allThick_3 ?_
  refine sn_top (hI.1) ?_
  refine sn_cV 2 0 hC hl (ct_X0_depth l D cI cZ cR a f (-1) 0 n (by decide) (by omega) (by first | exact hI.2.1 | omega)) gX0_allThick_X0_depth rfl (by decide +kernel) rfl ⟨Nat.le_of_ble_eq_true rfl, Nat.le_of_ble_eq_true rfl⟩ ⟨Nat.zero_le _, Nat.zero_le _⟩ hP hK hN rfl rfl rfl (Nat.le_of_ble_eq_true rfl) dX0_allThick_6 ?_
  exact sn_ret hx hb hr hlk dX0_allThick_9 (rfl)
set_option maxRecDepth 100000 in
set_option maxHeartbeats 4000000 in
theorem ct_X0_breaking (l : Launch) (D : va_G) (cI cZ cR : ClassId) (a : Nat → Nat) (f : Nat → Int32) (n : Nat) (hI : sn_I f n) (b : Nat) (hb10 : b ≤ 10) (wt : Int32) : sn_Rd l yX0_breaking wsX0_breaking 2 [.ref (a 0), .int (nI b), .int wt] D (sn_ty cI cZ cR) (sn_wC cI cZ a f) (sn_en (sn_bk f b wt)) := by
  refine sn_rd (cc := cX0_breaking) (maxL := 4) (ret := (some .int)) (by decide) rfl (Nat.le_of_ble_eq_true rfl) ?_
  intro p e s m below meth c hx hb hml hr hlk hts hown hP hK hN ls hl
  have hC : CallFix p m c cX0_breaking 4 s [.ref (a 0), .int (nI b), .int wt].toArray wsX0_breaking RX0 := ⟨hx, hb, hml, hown, hts⟩
  have hl : lv_has ls 4 [(0, .ref (a 0)), (1, .int (nI b)), (2, .int wt)] := hl
  refine lv_iload_n hx hb dX0_breaking_0 rfl (lv_at hl 1 rfl) ?_
  refine lv_iconst (v := 2) hx hb dX0_breaking_1 (by decide) ?_
  refine lv_isub hx hb dX0_breaking_2 ?_
  refine lv_istore_n (lv' := [(3, .int ((nI b) - 2)), (0, .ref (a 0)), (1, .int (nI b)), (2, .int wt)]) hx hb dX0_breaking_3 rfl hl (by decide) rfl (fun ls hl => ?_)
  have loop : ∀ (j : Nat) (xj : Int32) , sn_dn j xj → (j ≤ b - 1) → (sn_bkA f b wt j = sn_bk f b wt) → ∀ ls : Array Slot, lv_has ls 4 [(0, .ref (a 0)), (1, .int (nI b)), (2, .int wt), (3, .int xj)] → W p l e (sn_rm 2 0 0) s m [.ref (a 0), .int (nI b), .int wt].toArray below meth c s.heap [] 0 0 (MQ below (vp_Si (fun r_ => r_ = (sn_en (sn_bk f b wt)))) [.ref (a 0), .int (nI b), .int wt].toArray s 0 0 (fun _ => False)) (F0 m 4 ls []) := by
    intro j
    induction j with
    | zero =>
      intro xj  hdn hj hq ls hl
      have hdn : xj < 0 := hdn
      refine lv_iload_n hx hb dX0_breaking_4 rfl (lv_at hl 3 rfl) ?_
      refine lv_if_lt (tgt := 38) hx hb dX0_breaking_5 (by decide) (fun c_1 => ?_) (fun c_1 => ?_)
      · refine lv_bipush (v := (-6)) hx hb dX0_breaking_38 (by decide) ?_
        exact sn_ret hx hb hr hlk dX0_breaking_40 (by rw [← hq]; rfl)
      · exact absurd hdn c_1
    | succ j ih_loop =>
      intro xj  hdn hj hq ls hl
      have hdn : xj = nI j := hdn
      subst hdn
      refine lv_iload_n hx hb dX0_breaking_4 rfl (lv_at hl 3 rfl) ?_
      refine lv_if_lt (tgt := 38) hx hb dX0_breaking_5 (by decide) (fun c_2 => ?_) (fun c_2 => ?_)
      · have c_2 := (sn_cltj (a := j) (b := 0) rfl rfl (by omega) (by omega)).mp c_2
        exact absurd c_2 (by omega)
      · have c_2 := (sn_cltf (a := j) (b := 0) rfl rfl (by omega) (by omega)).mp c_2
        refine lv_aload_n hx hb dX0_breaking_8 rfl (lv_at hl 0 rfl) ?_
        refine lv_iload_n hx hb dX0_breaking_9 rfl (lv_at hl 3 rfl) ?_
        refine lv_iload_n hx hb dX0_breaking_10 rfl (lv_at hl 1 rfl) ?_
        refine sn_cV 2 0 hC hl (ct_X0_load l D cI cZ cR a f j b (by omega) (by first | exact hI.2.1 | omega)) gX0_breaking_X0_load rfl (by decide +kernel) rfl ⟨Nat.le_of_ble_eq_true rfl, Nat.le_of_ble_eq_true rfl⟩ ⟨Nat.zero_le _, Nat.zero_le _⟩ hP hK hN rfl rfl rfl (Nat.le_of_ble_eq_true rfl) dX0_breaking_11 ?_
        refine lv_aload_n hx hb dX0_breaking_14 rfl (lv_at hl 0 rfl) ?_
        refine lv_iload_n hx hb dX0_breaking_15 rfl (lv_at hl 3 rfl) ?_
        refine lv_iload_n hx hb dX0_breaking_16 rfl (lv_at hl 1 rfl) ?_
        refine lv_iload_n hx hb dX0_breaking_17 rfl (lv_at hl 2 rfl) ?_
        refine sn_cV 3 0 hC hl (ct_X0_press l D cI cZ cR a f n hI j b (by omega) (by first | exact hI.2.1 | omega) wt) gX0_breaking_X0_press rfl (by decide +kernel) rfl ⟨Nat.le_of_ble_eq_true rfl, Nat.le_of_ble_eq_true rfl⟩ ⟨Nat.zero_le _, Nat.zero_le _⟩ hP hK hN rfl rfl rfl (Nat.le_of_ble_eq_true rfl) dX0_breaking_18 ?_
        refine lv_iadd hx hb dX0_breaking_21 ?_
        refine lv_aload_n hx hb dX0_breaking_22 rfl (lv_at hl 0 rfl) ?_
        refine lv_iload_n hx hb dX0_breaking_23 rfl (lv_at hl 3 rfl) ?_
        refine sn_cV 1 0 hC hl (ct_X0_strength l D cI cZ cR a f n hI j (by have := hI.2.1; omega)) gX0_breaking_X0_strength rfl (by decide +kernel) rfl ⟨Nat.le_of_ble_eq_true rfl, Nat.le_of_ble_eq_true rfl⟩ ⟨Nat.zero_le _, Nat.zero_le _⟩ hP hK hN rfl rfl rfl (Nat.le_of_ble_eq_true rfl) dX0_breaking_24 ?_
        refine lv_icmp_lt (tgt := 32) hx hb dX0_breaking_27 (by decide) (fun c_3 => ?_) (fun c_3 => ?_)
        · have c_3 := Int32.not_le.mpr c_3
          refine lv_iinc (v := (nI j) + (-1)) (lv' := [(3, .int ((nI j) + (-1))), (0, .ref (a 0)), (1, .int (nI b)), (2, .int wt)]) hx hb dX0_breaking_32 hl (k := 3) rfl (rfl) (by decide) rfl (fun ls hl => ?_)
          refine lv_goto (tgt := 4) hx hb dX0_breaking_35 (by decide) ?_
          exact ih_loop ((nI j) + (-1)) (sn_dn_p j) (by omega) ((if_neg c_3).symm.trans hq) ls (lv_sub hl [1, 2, 3, 0] rfl)
        · have c_3 := Int32.not_lt.mp c_3
          refine lv_iload_n hx hb dX0_breaking_30 rfl (lv_at hl 3 rfl) ?_
          exact sn_ret hx hb hr hlk dX0_breaking_31 (by rw [← hq, show sn_bkA f b wt (j + 1) = j + 1 from if_pos c_3]; rfl)
  exact loop (b - 1) ((nI b) - 2) (sn_dn_2 b) (Nat.le_refl _) rfl ls (lv_sub hl [1, 2, 3, 0] rfl)
set_option maxRecDepth 100000 in
set_option maxHeartbeats 4000000 in
theorem ct_X0_slabGoes (l : Launch) (D : va_G) (cI cZ cR : ClassId) (a : Nat → Nat) (f : Nat → Int32) (n : Nat) (hI : sn_I f n) (i : Nat) (hi : i < n) (st wt : Int32) : sn_Rd l yX0_slabGoes wsX0_slabGoes 3 [.ref (a 0), .int (nI i), .int st, .int wt] D (sn_ty cI cZ cR) (sn_wC cI cZ a f) (sn_b (sn_Go f n st wt i)) := by
  refine sn_rd (cc := cX0_slabGoes) (maxL := 4) (ret := (some .boolean)) (by decide) rfl (Nat.le_of_ble_eq_true rfl) ?_
  intro p e s m below meth c hx hb hml hr hlk hts hown hP hK hN ls hl
  have hC : CallFix p m c cX0_slabGoes 4 s [.ref (a 0), .int (nI i), .int st, .int wt].toArray wsX0_slabGoes RX0 := ⟨hx, hb, hml, hown, hts⟩
  have hl : lv_has ls 4 [(0, .ref (a 0)), (1, .int (nI i)), (2, .int st), (3, .int wt)] := hl
  have huX0 : ∀ w ∈ wsX00, w ∈ wsX0_slabGoes := by decide +kernel
  refine lv_aload_n hx hb dX0_slabGoes_0 rfl (lv_at hl 0 rfl) ?_
  refine lv_iload_n hx hb dX0_slabGoes_1 rfl (lv_at hl 1 rfl) ?_
  refine lv_iload_n hx hb dX0_slabGoes_2 rfl (lv_at hl 2 rfl) ?_
  refine sn_cV 2 0 hC hl (ct_X0_shear l D cI cZ cR a f n hI i (by omega) st) gX0_slabGoes_X0_shear rfl (by decide +kernel) rfl ⟨Nat.le_of_ble_eq_true rfl, Nat.le_of_ble_eq_true rfl⟩ ⟨Nat.zero_le _, Nat.zero_le _⟩ hP hK hN rfl rfl rfl (Nat.le_of_ble_eq_true rfl) dX0_slabGoes_3 ?_
  refine lv_aload_n hx hb dX0_slabGoes_6 rfl (lv_at hl 0 rfl) ?_
  refine lv_iload_n hx hb dX0_slabGoes_7 rfl (lv_at hl 1 rfl) ?_
  refine lv_aload_n hx hb dX0_slabGoes_8 rfl (lv_at hl 0 rfl) ?_
  refine va_get (D := D) (ci := 0) (v := .int (f 0)) (C := RX0) (T := TX0) (N := 8) hx hb hts huX0 hown hK hP 0 rfl rfl 0 (by decide) (hts (.fieldLink RX0 9 "SnowSlabs$Cover" "size" "I") (by decide +kernel)) (fun _ h9 => h9) rfl dX0_slabGoes_9 ?_
  refine sn_top (hI.1) ?_
  refine lv_iload_n hx hb dX0_slabGoes_12 rfl (lv_at hl 3 rfl) ?_
  refine sn_cV 3 0 hC hl (ct_X0_press l D cI cZ cR a f n hI i n (by omega) (by first | exact hI.2.1 | omega) wt) gX0_slabGoes_X0_press rfl (by decide +kernel) rfl ⟨Nat.le_of_ble_eq_true rfl, Nat.le_of_ble_eq_true rfl⟩ ⟨Nat.zero_le _, Nat.zero_le _⟩ hP hK hN rfl rfl rfl (Nat.le_of_ble_eq_true rfl) dX0_slabGoes_13 ?_
  refine lv_iadd hx hb dX0_slabGoes_16 ?_
  refine lv_aload_n hx hb dX0_slabGoes_17 rfl (lv_at hl 0 rfl) ?_
  refine lv_iload_n hx hb dX0_slabGoes_18 rfl (lv_at hl 1 rfl) ?_
  refine sn_cV 1 0 hC hl (ct_X0_strength l D cI cZ cR a f n hI i (by have := hI.2.1; omega)) gX0_slabGoes_X0_strength rfl (by decide +kernel) rfl ⟨Nat.le_of_ble_eq_true rfl, Nat.le_of_ble_eq_true rfl⟩ ⟨Nat.zero_le _, Nat.zero_le _⟩ hP hK hN rfl rfl rfl (Nat.le_of_ble_eq_true rfl) dX0_slabGoes_19 ?_
  refine lv_icmp_lt (tgt := 29) hx hb dX0_slabGoes_22 (by decide) (fun c_1 => ?_) (fun c_1 => ?_)
  · have c_1 := Int32.not_le.mpr c_1
    refine lv_iconst (v := 0) hx hb dX0_slabGoes_29 (by decide) ?_
    exact sn_zret hx hb hr hlk dX0_slabGoes_30 (by decide) (sn_b_f c_1)
  · have c_1 := Int32.not_lt.mp c_1
    refine lv_iconst (v := 1) hx hb dX0_slabGoes_25 (by decide) ?_
    refine lv_goto (tgt := 30) hx hb dX0_slabGoes_26 (by decide) ?_
    exact sn_zret hx hb hr hlk dX0_slabGoes_30 (by decide) (sn_b_t c_1)
set_option maxRecDepth 100000 in
set_option maxHeartbeats 4000000 in
theorem ct_X0_going (l : Launch) (D : va_G) (cI cZ cR : ClassId) (a : Nat → Nat) (f : Nat → Int32) (n : Nat) (hI : sn_I f n) (st wt : Int32) : sn_Rd l yX0_going wsX0_going 4 [.ref (a 0), .int st, .int wt] D (sn_ty cI cZ cR) (sn_wC cI cZ a f) (sn_en (sn_gn f n st wt)) := by
  refine sn_rd (cc := cX0_going) (maxL := 4) (ret := (some .int)) (by decide) rfl (Nat.le_of_ble_eq_true rfl) ?_
  intro p e s m below meth c hx hb hml hr hlk hts hown hP hK hN ls hl
  have hC : CallFix p m c cX0_going 4 s [.ref (a 0), .int st, .int wt].toArray wsX0_going RX0 := ⟨hx, hb, hml, hown, hts⟩
  have hl : lv_has ls 4 [(0, .ref (a 0)), (1, .int st), (2, .int wt)] := hl
  have huX0 : ∀ w ∈ wsX00, w ∈ wsX0_going := by decide +kernel
  have hn10 := hI.2.1
  refine lv_aload_n hx hb dX0_going_0 rfl (lv_at hl 0 rfl) ?_
  refine va_get (D := D) (ci := 0) (v := .int (f 0)) (C := RX0) (T := TX0) (N := 8) hx hb hts huX0 hown hK hP 0 rfl rfl 0 (by decide) (hts (.fieldLink RX0 9 "SnowSlabs$Cover" "size" "I") (by decide +kernel)) (fun _ h9 => h9) rfl dX0_going_1 ?_
  refine sn_top (hI.1) ?_
  refine lv_iconst (v := 2) hx hb dX0_going_4 (by decide) ?_
  refine lv_isub hx hb dX0_going_5 ?_
  refine lv_istore_n (lv' := [(3, .int ((nI n) - 2)), (0, .ref (a 0)), (1, .int st), (2, .int wt)]) hx hb dX0_going_6 rfl hl (by decide) rfl (fun ls hl => ?_)
  have loop : ∀ (j : Nat) (xj : Int32) , sn_dn j xj → (j ≤ n - 1) → (sn_gnA f n st wt j = sn_gn f n st wt) → ∀ ls : Array Slot, lv_has ls 4 [(0, .ref (a 0)), (1, .int st), (2, .int wt), (3, .int xj)] → W p l e (sn_rm 4 0 0) s m [.ref (a 0), .int st, .int wt].toArray below meth c s.heap [] 0 0 (MQ below (vp_Si (fun r_ => r_ = (sn_en (sn_gn f n st wt)))) [.ref (a 0), .int st, .int wt].toArray s 0 0 (fun _ => False)) (F0 m 7 ls []) := by
    intro j
    induction j with
    | zero =>
      intro xj  hdn hj hq ls hl
      have hdn : xj < 0 := hdn
      refine lv_iload_n hx hb dX0_going_7 rfl (lv_at hl 3 rfl) ?_
      refine lv_if_lt (tgt := 29) hx hb dX0_going_8 (by decide) (fun c_1 => ?_) (fun c_1 => ?_)
      · refine lv_bipush (v := (-6)) hx hb dX0_going_29 (by decide) ?_
        exact sn_ret hx hb hr hlk dX0_going_31 (by rw [← hq]; rfl)
      · exact absurd hdn c_1
    | succ j ih_loop =>
      intro xj  hdn hj hq ls hl
      have hdn : xj = nI j := hdn
      subst hdn
      refine lv_iload_n hx hb dX0_going_7 rfl (lv_at hl 3 rfl) ?_
      refine lv_if_lt (tgt := 29) hx hb dX0_going_8 (by decide) (fun c_2 => ?_) (fun c_2 => ?_)
      · have c_2 := (sn_cltj (a := j) (b := 0) rfl rfl (by omega) (by omega)).mp c_2
        exact absurd c_2 (by omega)
      · have c_2 := (sn_cltf (a := j) (b := 0) rfl rfl (by omega) (by omega)).mp c_2
        refine lv_aload_n hx hb dX0_going_11 rfl (lv_at hl 0 rfl) ?_
        refine lv_iload_n hx hb dX0_going_12 rfl (lv_at hl 3 rfl) ?_
        refine lv_iload_n hx hb dX0_going_13 rfl (lv_at hl 1 rfl) ?_
        refine lv_iload_n hx hb dX0_going_14 rfl (lv_at hl 2 rfl) ?_
        refine sn_cV 3 0 hC hl (ct_X0_slabGoes l D cI cZ cR a f n hI j (by omega) st wt) gX0_going_X0_slabGoes rfl (by decide +kernel) rfl ⟨Nat.le_of_ble_eq_true rfl, Nat.le_of_ble_eq_true rfl⟩ ⟨Nat.zero_le _, Nat.zero_le _⟩ hP hK hN rfl rfl rfl (Nat.le_of_ble_eq_true rfl) dX0_going_15 ?_
        refine lv_if_eq (tgt := 23) hx hb dX0_going_18 (by decide) (fun c_3 => ?_) (fun c_3 => ?_)
        · have c_3 : ¬ (sn_Go f n st wt j) := sn_b_z.mp c_3
          refine lv_iinc (v := (nI j) + (-1)) (lv' := [(3, .int ((nI j) + (-1))), (0, .ref (a 0)), (1, .int st), (2, .int wt)]) hx hb dX0_going_23 hl (k := 3) rfl (rfl) (by decide) rfl (fun ls hl => ?_)
          refine lv_goto (tgt := 7) hx hb dX0_going_26 (by decide) ?_
          exact ih_loop ((nI j) + (-1)) (sn_dn_p j) (by omega) ((if_neg c_3).symm.trans hq) ls (lv_sub hl [1, 2, 3, 0] rfl)
        · have c_3 : sn_Go f n st wt j := sn_b_nz.mp c_3
          refine lv_iload_n hx hb dX0_going_21 rfl (lv_at hl 3 rfl) ?_
          exact sn_ret hx hb hr hlk dX0_going_22 (by rw [← hq, show sn_gnA f n st wt (j + 1) = j + 1 from if_pos c_3]; rfl)
  exact loop (n - 1) ((nI n) - 2) (sn_dn_2 n) (Nat.le_refl _) rfl ls (lv_sub hl [1, 2, 3, 0] rfl)
set_option maxRecDepth 100000 in
set_option maxHeartbeats 4000000 in
theorem ct_X0_leastMargin (l : Launch) (D : va_G) (cI cZ cR : ClassId) (a : Nat → Nat) (f : Nat → Int32) (n : Nat) (hI : sn_I f n) (st : Int32) : sn_Rd l yX0_leastMargin wsX0_leastMargin 4 [.ref (a 0), .int st] D (sn_ty cI cZ cR) (sn_wC cI cZ a f) (sn_en (sn_wk f n st)) := by
  refine sn_rd (cc := cX0_leastMargin) (maxL := 6) (ret := (some .int)) (by decide) rfl (Nat.le_of_ble_eq_true rfl) ?_
  intro p e s m below meth c hx hb hml hr hlk hts hown hP hK hN ls hl
  have hC : CallFix p m c cX0_leastMargin 6 s [.ref (a 0), .int st].toArray wsX0_leastMargin RX0 := ⟨hx, hb, hml, hown, hts⟩
  have hl : lv_has ls 6 [(0, .ref (a 0)), (1, .int st)] := hl
  have huX0 : ∀ w ∈ wsX00, w ∈ wsX0_leastMargin := by decide +kernel
  have hn10 := hI.2.1
  refine lv_bipush (v := (-6)) hx hb dX0_leastMargin_0 (by decide) ?_
  refine lv_istore_n (lv' := [(2, .int (-6)), (0, .ref (a 0)), (1, .int st)]) hx hb dX0_leastMargin_2 rfl hl (by decide) rfl (fun ls hl => ?_)
  refine lv_iconst (v := 0) hx hb dX0_leastMargin_3 (by decide) ?_
  refine lv_istore_n (lv' := [(3, .int 0), (2, .int (-6)), (0, .ref (a 0)), (1, .int st)]) hx hb dX0_leastMargin_4 rfl hl (by decide) rfl (fun ls hl => ?_)
  refine lv_aload_n hx hb dX0_leastMargin_5 rfl (lv_at hl 2 rfl) ?_
  refine va_get (D := D) (ci := 0) (v := .int (f 0)) (C := RX0) (T := TX0) (N := 8) hx hb hts huX0 hown hK hP 0 rfl rfl 0 (by decide) (hts (.fieldLink RX0 9 "SnowSlabs$Cover" "size" "I") (by decide +kernel)) (fun _ h9 => h9) rfl dX0_leastMargin_6 ?_
  refine sn_top (hI.1) ?_
  refine lv_iconst (v := 2) hx hb dX0_leastMargin_9 (by decide) ?_
  refine lv_isub hx hb dX0_leastMargin_10 ?_
  refine lv_istore (lv' := [(4, .int ((nI n) - 2)), (3, .int 0), (2, .int (-6)), (0, .ref (a 0)), (1, .int st)]) hx hb dX0_leastMargin_11 hl (by decide) rfl (fun ls hl => ?_)
  have loop : ∀ (j : Nat) (xj : Int32) (q : Nat) (L : Int32), sn_dn j xj → (j ≤ n - 1) → (sn_Wk f n st j q L) → (q ≤ 10) → ∀ ls : Array Slot, lv_has ls 6 [(0, .ref (a 0)), (1, .int st), (2, .int (sn_en q)), (3, .int L), (4, .int xj)] → W p l e (sn_rm 4 0 0) s m [.ref (a 0), .int st].toArray below meth c s.heap [] 0 0 (MQ below (vp_Si (fun r_ => r_ = (sn_en (sn_wk f n st)))) [.ref (a 0), .int st].toArray s 0 0 (fun _ => False)) (F0 m 13 ls []) := by
    intro j
    induction j with
    | zero =>
      intro xj q L hdn hj hW hq ls hl
      have hdn : xj < 0 := hdn
      refine lv_iload hx hb dX0_leastMargin_13 (lv_at hl 4 rfl) ?_
      refine lv_if_lt (tgt := 51) hx hb dX0_leastMargin_15 (by decide) (fun c_1 => ?_) (fun c_1 => ?_)
      · refine lv_iload_n hx hb dX0_leastMargin_51 rfl (lv_at hl 2 rfl) ?_
        exact sn_ret hx hb hr hlk dX0_leastMargin_52 (by rw [sn_Wk_end hW])
      · exact absurd hdn c_1
    | succ j ih_loop =>
      intro xj q L hdn hj hW hq ls hl
      have hdn : xj = nI j := hdn
      subst hdn
      refine lv_iload hx hb dX0_leastMargin_13 (lv_at hl 4 rfl) ?_
      refine lv_if_lt (tgt := 51) hx hb dX0_leastMargin_15 (by decide) (fun c_2 => ?_) (fun c_2 => ?_)
      · have c_2 := (sn_cltj (a := j) (b := 0) rfl rfl (by omega) (by omega)).mp c_2
        exact absurd c_2 (by omega)
      · have c_2 := (sn_cltf (a := j) (b := 0) rfl rfl (by omega) (by omega)).mp c_2
        refine lv_aload_n hx hb dX0_leastMargin_18 rfl (lv_at hl 0 rfl) ?_
        refine lv_iload hx hb dX0_leastMargin_19 (lv_at hl 4 rfl) ?_
        refine lv_iload_n hx hb dX0_leastMargin_21 rfl (lv_at hl 1 rfl) ?_
        refine sn_cV 2 0 hC hl (ct_X0_margin l D cI cZ cR a f n hI j (by omega) st) gX0_leastMargin_X0_margin rfl (by decide +kernel) rfl ⟨Nat.le_of_ble_eq_true rfl, Nat.le_of_ble_eq_true rfl⟩ ⟨Nat.zero_le _, Nat.zero_le _⟩ hP hK hN rfl rfl rfl (Nat.le_of_ble_eq_true rfl) dX0_leastMargin_22 ?_
        refine lv_istore (lv' := [(5, .int (sn_mar f j n st)), (0, .ref (a 0)), (1, .int st), (2, .int (sn_en q)), (3, .int L), (4, .int (nI j))]) hx hb dX0_leastMargin_25 hl (by decide) rfl (fun ls hl => ?_)
        refine lv_iload_n hx hb dX0_leastMargin_27 rfl (lv_at hl 3 rfl) ?_
        refine lv_bipush (v := (-6)) hx hb dX0_leastMargin_28 (by decide) ?_
        refine lv_icmp_eq (tgt := 39) hx hb dX0_leastMargin_30 (by decide) (fun c_3 => ?_) (fun c_3 => ?_)
        · have c_3 := (sn_en_none (by omega)).mp c_3
          refine lv_iload hx hb dX0_leastMargin_39 (lv_at hl 5 rfl) ?_
          refine lv_istore_n (lv' := [(2, .int (nI j)), (5, .int (sn_mar f j n st)), (0, .ref (a 0)), (1, .int st), (3, .int L), (4, .int (nI j))]) hx hb dX0_leastMargin_41 rfl hl (by decide) rfl (fun ls hl => ?_)
          refine lv_iload hx hb dX0_leastMargin_42 (lv_at hl 1 rfl) ?_
          refine lv_istore_n (lv' := [(3, .int (sn_mar f j n st)), (2, .int (nI j)), (5, .int (sn_mar f j n st)), (0, .ref (a 0)), (1, .int st), (4, .int (nI j))]) hx hb dX0_leastMargin_44 rfl hl (by decide) rfl (fun ls hl => ?_)
          refine lv_iinc (v := (nI j) + (-1)) (lv' := [(4, .int ((nI j) + (-1))), (3, .int (sn_mar f j n st)), (2, .int (nI j)), (5, .int (sn_mar f j n st)), (0, .ref (a 0)), (1, .int st)]) hx hb dX0_leastMargin_45 hl (k := 5) rfl (rfl) (by decide) rfl (fun ls hl => ?_)
          refine lv_goto (tgt := 13) hx hb dX0_leastMargin_48 (by decide) ?_
          exact ih_loop ((nI j) + (-1)) (j + 1) (sn_mar f j n st) (sn_dn_p j) (by omega) (sn_Wk_take hW (by omega) (Or.inl c_3)) (by omega) ls (lv_sub hl [4, 5, 2, 1, 0] rfl)
        · have c_3 : ¬ q = 0 := fun z => c_3 ((sn_en_none (by omega)).mpr z)
          refine lv_iload hx hb dX0_leastMargin_33 (lv_at hl 0 rfl) ?_
          refine lv_iload_n hx hb dX0_leastMargin_35 rfl (lv_at hl 4 rfl) ?_
          refine lv_icmp_ge (tgt := 45) hx hb dX0_leastMargin_36 (by decide) (fun c_4 => ?_) (fun c_4 => ?_)
          · refine lv_iinc (v := (nI j) + (-1)) (lv' := [(4, .int ((nI j) + (-1))), (5, .int (sn_mar f j n st)), (0, .ref (a 0)), (1, .int st), (2, .int (sn_en q)), (3, .int L)]) hx hb dX0_leastMargin_45 hl (k := 5) rfl (rfl) (by decide) rfl (fun ls hl => ?_)
            refine lv_goto (tgt := 13) hx hb dX0_leastMargin_48 (by decide) ?_
            exact ih_loop ((nI j) + (-1)) q L (sn_dn_p j) (by omega) (sn_Wk_keep hW c_3 (Int32.not_lt.mpr c_4)) (by omega) ls (lv_sub hl [2, 3, 4, 5, 0] rfl)
          · refine lv_iload hx hb dX0_leastMargin_39 (lv_at hl 5 rfl) ?_
            refine lv_istore_n (lv' := [(2, .int (nI j)), (5, .int (sn_mar f j n st)), (0, .ref (a 0)), (1, .int st), (3, .int L), (4, .int (nI j))]) hx hb dX0_leastMargin_41 rfl hl (by decide) rfl (fun ls hl => ?_)
            refine lv_iload hx hb dX0_leastMargin_42 (lv_at hl 1 rfl) ?_
            refine lv_istore_n (lv' := [(3, .int (sn_mar f j n st)), (2, .int (nI j)), (5, .int (sn_mar f j n st)), (0, .ref (a 0)), (1, .int st), (4, .int (nI j))]) hx hb dX0_leastMargin_44 rfl hl (by decide) rfl (fun ls hl => ?_)
            refine lv_iinc (v := (nI j) + (-1)) (lv' := [(4, .int ((nI j) + (-1))), (3, .int (sn_mar f j n st)), (2, .int (nI j)), (5, .int (sn_mar f j n st)), (0, .ref (a 0)), (1, .int st)]) hx hb dX0_leastMargin_45 hl (k := 5) rfl (rfl) (by decide) rfl (fun ls hl => ?_)
            refine lv_goto (tgt := 13) hx hb dX0_leastMargin_48 (by decide) ?_
            exact ih_loop ((nI j) + (-1)) (j + 1) (sn_mar f j n st) (sn_dn_p j) (by omega) (sn_Wk_take hW (by omega) (Or.inr (Int32.not_le.mp c_4))) (by omega) ls (lv_sub hl [4, 5, 2, 1, 0] rfl)
  exact loop (n - 1) ((nI n) - 2) 0 0 (sn_dn_2 n) (Nat.le_refl _) (Or.inl ⟨rfl, Nat.le_refl _⟩) (by omega) ls (lv_sub hl [3, 4, 2, 1, 0] rfl)
