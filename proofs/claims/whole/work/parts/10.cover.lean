set_option maxRecDepth 100000 in
set_option maxHeartbeats 4000000 in
theorem ct_X3_within (l : Launch) (D : va_G) (tys : List (ClassId × FieldType)) (w : va_W) (x y z : Int32) : sn_Rd l yX3_within wsX3_within 0 [.int x, .int y, .int z] D tys (w) (sn_b (y ≤ x ∧ x ≤ z)) := by
  refine sn_rd (cc := cX3_within) (maxL := 3) (ret := (some .boolean)) (by decide) rfl (Nat.le_of_ble_eq_true rfl) ?_
  intro p e s m below meth c hx hb hml hr hlk hts hown hP hK hN ls hl
  have hC : CallFix p m c cX3_within 3 s [.int x, .int y, .int z].toArray wsX3_within RX3 := ⟨hx, hb, hml, hown, hts⟩
  have hl : lv_has ls 3 [(0, .int x), (1, .int y), (2, .int z)] := hl
  refine lv_iload_n hx hb dX3_within_0 rfl (lv_at hl 0 rfl) ?_
  refine lv_iload_n hx hb dX3_within_1 rfl (lv_at hl 1 rfl) ?_
  refine lv_icmp_lt (tgt := 14) hx hb dX3_within_2 (by decide) (fun c_1 => ?_) (fun c_1 => ?_)
  · refine lv_iconst (v := 0) hx hb dX3_within_14 (by decide) ?_
    exact sn_zret hx hb hr hlk dX3_within_15 (by decide) (sn_b_f (by simp only [sn_le, sn_lt, sn_eq] at c_1 ⊢; omega))
  · refine lv_iload_n hx hb dX3_within_5 rfl (lv_at hl 0 rfl) ?_
    refine lv_iload_n hx hb dX3_within_6 rfl (lv_at hl 2 rfl) ?_
    refine lv_icmp_gt (tgt := 14) hx hb dX3_within_7 (by decide) (fun c_2 => ?_) (fun c_2 => ?_)
    · refine lv_iconst (v := 0) hx hb dX3_within_14 (by decide) ?_
      exact sn_zret hx hb hr hlk dX3_within_15 (by decide) (sn_b_f (by simp only [sn_le, sn_lt, sn_eq] at c_1 c_2 ⊢; omega))
    · refine lv_iconst (v := 1) hx hb dX3_within_10 (by decide) ?_
      refine lv_goto (tgt := 15) hx hb dX3_within_11 (by decide) ?_
      exact sn_zret hx hb hr hlk dX3_within_15 (by decide) (sn_b_t (by simp only [sn_le, sn_lt, sn_eq] at c_1 c_2 ⊢; omega))
set_option maxRecDepth 100000 in
set_option maxHeartbeats 4000000 in
theorem ct_X4_in (l : Launch) (D : va_G) (tys : List (ClassId × FieldType)) (w : va_W) (x y z : Int32) : sn_Rd l yX4_in wsX4_in 0 [.int x, .int y, .int z] D tys (w) (sn_b (y ≤ x ∧ x ≤ z)) := by
  refine sn_rd (cc := cX4_in) (maxL := 3) (ret := (some .boolean)) (by decide) rfl (Nat.le_of_ble_eq_true rfl) ?_
  intro p e s m below meth c hx hb hml hr hlk hts hown hP hK hN ls hl
  have hC : CallFix p m c cX4_in 3 s [.int x, .int y, .int z].toArray wsX4_in RX4 := ⟨hx, hb, hml, hown, hts⟩
  have hl : lv_has ls 3 [(0, .int x), (1, .int y), (2, .int z)] := hl
  refine lv_iload_n hx hb dX4_in_0 rfl (lv_at hl 0 rfl) ?_
  refine lv_iload_n hx hb dX4_in_1 rfl (lv_at hl 1 rfl) ?_
  refine lv_icmp_lt (tgt := 14) hx hb dX4_in_2 (by decide) (fun c_1 => ?_) (fun c_1 => ?_)
  · refine lv_iconst (v := 0) hx hb dX4_in_14 (by decide) ?_
    exact sn_zret hx hb hr hlk dX4_in_15 (by decide) (sn_b_f (by simp only [sn_le, sn_lt, sn_eq] at c_1 ⊢; omega))
  · refine lv_iload_n hx hb dX4_in_5 rfl (lv_at hl 0 rfl) ?_
    refine lv_iload_n hx hb dX4_in_6 rfl (lv_at hl 2 rfl) ?_
    refine lv_icmp_gt (tgt := 14) hx hb dX4_in_7 (by decide) (fun c_2 => ?_) (fun c_2 => ?_)
    · refine lv_iconst (v := 0) hx hb dX4_in_14 (by decide) ?_
      exact sn_zret hx hb hr hlk dX4_in_15 (by decide) (sn_b_f (by simp only [sn_le, sn_lt, sn_eq] at c_1 c_2 ⊢; omega))
    · refine lv_iconst (v := 1) hx hb dX4_in_10 (by decide) ?_
      refine lv_goto (tgt := 15) hx hb dX4_in_11 (by decide) ?_
      exact sn_zret hx hb hr hlk dX4_in_15 (by decide) (sn_b_t (by simp only [sn_le, sn_lt, sn_eq] at c_1 c_2 ⊢; omega))
set_option maxRecDepth 100000 in
set_option maxHeartbeats 4000000 in
theorem ct_X3_cut (l : Launch) (D : va_G) (tys : List (ClassId × FieldType)) (w : va_W) (x y : Int32) (h0 : ¬ y = 0) : sn_Rd l yX3_cut wsX3_cut 0 [.int x, .int y] D tys (w) (x / y) := by
  refine sn_rd (cc := cX3_cut) (maxL := 2) (ret := (some .int)) (by decide) rfl (Nat.le_of_ble_eq_true rfl) ?_
  intro p e s m below meth c hx hb hml hr hlk hts hown hP hK hN ls hl
  have hC : CallFix p m c cX3_cut 2 s [.int x, .int y].toArray wsX3_cut RX3 := ⟨hx, hb, hml, hown, hts⟩
  have hl : lv_has ls 2 [(0, .int x), (1, .int y)] := hl
  refine lv_iload_n hx hb dX3_cut_0 rfl (lv_at hl 1 rfl) ?_
  refine lv_if_ne (tgt := 8) hx hb dX3_cut_1 (by decide) (fun c_1 => ?_) (fun c_1 => ?_)
  · refine lv_iload_n hx hb dX3_cut_8 rfl (lv_at hl 0 rfl) ?_
    refine lv_iload_n hx hb dX3_cut_9 rfl (lv_at hl 1 rfl) ?_
    refine lv_idiv hx hb dX3_cut_10 h0 ?_
    exact sn_ret hx hb hr hlk dX3_cut_11 (rfl)
  · exact absurd c_1 (h0)
set_option maxRecDepth 100000 in
set_option maxHeartbeats 4000000 in
theorem ct_X0_has (l : Launch) (D : va_G) (cI cZ cR : ClassId) (a : Nat → Nat) (f : Nat → Int32) (n : Nat) (hn : f 0 = nI n) (x : Int32) : sn_Rd l yX0_has wsX0_has 1 [.ref (a 0), .int x] D (sn_ty cI cZ cR) (sn_wC cI cZ a f) (sn_b (0 ≤ x ∧ x ≤ nI n - 1)) := by
  refine sn_rd (cc := cX0_has) (maxL := 2) (ret := (some .boolean)) (by decide) rfl (Nat.le_of_ble_eq_true rfl) ?_
  intro p e s m below meth c hx hb hml hr hlk hts hown hP hK hN ls hl
  have hC : CallFix p m c cX0_has 2 s [.ref (a 0), .int x].toArray wsX0_has RX0 := ⟨hx, hb, hml, hown, hts⟩
  have hl : lv_has ls 2 [(0, .ref (a 0)), (1, .int x)] := hl
  have huX0 : ∀ w ∈ wsX00, w ∈ wsX0_has := by decide +kernel
  refine lv_iload_n hx hb dX0_has_0 rfl (lv_at hl 1 rfl) ?_
  refine lv_iconst (v := 0) hx hb dX0_has_1 (by decide) ?_
  refine lv_aload_n hx hb dX0_has_2 rfl (lv_at hl 0 rfl) ?_
  refine va_get (D := D) (ci := 0) (v := .int (f 0)) (C := RX0) (T := TX0) (N := 8) hx hb hts huX0 hown hK hP 0 rfl rfl 0 (by decide) (hts (.fieldLink RX0 9 "SnowSlabs$Cover" "size" "I") (by decide +kernel)) (fun _ h9 => h9) rfl dX0_has_3 ?_
  refine sn_top (hn) ?_
  refine lv_iconst (v := 1) hx hb dX0_has_6 (by decide) ?_
  refine lv_isub hx hb dX0_has_7 ?_
  refine sn_cN 3 hC hl (ct_X3_within l D _ [] x 0 ((nI n) - 1)) gX0_has_X3_within_n52 rfl hN.1 (hts (.initialized RX3) (by decide +kernel)) (hts (.static yX3_within) (by decide +kernel)) (by decide +kernel) rfl ⟨Nat.le_of_ble_eq_true rfl, Nat.le_of_ble_eq_true rfl⟩ ⟨Nat.zero_le _, Nat.zero_le _⟩ (fun _ _ h => by simp at h) hK hN rfl (Nat.le_of_ble_eq_true rfl) dX0_has_8 ?_
  exact sn_zret hx hb hr hlk dX0_has_11 (sn_b_01 _) (rfl)
set_option maxRecDepth 100000 in
set_option maxHeartbeats 4000000 in
theorem ct_X0_strength (l : Launch) (D : va_G) (cI cZ cR : ClassId) (a : Nat → Nat) (f : Nat → Int32) (n : Nat) (hI : sn_I f n) (i : Nat) (hi : i < 10) : sn_Rd l yX0_strength wsX0_strength 0 [.ref (a 0), .int (nI i)] D (sn_ty cI cZ cR) (sn_wC cI cZ a f) (sn_str f i) := by
  refine sn_rd (cc := cX0_strength) (maxL := 3) (ret := (some .int)) (by decide) rfl (Nat.le_of_ble_eq_true rfl) ?_
  intro p e s m below meth c hx hb hml hr hlk hts hown hP hK hN ls hl
  have hC : CallFix p m c cX0_strength 3 s [.ref (a 0), .int (nI i)].toArray wsX0_strength RX0 := ⟨hx, hb, hml, hown, hts⟩
  have hl : lv_has ls 3 [(0, .ref (a 0)), (1, .int (nI i))] := hl
  have huX0 : ∀ w ∈ wsX00, w ∈ wsX0_strength := by decide +kernel
  refine lv_aload_n hx hb dX0_strength_0 rfl (lv_at hl 0 rfl) ?_
  refine va_get (D := D) (ci := 0) (v := .ref (a 6)) (C := RX0) (T := TX0) (N := 8) hx hb hts huX0 hown hK hP 0 rfl rfl 7 (by decide) (hts (.fieldLink RX0 43 "SnowSlabs$Cover" "firmness" "[I") (by decide +kernel)) (fun _ h9 => h9) rfl dX0_strength_1 ?_
  refine lv_aload_n hx hb dX0_strength_4 rfl (lv_at hl 0 rfl) ?_
  refine va_get (D := D) (ci := 0) (v := .ref (a 3)) (C := RX0) (T := TX0) (N := 8) hx hb hts huX0 hown hK hP 0 rfl rfl 4 (by decide) (hts (.fieldLink RX0 25 "SnowSlabs$Cover" "grain" "[I") (by decide +kernel)) (fun _ h9 => h9) rfl dX0_strength_5 ?_
  refine lv_iload_n hx hb dX0_strength_8 rfl (lv_at hl 1 rfl) ?_
  refine sn_ild (k := i) (v := f (9 + 5 * i)) 3 0 hx hb hK hP rfl rfl (by omega) (by decide) rfl rfl dX0_strength_9 ?_
  refine va_iald hx hb hK hP 6 0 rfl rfl (hI.2.2.2 i hi).2.2.1 dX0_strength_10 ?_
  refine lv_aload_n hx hb dX0_strength_11 rfl (lv_at hl 0 rfl) ?_
  refine va_get (D := D) (ci := 0) (v := .ref (a 4)) (C := RX0) (T := TX0) (N := 8) hx hb hts huX0 hown hK hP 0 rfl rfl 5 (by decide) (hts (.fieldLink RX0 28 "SnowSlabs$Cover" "hard" "[I") (by decide +kernel)) (fun _ h9 => h9) rfl dX0_strength_12 ?_
  refine lv_iload_n hx hb dX0_strength_15 rfl (lv_at hl 1 rfl) ?_
  refine sn_ild (k := i) (v := f (10 + 5 * i)) 4 0 hx hb hK hP rfl rfl (by omega) (by decide) rfl rfl dX0_strength_16 ?_
  refine lv_imul hx hb dX0_strength_17 ?_
  refine lv_aload_n hx hb dX0_strength_18 rfl (lv_at hl 0 rfl) ?_
  refine va_get (D := D) (ci := 0) (v := .ref (a 2)) (C := RX0) (T := TX0) (N := 8) hx hb hts huX0 hown hK hP 0 rfl rfl 3 (by decide) (hts (.fieldLink RX0 22 "SnowSlabs$Cover" "dense" "[I") (by decide +kernel)) (fun _ h9 => h9) rfl dX0_strength_19 ?_
  refine lv_iload_n hx hb dX0_strength_22 rfl (lv_at hl 1 rfl) ?_
  refine sn_ild (k := i) (v := f (8 + 5 * i)) 2 0 hx hb hK hP rfl rfl (by omega) (by decide) rfl rfl dX0_strength_23 ?_
  refine lv_imul hx hb dX0_strength_24 ?_
  refine lv_bipush (v := 100) hx hb dX0_strength_25 (by decide) ?_
  refine lv_idiv hx hb dX0_strength_27 (by decide) ?_
  refine lv_istore_n (lv' := [(2, .int ((((f (2 + (f (9 + 5 * i)).toNatClampNeg)) * (f (10 + 5 * i))) * (f (8 + 5 * i))) / 100)), (0, .ref (a 0)), (1, .int (nI i))]) hx hb dX0_strength_28 rfl hl (by decide) rfl (fun ls hl => ?_)
  refine lv_aload_n hx hb dX0_strength_29 rfl (lv_at hl 1 rfl) ?_
  refine va_get (D := D) (ci := 0) (v := .ref (a 5)) (C := RX0) (T := TX0) (N := 8) hx hb hts huX0 hown hK hP 0 rfl rfl 6 (by decide) (hts (.fieldLink RX0 31 "SnowSlabs$Cover" "wet" "[Z") (by decide +kernel)) (fun _ h9 => h9) rfl dX0_strength_30 ?_
  refine lv_iload_n hx hb dX0_strength_33 rfl (lv_at hl 2 rfl) ?_
  refine sn_zld (k := i) (v := f (11 + 5 * i)) 5 1 hx hb hK hP rfl rfl (by omega) (by decide) rfl rfl dX0_strength_34 ?_
  refine lv_if_eq (tgt := 44) hx hb dX0_strength_35 (by decide) (fun c_1 => ?_) (fun c_1 => ?_)
  · refine lv_iload_n hx hb dX0_strength_44 rfl (lv_at hl 0 rfl) ?_
    exact sn_ret hx hb hr hlk dX0_strength_45 ((if_pos c_1).symm)
  · refine lv_iload_n hx hb dX0_strength_38 rfl (lv_at hl 0 rfl) ?_
    refine lv_iconst (v := 2) hx hb dX0_strength_39 (by decide) ?_
    refine lv_idiv hx hb dX0_strength_40 (by decide) ?_
    refine lv_goto (tgt := 45) hx hb dX0_strength_41 (by decide) ?_
    exact sn_ret hx hb hr hlk dX0_strength_45 ((if_neg c_1).symm)
set_option maxRecDepth 100000 in
set_option maxHeartbeats 4000000 in
theorem ct_X0_depth (l : Launch) (D : va_G) (cI cZ cR : ClassId) (a : Nat → Nat) (f : Nat → Int32) (x : Int32) (i b : Nat) (hx1 : x + 1 = nI i) (hib : i ≤ b) (hb10 : b ≤ 10) : sn_Rd l yX0_depth wsX0_depth 0 [.ref (a 0), .int x, .int (nI b)] D (sn_ty cI cZ cR) (sn_wC cI cZ a f) (sn_dep f i b) := by
  refine sn_rd (cc := cX0_depth) (maxL := 5) (ret := (some .int)) (by decide) rfl (Nat.le_of_ble_eq_true rfl) ?_
  intro p e s m below meth c hx hb hml hr hlk hts hown hP hK hN ls hl
  have hC : CallFix p m c cX0_depth 5 s [.ref (a 0), .int x, .int (nI b)].toArray wsX0_depth RX0 := ⟨hx, hb, hml, hown, hts⟩
  have hl : lv_has ls 5 [(0, .ref (a 0)), (1, .int x), (2, .int (nI b))] := hl
  have huX0 : ∀ w ∈ wsX00, w ∈ wsX0_depth := by decide +kernel
  refine lv_iconst (v := 0) hx hb dX0_depth_0 (by decide) ?_
  refine sn_top ((sn_dep_self f i).symm) ?_
  refine lv_istore_n (lv' := [(3, .int (sn_dep f i i)), (0, .ref (a 0)), (1, .int x), (2, .int (nI b))]) hx hb dX0_depth_1 rfl hl (by decide) rfl (fun ls hl => ?_)
  refine lv_iload_n hx hb dX0_depth_2 rfl (lv_at hl 2 rfl) ?_
  refine lv_iconst (v := 1) hx hb dX0_depth_3 (by decide) ?_
  refine lv_iadd hx hb dX0_depth_4 ?_
  refine sn_top (hx1) ?_
  refine lv_istore (lv' := [(4, .int (nI i)), (3, .int (sn_dep f i i)), (0, .ref (a 0)), (1, .int x), (2, .int (nI b))]) hx hb dX0_depth_5 hl (by decide) rfl (fun ls hl => ?_)
  have loop : ∀ (n : Nat) (k : Nat), (i ≤ k) → (k ≤ b) → b - k < n → ∀ ls : Array Slot, lv_has ls 5 [(0, .ref (a 0)), (1, .int x), (2, .int (nI b)), (3, .int (sn_dep f i k)), (4, .int (nI k))] → W p l e (sn_rm 0 0 0) s m [.ref (a 0), .int x, .int (nI b)].toArray below meth c s.heap [] 0 0 (MQ below (vp_Si (fun x => x = (sn_dep f i b))) [.ref (a 0), .int x, .int (nI b)].toArray s 0 0 (fun _ => False)) (F0 m 7 ls []) := by
    intro n
    induction n with
    | zero => intro k h1 h2 hm; exact absurd hm (Nat.not_lt_zero _)
    | succ n ih_loop =>
      intro k h1 h2 hm ls hl
      refine lv_iload hx hb dX0_depth_7 (lv_at hl 4 rfl) ?_
      refine lv_iload_n hx hb dX0_depth_9 rfl (lv_at hl 2 rfl) ?_
      refine lv_icmp_ge (tgt := 29) hx hb dX0_depth_10 (by decide) (fun c_1 => ?_) (fun c_1 => ?_)
      · have c_1 := (sn_cgej (a := k) (b := b) rfl rfl (by omega) (by omega)).mp c_1
        refine lv_iload_n hx hb dX0_depth_29 rfl (lv_at hl 3 rfl) ?_
        exact sn_ret hx hb hr hlk dX0_depth_30 (by rw [show k = b by omega])
      · have c_1 := (sn_cgef (a := k) (b := b) rfl rfl (by omega) (by omega)).mp c_1
        refine lv_iload_n hx hb dX0_depth_13 rfl (lv_at hl 3 rfl) ?_
        refine lv_aload_n hx hb dX0_depth_14 rfl (lv_at hl 0 rfl) ?_
        refine va_get (D := D) (ci := 0) (v := .ref (a 1)) (C := RX0) (T := TX0) (N := 8) hx hb hts huX0 hown hK hP 0 rfl rfl 2 (by decide) (hts (.fieldLink RX0 18 "SnowSlabs$Cover" "thick" "[I") (by decide +kernel)) (fun _ h9 => h9) rfl dX0_depth_15 ?_
        refine lv_iload hx hb dX0_depth_18 (lv_at hl 4 rfl) ?_
        refine sn_ild (k := k) (v := f (7 + 5 * k)) 1 0 hx hb hK hP rfl rfl (by omega) (by decide) rfl rfl dX0_depth_20 ?_
        refine lv_iadd hx hb dX0_depth_21 ?_
        refine sn_top (sn_dep_s h1) ?_
        refine lv_istore_n (lv' := [(3, .int (sn_dep f i (k + 1))), (0, .ref (a 0)), (1, .int x), (2, .int (nI b)), (4, .int (nI k))]) hx hb dX0_depth_22 rfl hl (by decide) rfl (fun ls hl => ?_)
        refine lv_iinc (v := nI (k + 1)) (lv' := [(4, .int (nI (k + 1))), (3, .int (sn_dep f i (k + 1))), (0, .ref (a 0)), (1, .int x), (2, .int (nI b))]) hx hb dX0_depth_23 hl (k := 4) rfl (sn_inc _) (by decide) rfl (fun ls hl => ?_)
        refine lv_goto (tgt := 7) hx hb dX0_depth_26 (by decide) ?_
        exact ih_loop (k + 1) (by omega) (by omega) (by omega) ls (lv_sub hl [2, 3, 4, 1, 0] rfl)
  exact loop ((b - i) + 1) i (Nat.le_refl _) hib (by omega) ls (lv_sub hl [2, 3, 4, 1, 0] rfl)
set_option maxRecDepth 100000 in
set_option maxHeartbeats 4000000 in
theorem ct_X0_massAbove (l : Launch) (D : va_G) (cI cZ cR : ClassId) (a : Nat → Nat) (f : Nat → Int32) (x : Int32) (i b : Nat) (hx1 : x + 1 = nI i) (hib : i ≤ b) (hb10 : b ≤ 10) : sn_Rd l yX0_massAbove wsX0_massAbove 0 [.ref (a 0), .int x, .int (nI b)] D (sn_ty cI cZ cR) (sn_wC cI cZ a f) (sn_mas f i b) := by
  refine sn_rd (cc := cX0_massAbove) (maxL := 5) (ret := (some .int)) (by decide) rfl (Nat.le_of_ble_eq_true rfl) ?_
  intro p e s m below meth c hx hb hml hr hlk hts hown hP hK hN ls hl
  have hC : CallFix p m c cX0_massAbove 5 s [.ref (a 0), .int x, .int (nI b)].toArray wsX0_massAbove RX0 := ⟨hx, hb, hml, hown, hts⟩
  have hl : lv_has ls 5 [(0, .ref (a 0)), (1, .int x), (2, .int (nI b))] := hl
  have huX0 : ∀ w ∈ wsX00, w ∈ wsX0_massAbove := by decide +kernel
  refine lv_iconst (v := 0) hx hb dX0_massAbove_0 (by decide) ?_
  refine sn_top ((sn_mas_self f i).symm) ?_
  refine lv_istore_n (lv' := [(3, .int (sn_mas f i i)), (0, .ref (a 0)), (1, .int x), (2, .int (nI b))]) hx hb dX0_massAbove_1 rfl hl (by decide) rfl (fun ls hl => ?_)
  refine lv_iload_n hx hb dX0_massAbove_2 rfl (lv_at hl 2 rfl) ?_
  refine lv_iconst (v := 1) hx hb dX0_massAbove_3 (by decide) ?_
  refine lv_iadd hx hb dX0_massAbove_4 ?_
  refine sn_top (hx1) ?_
  refine lv_istore (lv' := [(4, .int (nI i)), (3, .int (sn_mas f i i)), (0, .ref (a 0)), (1, .int x), (2, .int (nI b))]) hx hb dX0_massAbove_5 hl (by decide) rfl (fun ls hl => ?_)
  have loop : ∀ (n : Nat) (k : Nat), (i ≤ k) → (k ≤ b) → b - k < n → ∀ ls : Array Slot, lv_has ls 5 [(0, .ref (a 0)), (1, .int x), (2, .int (nI b)), (3, .int (sn_mas f i k)), (4, .int (nI k))] → W p l e (sn_rm 0 0 0) s m [.ref (a 0), .int x, .int (nI b)].toArray below meth c s.heap [] 0 0 (MQ below (vp_Si (fun x => x = (sn_mas f i b))) [.ref (a 0), .int x, .int (nI b)].toArray s 0 0 (fun _ => False)) (F0 m 7 ls []) := by
    intro n
    induction n with
    | zero => intro k h1 h2 hm; exact absurd hm (Nat.not_lt_zero _)
    | succ n ih_loop =>
      intro k h1 h2 hm ls hl
      refine lv_iload hx hb dX0_massAbove_7 (lv_at hl 4 rfl) ?_
      refine lv_iload_n hx hb dX0_massAbove_9 rfl (lv_at hl 2 rfl) ?_
      refine lv_icmp_ge (tgt := 37) hx hb dX0_massAbove_10 (by decide) (fun c_1 => ?_) (fun c_1 => ?_)
      · have c_1 := (sn_cgej (a := k) (b := b) rfl rfl (by omega) (by omega)).mp c_1
        refine lv_iload_n hx hb dX0_massAbove_37 rfl (lv_at hl 3 rfl) ?_
        exact sn_ret hx hb hr hlk dX0_massAbove_38 (by rw [show k = b by omega])
      · have c_1 := (sn_cgef (a := k) (b := b) rfl rfl (by omega) (by omega)).mp c_1
        refine lv_iload_n hx hb dX0_massAbove_13 rfl (lv_at hl 3 rfl) ?_
        refine lv_aload_n hx hb dX0_massAbove_14 rfl (lv_at hl 0 rfl) ?_
        refine va_get (D := D) (ci := 0) (v := .ref (a 1)) (C := RX0) (T := TX0) (N := 8) hx hb hts huX0 hown hK hP 0 rfl rfl 2 (by decide) (hts (.fieldLink RX0 18 "SnowSlabs$Cover" "thick" "[I") (by decide +kernel)) (fun _ h9 => h9) rfl dX0_massAbove_15 ?_
        refine lv_iload hx hb dX0_massAbove_18 (lv_at hl 4 rfl) ?_
        refine sn_ild (k := k) (v := f (7 + 5 * k)) 1 0 hx hb hK hP rfl rfl (by omega) (by decide) rfl rfl dX0_massAbove_20 ?_
        refine lv_aload_n hx hb dX0_massAbove_21 rfl (lv_at hl 0 rfl) ?_
        refine va_get (D := D) (ci := 0) (v := .ref (a 2)) (C := RX0) (T := TX0) (N := 8) hx hb hts huX0 hown hK hP 0 rfl rfl 3 (by decide) (hts (.fieldLink RX0 22 "SnowSlabs$Cover" "dense" "[I") (by decide +kernel)) (fun _ h9 => h9) rfl dX0_massAbove_22 ?_
        refine lv_iload hx hb dX0_massAbove_25 (lv_at hl 4 rfl) ?_
        refine sn_ild (k := k) (v := f (8 + 5 * k)) 2 0 hx hb hK hP rfl rfl (by omega) (by decide) rfl rfl dX0_massAbove_27 ?_
        refine lv_imul hx hb dX0_massAbove_28 ?_
        refine lv_iadd hx hb dX0_massAbove_29 ?_
        refine sn_top (sn_mas_s h1) ?_
        refine lv_istore_n (lv' := [(3, .int (sn_mas f i (k + 1))), (0, .ref (a 0)), (1, .int x), (2, .int (nI b)), (4, .int (nI k))]) hx hb dX0_massAbove_30 rfl hl (by decide) rfl (fun ls hl => ?_)
        refine lv_iinc (v := nI (k + 1)) (lv' := [(4, .int (nI (k + 1))), (3, .int (sn_mas f i (k + 1))), (0, .ref (a 0)), (1, .int x), (2, .int (nI b))]) hx hb dX0_massAbove_31 hl (k := 4) rfl (sn_inc _) (by decide) rfl (fun ls hl => ?_)
        refine lv_goto (tgt := 7) hx hb dX0_massAbove_34 (by decide) ?_
        exact ih_loop (k + 1) (by omega) (by omega) (by omega) ls (lv_sub hl [2, 3, 4, 1, 0] rfl)
  exact loop ((b - i) + 1) i (Nat.le_refl _) hib (by omega) ls (lv_sub hl [2, 3, 4, 1, 0] rfl)
