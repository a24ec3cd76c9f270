set_option maxRecDepth 100000 in
set_option maxHeartbeats 4000000 in
theorem lc_storm {p : Program} {l : Launch} {e : Env} {s : State} {m : MethodId} {below : List Frame} {meth : Method} {c : Code} {b L : Nat} {xs : Nat → Int32} {D : va_G} {cI cZ cR : ClassId} {k o q : Nat} {H : Heap} {locs : List Loc} {ls : Array Slot} (hL : L ≤ 2560) (C0 : lw_At p s m meth c b L xs) (hK : va_K D vwCl (sn_ty cI cZ cR) s) (hN : sn_N s) (hF0 : sn_F (sn_ah s) s s.heap) (h5 : 5 * k + 5 ≤ L) (ih : sn_Hd p l e s m below meth c b D cI cZ cR (k + 1)) (hW : sn_Wd D cI cZ cR (sn_ah s) o q H) (hS : va_S (sn_ah s) s.heap H locs) (hl : lv_has ls 4 [(0, .ref b), (1, .ref o), (2, .ref q), (3, .int (nI (5 * k)))]) : W p l e room_1 s m #[Value.ref b] below meth c H locs (18 + 7 * k) (330 + 63 * k) (lw_Z below #[Value.ref b] s) (F0 m 132 ls []) := by
  obtain ⟨hx, hb, hr, hml, hown, hts0, hX, hbl, hlocks, hgv⟩ := C0
  have hts : ∀ w ∈ wsL_law, w.before #[Value.ref b] s = true := fun w h => hts0 w (wsL_law_in w h)
  have hA : ∀ q : Nat, s.heap.size ≤ q → sn_ah s q := fun _ h => h
  have hbA : ¬ sn_ah s b := Nat.not_le.mpr hbl
  have hC : CallFix p m c code 4 s #[Value.ref b] wsL_law RL := ⟨hx, hb, hml, hown, hts⟩
  obtain ⟨a, bt, am, im, f, g, kp, tp, ly, tp2, ly2, nb, nb2, b0, b1, n, hq, hI, hk0, hk1, hg0, hg1, hP, hD⟩ := hW
  subst hq
  refine lv_aload_n hx hb dL_law_132 rfl (lv_at hl 1 rfl) ?_
  refine lv_aload_n hx hb dL_law_133 rfl (lv_at hl 0 rfl) ?_
  refine lv_iload_n hx hb dL_law_134 rfl (lv_at hl 3 rfl) ?_
  refine lv_iconst (v := 1) hx hb dL_law_135 (by decide) ?_
  refine lv_iadd hx hb dL_law_136 ?_
  refine sn_top (sn_nadd (a := 5 * k) (b := 1) rfl rfl) ?_
  refine va_sld hx hb hX hbl hbA hS (vp_in_nI (by omega) (by omega)) dL_law_137 ?_
  refine sn_top (y := xs (5 * k + 1)) (congrArg xs (nI_clamp (by omega))) ?_
  refine lv_aload_n hx hb dL_law_138 rfl (lv_at hl 0 rfl) ?_
  refine lv_iload_n hx hb dL_law_139 rfl (lv_at hl 3 rfl) ?_
  refine lv_iconst (v := 2) hx hb dL_law_140 (by decide) ?_
  refine lv_iadd hx hb dL_law_141 ?_
  refine sn_top (sn_nadd (a := 5 * k) (b := 2) rfl rfl) ?_
  refine va_sld hx hb hX hbl hbA hS (vp_in_nI (by omega) (by omega)) dL_law_142 ?_
  refine sn_top (y := xs (5 * k + 2)) (congrArg xs (nI_clamp (by omega))) ?_
  refine lv_aload_n hx hb dL_law_143 rfl (lv_at hl 0 rfl) ?_
  refine lv_iload_n hx hb dL_law_144 rfl (lv_at hl 3 rfl) ?_
  refine lv_iconst (v := 3) hx hb dL_law_145 (by decide) ?_
  refine lv_iadd hx hb dL_law_146 ?_
  refine sn_top (sn_nadd (a := 5 * k) (b := 3) rfl rfl) ?_
  refine va_sld hx hb hX hbl hbA hS (vp_in_nI (by omega) (by omega)) dL_law_147 ?_
  refine sn_top (y := xs (5 * k + 3)) (congrArg xs (nI_clamp (by omega))) ?_
  refine lv_aload_n hx hb dL_law_148 rfl (lv_at hl 0 rfl) ?_
  refine lv_iload_n hx hb dL_law_149 rfl (lv_at hl 3 rfl) ?_
  refine lv_iconst (v := 4) hx hb dL_law_150 (by decide) ?_
  refine lv_iadd hx hb dL_law_151 ?_
  refine sn_top (sn_nadd (a := 5 * k) (b := 4) rfl rfl) ?_
  refine va_sld hx hb hX hbl hbA hS (vp_in_nI (by omega) (by omega)) dL_law_152 ?_
  refine sn_top (y := xs (5 * k + 4)) (congrArg xs (nI_clamp (by omega))) ?_
  refine sn_uV (w0 := []) (w := sn_wS cI cZ o a bt im f) (wr := (sn_wT cI bt nb tp ly ++ (((im, .inl (cR, 2, .inr (.inr (.inr (.inr (sn_og b0 b1)))))) :: (sn_wI cI cZ g 0 b0 ++ sn_wI cI cZ g 1 b1)) ++ sn_wM cI cZ am f g kp tp2 ly2 nb2))) 4 0 hC hl (ct_X3_storm l D cI cZ cR o a bt im f n hI (xs (5 * k + 1)) (xs (5 * k + 2)) (xs (5 * k + 3)) (xs (5 * k + 4)) _) gL_law_X3_storm rfl (by decide +kernel) rfl ⟨Nat.le_of_ble_eq_true rfl, Nat.le_of_ble_eq_true rfl⟩ ⟨by show 18 + 7 * k + 0 ≤ 600000; omega, by show 330 + 63 * k + 0 ≤ 7302250; omega⟩ hP hD hS hA hF0 hK hN rfl rfl rfl (Nat.le_of_ble_eq_true rfl) dL_law_153 (fun u1 H locs hu1 hP hD hS => ?_)
  subst hu1
  have hP : va_P D vwCl (sn_wX cI cZ cR o a bt im (sn_Fstorm f n (xs (5 * k + 1)) (xs (5 * k + 2)) (xs (5 * k + 3)) (xs (5 * k + 4))) nb tp ly g b0 b1 ++ sn_wM cI cZ am f g kp tp2 ly2 nb2) H := hP
  have hD : va_D (sn_ah s) (sn_wX cI cZ cR o a bt im (sn_Fstorm f n (xs (5 * k + 1)) (xs (5 * k + 2)) (xs (5 * k + 3)) (xs (5 * k + 4))) nb tp ly g b0 b1 ++ sn_wM cI cZ am f g kp tp2 ly2 nb2) := hD
  refine lv_aload_n hx hb dL_law_156 rfl (lv_at hl 2 rfl) ?_
  refine lv_aload_n hx hb dL_law_157 rfl (lv_at hl 0 rfl) ?_
  refine lv_iload_n hx hb dL_law_158 rfl (lv_at hl 3 rfl) ?_
  refine lv_iconst (v := 1) hx hb dL_law_159 (by decide) ?_
  refine lv_iadd hx hb dL_law_160 ?_
  refine sn_top (sn_nadd (a := 5 * k) (b := 1) rfl rfl) ?_
  refine va_sld hx hb hX hbl hbA hS (vp_in_nI (by omega) (by omega)) dL_law_161 ?_
  refine sn_top (y := xs (5 * k + 1)) (congrArg xs (nI_clamp (by omega))) ?_
  refine lv_aload_n hx hb dL_law_162 rfl (lv_at hl 0 rfl) ?_
  refine lv_iload_n hx hb dL_law_163 rfl (lv_at hl 3 rfl) ?_
  refine lv_iconst (v := 2) hx hb dL_law_164 (by decide) ?_
  refine lv_iadd hx hb dL_law_165 ?_
  refine sn_top (sn_nadd (a := 5 * k) (b := 2) rfl rfl) ?_
  refine va_sld hx hb hX hbl hbA hS (vp_in_nI (by omega) (by omega)) dL_law_166 ?_
  refine sn_top (y := xs (5 * k + 2)) (congrArg xs (nI_clamp (by omega))) ?_
  refine lv_aload_n hx hb dL_law_167 rfl (lv_at hl 0 rfl) ?_
  refine lv_iload_n hx hb dL_law_168 rfl (lv_at hl 3 rfl) ?_
  refine lv_iconst (v := 3) hx hb dL_law_169 (by decide) ?_
  refine lv_iadd hx hb dL_law_170 ?_
  refine sn_top (sn_nadd (a := 5 * k) (b := 3) rfl rfl) ?_
  refine va_sld hx hb hX hbl hbA hS (vp_in_nI (by omega) (by omega)) dL_law_171 ?_
  refine sn_top (y := xs (5 * k + 3)) (congrArg xs (nI_clamp (by omega))) ?_
  refine lv_aload_n hx hb dL_law_172 rfl (lv_at hl 0 rfl) ?_
  refine lv_iload_n hx hb dL_law_173 rfl (lv_at hl 3 rfl) ?_
  refine lv_iconst (v := 4) hx hb dL_law_174 (by decide) ?_
  refine lv_iadd hx hb dL_law_175 ?_
  refine sn_top (sn_nadd (a := 5 * k) (b := 4) rfl rfl) ?_
  refine va_sld hx hb hX hbl hbA hS (vp_in_nI (by omega) (by omega)) dL_law_176 ?_
  refine sn_top (y := xs (5 * k + 4)) (congrArg xs (nI_clamp (by omega))) ?_
  refine sn_uV (w0 := sn_wX cI cZ cR o a bt im (sn_Fstorm f n (xs (5 * k + 1)) (xs (5 * k + 2)) (xs (5 * k + 3)) (xs (5 * k + 4))) nb tp ly g b0 b1) (w := sn_wM cI cZ am f g kp tp2 ly2 nb2) (wr := []) 4 0 hC hl (ct_X4_storm l D cI cZ cR am f g kp tp2 ly2 nb2 n hI (xs (5 * k + 1)) (xs (5 * k + 2)) (xs (5 * k + 3)) (xs (5 * k + 4)) _) gL_law_X4_storm rfl (by decide +kernel) rfl ⟨Nat.le_of_ble_eq_true rfl, Nat.le_of_ble_eq_true rfl⟩ ⟨by show 18 + 7 * k + 0 ≤ 600000; omega, by show 330 + 63 * k + 0 ≤ 7302250; omega⟩ hP hD hS hA hF0 hK hN rfl rfl rfl (Nat.le_of_ble_eq_true rfl) dL_law_177 (fun u2 H locs hu2 hP hD hS => ?_)
  subst hu2
  have hP : va_P D vwCl (sn_wX cI cZ cR o a bt im (sn_Fstorm f n (xs (5 * k + 1)) (xs (5 * k + 2)) (xs (5 * k + 3)) (xs (5 * k + 4))) nb tp ly g b0 b1 ++ sn_wM cI cZ am (sn_Fstorm f n (xs (5 * k + 1)) (xs (5 * k + 2)) (xs (5 * k + 3)) (xs (5 * k + 4))) g kp tp2 ly2 nb2) H := hP
  have hD : va_D (sn_ah s) (sn_wX cI cZ cR o a bt im (sn_Fstorm f n (xs (5 * k + 1)) (xs (5 * k + 2)) (xs (5 * k + 3)) (xs (5 * k + 4))) nb tp ly g b0 b1 ++ sn_wM cI cZ am (sn_Fstorm f n (xs (5 * k + 1)) (xs (5 * k + 2)) (xs (5 * k + 3)) (xs (5 * k + 4))) g kp tp2 ly2 nb2) := hD
  refine lv_icmp_eq (tgt := 755) hx hb dL_law_180 (by decide) (fun c_ => ?_) (fun c_ => absurd rfl c_)
  exact sn_tail hx hb ih (sn_Wd.mk (sn_Istorm hI (xs (5 * k + 1)) (xs (5 * k + 2)) (xs (5 * k + 3)) (xs (5 * k + 4))) hk0 hk1 hg0 hg1 hP hD) hS hl (by omega) (by omega)
set_option maxRecDepth 100000 in
set_option maxHeartbeats 4000000 in
theorem lc_firm {p : Program} {l : Launch} {e : Env} {s : State} {m : MethodId} {below : List Frame} {meth : Method} {c : Code} {b L : Nat} {xs : Nat → Int32} {D : va_G} {cI cZ cR : ClassId} {k o q : Nat} {H : Heap} {locs : List Loc} {ls : Array Slot} (hL : L ≤ 2560) (C0 : lw_At p s m meth c b L xs) (hK : va_K D vwCl (sn_ty cI cZ cR) s) (hN : sn_N s) (hF0 : sn_F (sn_ah s) s s.heap) (h5 : 5 * k + 5 ≤ L) (ih : sn_Hd p l e s m below meth c b D cI cZ cR (k + 1)) (hW : sn_Wd D cI cZ cR (sn_ah s) o q H) (hS : va_S (sn_ah s) s.heap H locs) (hl : lv_has ls 4 [(0, .ref b), (1, .ref o), (2, .ref q), (3, .int (nI (5 * k)))]) : W p l e room_1 s m #[Value.ref b] below meth c H locs (18 + 7 * k) (330 + 63 * k) (lw_Z below #[Value.ref b] s) (F0 m 185 ls []) := by
  obtain ⟨hx, hb, hr, hml, hown, hts0, hX, hbl, hlocks, hgv⟩ := C0
  have hts : ∀ w ∈ wsL_law, w.before #[Value.ref b] s = true := fun w h => hts0 w (wsL_law_in w h)
  have hA : ∀ q : Nat, s.heap.size ≤ q → sn_ah s q := fun _ h => h
  have hbA : ¬ sn_ah s b := Nat.not_le.mpr hbl
  have hC : CallFix p m c code 4 s #[Value.ref b] wsL_law RL := ⟨hx, hb, hml, hown, hts⟩
  obtain ⟨a, bt, am, im, f, g, kp, tp, ly, tp2, ly2, nb, nb2, b0, b1, n, hq, hI, hk0, hk1, hg0, hg1, hP, hD⟩ := hW
  subst hq
  refine lv_aload_n hx hb dL_law_185 rfl (lv_at hl 1 rfl) ?_
  refine lv_aload_n hx hb dL_law_186 rfl (lv_at hl 0 rfl) ?_
  refine lv_iload_n hx hb dL_law_187 rfl (lv_at hl 3 rfl) ?_
  refine lv_iconst (v := 1) hx hb dL_law_188 (by decide) ?_
  refine lv_iadd hx hb dL_law_189 ?_
  refine sn_top (sn_nadd (a := 5 * k) (b := 1) rfl rfl) ?_
  refine va_sld hx hb hX hbl hbA hS (vp_in_nI (by omega) (by omega)) dL_law_190 ?_
  refine sn_top (y := xs (5 * k + 1)) (congrArg xs (nI_clamp (by omega))) ?_
  refine lv_aload_n hx hb dL_law_191 rfl (lv_at hl 0 rfl) ?_
  refine lv_iload_n hx hb dL_law_192 rfl (lv_at hl 3 rfl) ?_
  refine lv_iconst (v := 2) hx hb dL_law_193 (by decide) ?_
  refine lv_iadd hx hb dL_law_194 ?_
  refine sn_top (sn_nadd (a := 5 * k) (b := 2) rfl rfl) ?_
  refine va_sld hx hb hX hbl hbA hS (vp_in_nI (by omega) (by omega)) dL_law_195 ?_
  refine sn_top (y := xs (5 * k + 2)) (congrArg xs (nI_clamp (by omega))) ?_
  refine sn_uV (w0 := []) (w := sn_wS cI cZ o a bt im f) (wr := (sn_wT cI bt nb tp ly ++ (((im, .inl (cR, 2, .inr (.inr (.inr (.inr (sn_og b0 b1)))))) :: (sn_wI cI cZ g 0 b0 ++ sn_wI cI cZ g 1 b1)) ++ sn_wM cI cZ am f g kp tp2 ly2 nb2))) 2 0 hC hl (ct_X3_firm l D cI cZ cR o a bt im f  (xs (5 * k + 1)) (xs (5 * k + 2)) _) gL_law_X3_firm rfl (by decide +kernel) rfl ⟨Nat.le_of_ble_eq_true rfl, Nat.le_of_ble_eq_true rfl⟩ ⟨by show 18 + 7 * k + 0 ≤ 600000; omega, by show 330 + 63 * k + 0 ≤ 7302250; omega⟩ hP hD hS hA hF0 hK hN rfl rfl rfl (Nat.le_of_ble_eq_true rfl) dL_law_196 (fun u1 H locs hu1 hP hD hS => ?_)
  subst hu1
  have hP : va_P D vwCl (sn_wX cI cZ cR o a bt im (sn_Ffirm f (xs (5 * k + 1)) (xs (5 * k + 2))) nb tp ly g b0 b1 ++ sn_wM cI cZ am f g kp tp2 ly2 nb2) H := hP
  have hD : va_D (sn_ah s) (sn_wX cI cZ cR o a bt im (sn_Ffirm f (xs (5 * k + 1)) (xs (5 * k + 2))) nb tp ly g b0 b1 ++ sn_wM cI cZ am f g kp tp2 ly2 nb2) := hD
  refine lv_aload_n hx hb dL_law_199 rfl (lv_at hl 2 rfl) ?_
  refine lv_aload_n hx hb dL_law_200 rfl (lv_at hl 0 rfl) ?_
  refine lv_iload_n hx hb dL_law_201 rfl (lv_at hl 3 rfl) ?_
  refine lv_iconst (v := 1) hx hb dL_law_202 (by decide) ?_
  refine lv_iadd hx hb dL_law_203 ?_
  refine sn_top (sn_nadd (a := 5 * k) (b := 1) rfl rfl) ?_
  refine va_sld hx hb hX hbl hbA hS (vp_in_nI (by omega) (by omega)) dL_law_204 ?_
  refine sn_top (y := xs (5 * k + 1)) (congrArg xs (nI_clamp (by omega))) ?_
  refine lv_aload_n hx hb dL_law_205 rfl (lv_at hl 0 rfl) ?_
  refine lv_iload_n hx hb dL_law_206 rfl (lv_at hl 3 rfl) ?_
  refine lv_iconst (v := 2) hx hb dL_law_207 (by decide) ?_
  refine lv_iadd hx hb dL_law_208 ?_
  refine sn_top (sn_nadd (a := 5 * k) (b := 2) rfl rfl) ?_
  refine va_sld hx hb hX hbl hbA hS (vp_in_nI (by omega) (by omega)) dL_law_209 ?_
  refine sn_top (y := xs (5 * k + 2)) (congrArg xs (nI_clamp (by omega))) ?_
  refine sn_uV (w0 := sn_wX cI cZ cR o a bt im (sn_Ffirm f (xs (5 * k + 1)) (xs (5 * k + 2))) nb tp ly g b0 b1) (w := sn_wM cI cZ am f g kp tp2 ly2 nb2) (wr := []) 2 0 hC hl (ct_X4_firm l D cI cZ cR am f g kp tp2 ly2 nb2  (xs (5 * k + 1)) (xs (5 * k + 2)) _) gL_law_X4_firm rfl (by decide +kernel) rfl ⟨Nat.le_of_ble_eq_true rfl, Nat.le_of_ble_eq_true rfl⟩ ⟨by show 18 + 7 * k + 0 ≤ 600000; omega, by show 330 + 63 * k + 0 ≤ 7302250; omega⟩ hP hD hS hA hF0 hK hN rfl rfl rfl (Nat.le_of_ble_eq_true rfl) dL_law_210 (fun u2 H locs hu2 hP hD hS => ?_)
  subst hu2
  have hP : va_P D vwCl (sn_wX cI cZ cR o a bt im (sn_Ffirm f (xs (5 * k + 1)) (xs (5 * k + 2))) nb tp ly g b0 b1 ++ sn_wM cI cZ am (sn_Ffirm f (xs (5 * k + 1)) (xs (5 * k + 2))) g kp tp2 ly2 nb2) H := hP
  have hD : va_D (sn_ah s) (sn_wX cI cZ cR o a bt im (sn_Ffirm f (xs (5 * k + 1)) (xs (5 * k + 2))) nb tp ly g b0 b1 ++ sn_wM cI cZ am (sn_Ffirm f (xs (5 * k + 1)) (xs (5 * k + 2))) g kp tp2 ly2 nb2) := hD
  refine lv_icmp_eq (tgt := 755) hx hb dL_law_213 (by decide) (fun c_ => ?_) (fun c_ => absurd rfl c_)
  exact sn_tail hx hb ih (sn_Wd.mk (sn_Ifirm hI (xs (5 * k + 1)) (xs (5 * k + 2))) hk0 hk1 hg0 hg1 hP hD) hS hl (by omega) (by omega)
set_option maxRecDepth 100000 in
set_option maxHeartbeats 4000000 in
theorem lc_layer {p : Program} {l : Launch} {e : Env} {s : State} {m : MethodId} {below : List Frame} {meth : Method} {c : Code} {b L : Nat} {xs : Nat → Int32} {D : va_G} {cI cZ cR : ClassId} {k o q : Nat} {H : Heap} {locs : List Loc} {ls : Array Slot} (hL : L ≤ 2560) (C0 : lw_At p s m meth c b L xs) (hK : va_K D vwCl (sn_ty cI cZ cR) s) (hN : sn_N s) (hF0 : sn_F (sn_ah s) s s.heap) (h5 : 5 * k + 5 ≤ L) (ih : sn_Hd p l e s m below meth c b D cI cZ cR (k + 1)) (hW : sn_Wd D cI cZ cR (sn_ah s) o q H) (hS : va_S (sn_ah s) s.heap H locs) (hl : lv_has ls 4 [(0, .ref b), (1, .ref o), (2, .ref q), (3, .int (nI (5 * k)))]) : W p l e room_1 s m #[Value.ref b] below meth c H locs (18 + 7 * k) (330 + 63 * k) (lw_Z below #[Value.ref b] s) (F0 m 218 ls []) := by
  obtain ⟨hx, hb, hr, hml, hown, hts0, hX, hbl, hlocks, hgv⟩ := C0
  have hts : ∀ w ∈ wsL_law, w.before #[Value.ref b] s = true := fun w h => hts0 w (wsL_law_in w h)
  have hA : ∀ q : Nat, s.heap.size ≤ q → sn_ah s q := fun _ h => h
  have hbA : ¬ sn_ah s b := Nat.not_le.mpr hbl
  have hC : CallFix p m c code 4 s #[Value.ref b] wsL_law RL := ⟨hx, hb, hml, hown, hts⟩
  obtain ⟨a, bt, am, im, f, g, kp, tp, ly, tp2, ly2, nb, nb2, b0, b1, n, hq, hI, hk0, hk1, hg0, hg1, hP, hD⟩ := hW
  subst hq
  refine lv_aload_n hx hb dL_law_218 rfl (lv_at hl 1 rfl) ?_
  refine lv_aload_n hx hb dL_law_219 rfl (lv_at hl 0 rfl) ?_
  refine lv_iload_n hx hb dL_law_220 rfl (lv_at hl 3 rfl) ?_
  refine lv_iconst (v := 1) hx hb dL_law_221 (by decide) ?_
  refine lv_iadd hx hb dL_law_222 ?_
  refine sn_top (sn_nadd (a := 5 * k) (b := 1) rfl rfl) ?_
  refine va_sld hx hb hX hbl hbA hS (vp_in_nI (by omega) (by omega)) dL_law_223 ?_
  refine sn_top (y := xs (5 * k + 1)) (congrArg xs (nI_clamp (by omega))) ?_
  refine lv_aload_n hx hb dL_law_224 rfl (lv_at hl 0 rfl) ?_
  refine lv_iload_n hx hb dL_law_225 rfl (lv_at hl 3 rfl) ?_
  refine lv_iconst (v := 2) hx hb dL_law_226 (by decide) ?_
  refine lv_iadd hx hb dL_law_227 ?_
  refine sn_top (sn_nadd (a := 5 * k) (b := 2) rfl rfl) ?_
  refine va_sld hx hb hX hbl hbA hS (vp_in_nI (by omega) (by omega)) dL_law_228 ?_
  refine sn_top (y := xs (5 * k + 2)) (congrArg xs (nI_clamp (by omega))) ?_
  refine sn_cV 2 0 hC hl (ct_X3_layer l D cI cZ cR o a bt im f n hI (xs (5 * k + 1)) (xs (5 * k + 2))) gL_law_X3_layer rfl (by decide +kernel) rfl ⟨Nat.le_of_ble_eq_true rfl, Nat.le_of_ble_eq_true rfl⟩ ⟨by show 18 + 7 * k + 0 ≤ 600000; omega, by show 330 + 63 * k + 0 ≤ 7302250; omega⟩ (sn_P_l (sn_P_l hP)) hK hN rfl rfl rfl (Nat.le_of_ble_eq_true rfl) dL_law_229 ?_
  refine lv_aload_n hx hb dL_law_232 rfl (lv_at hl 2 rfl) ?_
  refine lv_aload_n hx hb dL_law_233 rfl (lv_at hl 0 rfl) ?_
  refine lv_iload_n hx hb dL_law_234 rfl (lv_at hl 3 rfl) ?_
  refine lv_iconst (v := 1) hx hb dL_law_235 (by decide) ?_
  refine lv_iadd hx hb dL_law_236 ?_
  refine sn_top (sn_nadd (a := 5 * k) (b := 1) rfl rfl) ?_
  refine va_sld hx hb hX hbl hbA hS (vp_in_nI (by omega) (by omega)) dL_law_237 ?_
  refine sn_top (y := xs (5 * k + 1)) (congrArg xs (nI_clamp (by omega))) ?_
  refine lv_aload_n hx hb dL_law_238 rfl (lv_at hl 0 rfl) ?_
  refine lv_iload_n hx hb dL_law_239 rfl (lv_at hl 3 rfl) ?_
  refine lv_iconst (v := 2) hx hb dL_law_240 (by decide) ?_
  refine lv_iadd hx hb dL_law_241 ?_
  refine sn_top (sn_nadd (a := 5 * k) (b := 2) rfl rfl) ?_
  refine va_sld hx hb hX hbl hbA hS (vp_in_nI (by omega) (by omega)) dL_law_242 ?_
  refine sn_top (y := xs (5 * k + 2)) (congrArg xs (nI_clamp (by omega))) ?_
  refine sn_cV 2 0 hC hl (ct_X4_layer l D cI cZ cR am f g kp tp2 ly2 nb2 n hI (xs (5 * k + 1)) (xs (5 * k + 2))) gL_law_X4_layer rfl (by decide +kernel) rfl ⟨Nat.le_of_ble_eq_true rfl, Nat.le_of_ble_eq_true rfl⟩ ⟨by show 18 + 7 * k + 0 ≤ 600000; omega, by show 330 + 63 * k + 0 ≤ 7302250; omega⟩ (sn_P_r hP) hK hN rfl rfl rfl (Nat.le_of_ble_eq_true rfl) dL_law_243 ?_
  refine lv_icmp_eq (tgt := 755) hx hb dL_law_246 (by decide) (fun c_ => ?_) (fun c_ => absurd rfl c_)
  exact sn_tail hx hb ih (sn_Wd.mk ⟨n, hI⟩ hk0 hk1 hg0 hg1 hP hD) hS hl (by omega) (by omega)
set_option maxRecDepth 100000 in
set_option maxHeartbeats 4000000 in
theorem lc_slope {p : Program} {l : Launch} {e : Env} {s : State} {m : MethodId} {below : List Frame} {meth : Method} {c : Code} {b L : Nat} {xs : Nat → Int32} {D : va_G} {cI cZ cR : ClassId} {k o q : Nat} {H : Heap} {locs : List Loc} {ls : Array Slot} (hL : L ≤ 2560) (C0 : lw_At p s m meth c b L xs) (hK : va_K D vwCl (sn_ty cI cZ cR) s) (hN : sn_N s) (hF0 : sn_F (sn_ah s) s s.heap) (h5 : 5 * k + 5 ≤ L) (ih : sn_Hd p l e s m below meth c b D cI cZ cR (k + 1)) (hW : sn_Wd D cI cZ cR (sn_ah s) o q H) (hS : va_S (sn_ah s) s.heap H locs) (hl : lv_has ls 4 [(0, .ref b), (1, .ref o), (2, .ref q), (3, .int (nI (5 * k)))]) : W p l e room_1 s m #[Value.ref b] below meth c H locs (18 + 7 * k) (330 + 63 * k) (lw_Z below #[Value.ref b] s) (F0 m 251 ls []) := by
  obtain ⟨hx, hb, hr, hml, hown, hts0, hX, hbl, hlocks, hgv⟩ := C0
  have hts : ∀ w ∈ wsL_law, w.before #[Value.ref b] s = true := fun w h => hts0 w (wsL_law_in w h)
  have hA : ∀ q : Nat, s.heap.size ≤ q → sn_ah s q := fun _ h => h
  have hbA : ¬ sn_ah s b := Nat.not_le.mpr hbl
  have hC : CallFix p m c code 4 s #[Value.ref b] wsL_law RL := ⟨hx, hb, hml, hown, hts⟩
  obtain ⟨a, bt, am, im, f, g, kp, tp, ly, tp2, ly2, nb, nb2, b0, b1, n, hq, hI, hk0, hk1, hg0, hg1, hP, hD⟩ := hW
  subst hq
  refine lv_aload_n hx hb dL_law_251 rfl (lv_at hl 1 rfl) ?_
  refine lv_aload_n hx hb dL_law_252 rfl (lv_at hl 0 rfl) ?_
  refine lv_iload_n hx hb dL_law_253 rfl (lv_at hl 3 rfl) ?_
  refine lv_iconst (v := 1) hx hb dL_law_254 (by decide) ?_
  refine lv_iadd hx hb dL_law_255 ?_
  refine sn_top (sn_nadd (a := 5 * k) (b := 1) rfl rfl) ?_
  refine va_sld hx hb hX hbl hbA hS (vp_in_nI (by omega) (by omega)) dL_law_256 ?_
  refine sn_top (y := xs (5 * k + 1)) (congrArg xs (nI_clamp (by omega))) ?_
  refine lv_aload_n hx hb dL_law_257 rfl (lv_at hl 0 rfl) ?_
  refine lv_iload_n hx hb dL_law_258 rfl (lv_at hl 3 rfl) ?_
  refine lv_iconst (v := 2) hx hb dL_law_259 (by decide) ?_
  refine lv_iadd hx hb dL_law_260 ?_
  refine sn_top (sn_nadd (a := 5 * k) (b := 2) rfl rfl) ?_
  refine va_sld hx hb hX hbl hbA hS (vp_in_nI (by omega) (by omega)) dL_law_261 ?_
  refine sn_top (y := xs (5 * k + 2)) (congrArg xs (nI_clamp (by omega))) ?_
  refine lv_aload_n hx hb dL_law_262 rfl (lv_at hl 0 rfl) ?_
  refine lv_iload_n hx hb dL_law_263 rfl (lv_at hl 3 rfl) ?_
  refine lv_iconst (v := 3) hx hb dL_law_264 (by decide) ?_
  refine lv_iadd hx hb dL_law_265 ?_
  refine sn_top (sn_nadd (a := 5 * k) (b := 3) rfl rfl) ?_
  refine va_sld hx hb hX hbl hbA hS (vp_in_nI (by omega) (by omega)) dL_law_266 ?_
  refine sn_top (y := xs (5 * k + 3)) (congrArg xs (nI_clamp (by omega))) ?_
  refine sn_cV 3 0 hC hl (ct_X3_slope l D cI cZ cR o a bt im f n hI (xs (5 * k + 1)) (xs (5 * k + 2)) (xs (5 * k + 3))) gL_law_X3_slope rfl (by decide +kernel) rfl ⟨Nat.le_of_ble_eq_true rfl, Nat.le_of_ble_eq_true rfl⟩ ⟨by show 18 + 7 * k + 0 ≤ 600000; omega, by show 330 + 63 * k + 0 ≤ 7302250; omega⟩ (sn_P_l (sn_P_l hP)) hK hN rfl rfl rfl (Nat.le_of_ble_eq_true rfl) dL_law_267 ?_
  refine lv_aload_n hx hb dL_law_270 rfl (lv_at hl 2 rfl) ?_
  refine lv_aload_n hx hb dL_law_271 rfl (lv_at hl 0 rfl) ?_
  refine lv_iload_n hx hb dL_law_272 rfl (lv_at hl 3 rfl) ?_
  refine lv_iconst (v := 1) hx hb dL_law_273 (by decide) ?_
  refine lv_iadd hx hb dL_law_274 ?_
  refine sn_top (sn_nadd (a := 5 * k) (b := 1) rfl rfl) ?_
  refine va_sld hx hb hX hbl hbA hS (vp_in_nI (by omega) (by omega)) dL_law_275 ?_
  refine sn_top (y := xs (5 * k + 1)) (congrArg xs (nI_clamp (by omega))) ?_
  refine lv_aload_n hx hb dL_law_276 rfl (lv_at hl 0 rfl) ?_
  refine lv_iload_n hx hb dL_law_277 rfl (lv_at hl 3 rfl) ?_
  refine lv_iconst (v := 2) hx hb dL_law_278 (by decide) ?_
  refine lv_iadd hx hb dL_law_279 ?_
  refine sn_top (sn_nadd (a := 5 * k) (b := 2) rfl rfl) ?_
  refine va_sld hx hb hX hbl hbA hS (vp_in_nI (by omega) (by omega)) dL_law_280 ?_
  refine sn_top (y := xs (5 * k + 2)) (congrArg xs (nI_clamp (by omega))) ?_
  refine lv_aload_n hx hb dL_law_281 rfl (lv_at hl 0 rfl) ?_
  refine lv_iload_n hx hb dL_law_282 rfl (lv_at hl 3 rfl) ?_
  refine lv_iconst (v := 3) hx hb dL_law_283 (by decide) ?_
  refine lv_iadd hx hb dL_law_284 ?_
  refine sn_top (sn_nadd (a := 5 * k) (b := 3) rfl rfl) ?_
  refine va_sld hx hb hX hbl hbA hS (vp_in_nI (by omega) (by omega)) dL_law_285 ?_
  refine sn_top (y := xs (5 * k + 3)) (congrArg xs (nI_clamp (by omega))) ?_
  refine sn_cV 3 0 hC hl (ct_X4_slope l D cI cZ cR am f g kp tp2 ly2 nb2 n hI (xs (5 * k + 1)) (xs (5 * k + 2)) (xs (5 * k + 3))) gL_law_X4_slope rfl (by decide +kernel) rfl ⟨Nat.le_of_ble_eq_true rfl, Nat.le_of_ble_eq_true rfl⟩ ⟨by show 18 + 7 * k + 0 ≤ 600000; omega, by show 330 + 63 * k + 0 ≤ 7302250; omega⟩ (sn_P_r hP) hK hN rfl rfl rfl (Nat.le_of_ble_eq_true rfl) dL_law_286 ?_
  refine lv_icmp_eq (tgt := 755) hx hb dL_law_289 (by decide) (fun c_ => ?_) (fun c_ => absurd rfl c_)
  exact sn_tail hx hb ih (sn_Wd.mk ⟨n, hI⟩ hk0 hk1 hg0 hg1 hP hD) hS hl (by omega) (by omega)
set_option maxRecDepth 100000 in
set_option maxHeartbeats 4000000 in
theorem lc_weakest {p : Program} {l : Launch} {e : Env} {s : State} {m : MethodId} {below : List Frame} {meth : Method} {c : Code} {b L : Nat} {xs : Nat → Int32} {D : va_G} {cI cZ cR : ClassId} {k o q : Nat} {H : Heap} {locs : List Loc} {ls : Array Slot} (hL : L ≤ 2560) (C0 : lw_At p s m meth c b L xs) (hK : va_K D vwCl (sn_ty cI cZ cR) s) (hN : sn_N s) (hF0 : sn_F (sn_ah s) s s.heap) (h5 : 5 * k + 5 ≤ L) (ih : sn_Hd p l e s m below meth c b D cI cZ cR (k + 1)) (hW : sn_Wd D cI cZ cR (sn_ah s) o q H) (hS : va_S (sn_ah s) s.heap H locs) (hl : lv_has ls 4 [(0, .ref b), (1, .ref o), (2, .ref q), (3, .int (nI (5 * k)))]) : W p l e room_1 s m #[Value.ref b] below meth c H locs (18 + 7 * k) (330 + 63 * k) (lw_Z below #[Value.ref b] s) (F0 m 294 ls []) := by
  obtain ⟨hx, hb, hr, hml, hown, hts0, hX, hbl, hlocks, hgv⟩ := C0
  have hts : ∀ w ∈ wsL_law, w.before #[Value.ref b] s = true := fun w h => hts0 w (wsL_law_in w h)
  have hA : ∀ q : Nat, s.heap.size ≤ q → sn_ah s q := fun _ h => h
  have hbA : ¬ sn_ah s b := Nat.not_le.mpr hbl
  have hC : CallFix p m c code 4 s #[Value.ref b] wsL_law RL := ⟨hx, hb, hml, hown, hts⟩
  obtain ⟨a, bt, am, im, f, g, kp, tp, ly, tp2, ly2, nb, nb2, b0, b1, n, hq, hI, hk0, hk1, hg0, hg1, hP, hD⟩ := hW
  subst hq
  refine lv_aload_n hx hb dL_law_294 rfl (lv_at hl 1 rfl) ?_
  refine lv_aload_n hx hb dL_law_295 rfl (lv_at hl 0 rfl) ?_
  refine lv_iload_n hx hb dL_law_296 rfl (lv_at hl 3 rfl) ?_
  refine lv_iconst (v := 1) hx hb dL_law_297 (by decide) ?_
  refine lv_iadd hx hb dL_law_298 ?_
  refine sn_top (sn_nadd (a := 5 * k) (b := 1) rfl rfl) ?_
  refine va_sld hx hb hX hbl hbA hS (vp_in_nI (by omega) (by omega)) dL_law_299 ?_
  refine sn_top (y := xs (5 * k + 1)) (congrArg xs (nI_clamp (by omega))) ?_
  refine lv_aload_n hx hb dL_law_300 rfl (lv_at hl 0 rfl) ?_
  refine lv_iload_n hx hb dL_law_301 rfl (lv_at hl 3 rfl) ?_
  refine lv_iconst (v := 2) hx hb dL_law_302 (by decide) ?_
  refine lv_iadd hx hb dL_law_303 ?_
  refine sn_top (sn_nadd (a := 5 * k) (b := 2) rfl rfl) ?_
  refine va_sld hx hb hX hbl hbA hS (vp_in_nI (by omega) (by omega)) dL_law_304 ?_
  refine sn_top (y := xs (5 * k + 2)) (congrArg xs (nI_clamp (by omega))) ?_
  refine sn_cV 2 0 hC hl (ct_X3_weakest l D cI cZ cR o a bt im f n hI (xs (5 * k + 1)) (xs (5 * k + 2))) gL_law_X3_weakest rfl (by decide +kernel) rfl ⟨Nat.le_of_ble_eq_true rfl, Nat.le_of_ble_eq_true rfl⟩ ⟨by show 18 + 7 * k + 0 ≤ 600000; omega, by show 330 + 63 * k + 0 ≤ 7302250; omega⟩ (sn_P_l (sn_P_l hP)) hK hN rfl rfl rfl (Nat.le_of_ble_eq_true rfl) dL_law_305 ?_
  refine lv_aload_n hx hb dL_law_308 rfl (lv_at hl 2 rfl) ?_
  refine lv_aload_n hx hb dL_law_309 rfl (lv_at hl 0 rfl) ?_
  refine lv_iload_n hx hb dL_law_310 rfl (lv_at hl 3 rfl) ?_
  refine lv_iconst (v := 1) hx hb dL_law_311 (by decide) ?_
  refine lv_iadd hx hb dL_law_312 ?_
  refine sn_top (sn_nadd (a := 5 * k) (b := 1) rfl rfl) ?_
  refine va_sld hx hb hX hbl hbA hS (vp_in_nI (by omega) (by omega)) dL_law_313 ?_
  refine sn_top (y := xs (5 * k + 1)) (congrArg xs (nI_clamp (by omega))) ?_
  refine lv_aload_n hx hb dL_law_314 rfl (lv_at hl 0 rfl) ?_
  refine lv_iload_n hx hb dL_law_315 rfl (lv_at hl 3 rfl) ?_
  refine lv_iconst (v := 2) hx hb dL_law_316 (by decide) ?_
  refine lv_iadd hx hb dL_law_317 ?_
  refine sn_top (sn_nadd (a := 5 * k) (b := 2) rfl rfl) ?_
  refine va_sld hx hb hX hbl hbA hS (vp_in_nI (by omega) (by omega)) dL_law_318 ?_
  refine sn_top (y := xs (5 * k + 2)) (congrArg xs (nI_clamp (by omega))) ?_
  refine sn_cV 2 0 hC hl (ct_X4_weakest l D cI cZ cR am f g kp tp2 ly2 nb2 n hI (xs (5 * k + 1)) (xs (5 * k + 2))) gL_law_X4_weakest rfl (by decide +kernel) rfl ⟨Nat.le_of_ble_eq_true rfl, Nat.le_of_ble_eq_true rfl⟩ ⟨by show 18 + 7 * k + 0 ≤ 600000; omega, by show 330 + 63 * k + 0 ≤ 7302250; omega⟩ (sn_P_r hP) hK hN rfl rfl rfl (Nat.le_of_ble_eq_true rfl) dL_law_319 ?_
  refine lv_icmp_eq (tgt := 755) hx hb dL_law_322 (by decide) (fun c_ => ?_) (fun c_ => absurd rfl c_)
  exact sn_tail hx hb ih (sn_Wd.mk ⟨n, hI⟩ hk0 hk1 hg0 hg1 hP hD) hS hl (by omega) (by omega)
set_option maxRecDepth 100000 in
set_option maxHeartbeats 4000000 in
theorem lc_blow {p : Program} {l : Launch} {e : Env} {s : State} {m : MethodId} {below : List Frame} {meth : Method} {c : Code} {b L : Nat} {xs : Nat → Int32} {D : va_G} {cI cZ cR : ClassId} {k o q : Nat} {H : Heap} {locs : List Loc} {ls : Array Slot} (hL : L ≤ 2560) (C0 : lw_At p s m meth c b L xs) (hK : va_K D vwCl (sn_ty cI cZ cR) s) (hN : sn_N s) (hF0 : sn_F (sn_ah s) s s.heap) (h5 : 5 * k + 5 ≤ L) (ih : sn_Hd p l e s m below meth c b D cI cZ cR (k + 1)) (hW : sn_Wd D cI cZ cR (sn_ah s) o q H) (hS : va_S (sn_ah s) s.heap H locs) (hl : lv_has ls 4 [(0, .ref b), (1, .ref o), (2, .ref q), (3, .int (nI (5 * k)))]) : W p l e room_1 s m #[Value.ref b] below meth c H locs (18 + 7 * k) (330 + 63 * k) (lw_Z below #[Value.ref b] s) (F0 m 327 ls []) := by
  obtain ⟨hx, hb, hr, hml, hown, hts0, hX, hbl, hlocks, hgv⟩ := C0
  have hts : ∀ w ∈ wsL_law, w.before #[Value.ref b] s = true := fun w h => hts0 w (wsL_law_in w h)
  have hA : ∀ q : Nat, s.heap.size ≤ q → sn_ah s q := fun _ h => h
  have hbA : ¬ sn_ah s b := Nat.not_le.mpr hbl
  have hC : CallFix p m c code 4 s #[Value.ref b] wsL_law RL := ⟨hx, hb, hml, hown, hts⟩
  obtain ⟨a, bt, am, im, f, g, kp, tp, ly, tp2, ly2, nb, nb2, b0, b1, n, hq, hI, hk0, hk1, hg0, hg1, hP, hD⟩ := hW
  subst hq
  refine lv_aload_n hx hb dL_law_327 rfl (lv_at hl 1 rfl) ?_
  refine lv_aload_n hx hb dL_law_328 rfl (lv_at hl 0 rfl) ?_
  refine lv_iload_n hx hb dL_law_329 rfl (lv_at hl 3 rfl) ?_
  refine lv_iconst (v := 1) hx hb dL_law_330 (by decide) ?_
  refine lv_iadd hx hb dL_law_331 ?_
  refine sn_top (sn_nadd (a := 5 * k) (b := 1) rfl rfl) ?_
  refine va_sld hx hb hX hbl hbA hS (vp_in_nI (by omega) (by omega)) dL_law_332 ?_
  refine sn_top (y := xs (5 * k + 1)) (congrArg xs (nI_clamp (by omega))) ?_
  refine sn_uV (w0 := []) (w := sn_wS cI cZ o a bt im f) (wr := (sn_wT cI bt nb tp ly ++ (((im, .inl (cR, 2, .inr (.inr (.inr (.inr (sn_og b0 b1)))))) :: (sn_wI cI cZ g 0 b0 ++ sn_wI cI cZ g 1 b1)) ++ sn_wM cI cZ am f g kp tp2 ly2 nb2))) 1 0 hC hl (ct_X3_blow l D cI cZ cR o a bt im f  (xs (5 * k + 1)) _) gL_law_X3_blow rfl (by decide +kernel) rfl ⟨Nat.le_of_ble_eq_true rfl, Nat.le_of_ble_eq_true rfl⟩ ⟨by show 18 + 7 * k + 0 ≤ 600000; omega, by show 330 + 63 * k + 0 ≤ 7302250; omega⟩ hP hD hS hA hF0 hK hN rfl rfl rfl (Nat.le_of_ble_eq_true rfl) dL_law_333 (fun u1 H locs hu1 hP hD hS => ?_)
  subst hu1
  have hP : va_P D vwCl (sn_wX cI cZ cR o a bt im (sn_Fblow f (xs (5 * k + 1))) nb tp ly g b0 b1 ++ sn_wM cI cZ am f g kp tp2 ly2 nb2) H := hP
  have hD : va_D (sn_ah s) (sn_wX cI cZ cR o a bt im (sn_Fblow f (xs (5 * k + 1))) nb tp ly g b0 b1 ++ sn_wM cI cZ am f g kp tp2 ly2 nb2) := hD
  refine lv_aload_n hx hb dL_law_336 rfl (lv_at hl 2 rfl) ?_
  refine lv_aload_n hx hb dL_law_337 rfl (lv_at hl 0 rfl) ?_
  refine lv_iload_n hx hb dL_law_338 rfl (lv_at hl 3 rfl) ?_
  refine lv_iconst (v := 1) hx hb dL_law_339 (by decide) ?_
  refine lv_iadd hx hb dL_law_340 ?_
  refine sn_top (sn_nadd (a := 5 * k) (b := 1) rfl rfl) ?_
  refine va_sld hx hb hX hbl hbA hS (vp_in_nI (by omega) (by omega)) dL_law_341 ?_
  refine sn_top (y := xs (5 * k + 1)) (congrArg xs (nI_clamp (by omega))) ?_
  refine sn_uV (w0 := sn_wX cI cZ cR o a bt im (sn_Fblow f (xs (5 * k + 1))) nb tp ly g b0 b1) (w := sn_wM cI cZ am f g kp tp2 ly2 nb2) (wr := []) 1 0 hC hl (ct_X4_blow l D cI cZ cR am f g kp tp2 ly2 nb2  (xs (5 * k + 1)) _) gL_law_X4_blow rfl (by decide +kernel) rfl ⟨Nat.le_of_ble_eq_true rfl, Nat.le_of_ble_eq_true rfl⟩ ⟨by show 18 + 7 * k + 0 ≤ 600000; omega, by show 330 + 63 * k + 0 ≤ 7302250; omega⟩ hP hD hS hA hF0 hK hN rfl rfl rfl (Nat.le_of_ble_eq_true rfl) dL_law_342 (fun u2 H locs hu2 hP hD hS => ?_)
  subst hu2
  have hP : va_P D vwCl (sn_wX cI cZ cR o a bt im (sn_Fblow f (xs (5 * k + 1))) nb tp ly g b0 b1 ++ sn_wM cI cZ am (sn_Fblow f (xs (5 * k + 1))) g kp tp2 ly2 nb2) H := hP
  have hD : va_D (sn_ah s) (sn_wX cI cZ cR o a bt im (sn_Fblow f (xs (5 * k + 1))) nb tp ly g b0 b1 ++ sn_wM cI cZ am (sn_Fblow f (xs (5 * k + 1))) g kp tp2 ly2 nb2) := hD
  refine lv_icmp_eq (tgt := 755) hx hb dL_law_345 (by decide) (fun c_ => ?_) (fun c_ => absurd rfl c_)
  exact sn_tail hx hb ih (sn_Wd.mk (sn_Iblow hI (xs (5 * k + 1))) hk0 hk1 hg0 hg1 hP hD) hS hl (by omega) (by omega)
set_option maxRecDepth 100000 in
set_option maxHeartbeats 4000000 in
theorem lc_taps {p : Program} {l : Launch} {e : Env} {s : State} {m : MethodId} {below : List Frame} {meth : Method} {c : Code} {b L : Nat} {xs : Nat → Int32} {D : va_G} {cI cZ cR : ClassId} {k o q : Nat} {H : Heap} {locs : List Loc} {ls : Array Slot} (hL : L ≤ 2560) (C0 : lw_At p s m meth c b L xs) (hK : va_K D vwCl (sn_ty cI cZ cR) s) (hN : sn_N s) (hF0 : sn_F (sn_ah s) s s.heap) (h5 : 5 * k + 5 ≤ L) (ih : sn_Hd p l e s m below meth c b D cI cZ cR (k + 1)) (hW : sn_Wd D cI cZ cR (sn_ah s) o q H) (hS : va_S (sn_ah s) s.heap H locs) (hl : lv_has ls 4 [(0, .ref b), (1, .ref o), (2, .ref q), (3, .int (nI (5 * k)))]) : W p l e room_1 s m #[Value.ref b] below meth c H locs (18 + 7 * k) (330 + 63 * k) (lw_Z below #[Value.ref b] s) (F0 m 350 ls []) := by
  obtain ⟨hx, hb, hr, hml, hown, hts0, hX, hbl, hlocks, hgv⟩ := C0
  have hts : ∀ w ∈ wsL_law, w.before #[Value.ref b] s = true := fun w h => hts0 w (wsL_law_in w h)
  have hA : ∀ q : Nat, s.heap.size ≤ q → sn_ah s q := fun _ h => h
  have hbA : ¬ sn_ah s b := Nat.not_le.mpr hbl
  have hC : CallFix p m c code 4 s #[Value.ref b] wsL_law RL := ⟨hx, hb, hml, hown, hts⟩
  obtain ⟨a, bt, am, im, f, g, kp, tp, ly, tp2, ly2, nb, nb2, b0, b1, n, hq, hI, hk0, hk1, hg0, hg1, hP, hD⟩ := hW
  subst hq
  refine lv_aload_n hx hb dL_law_350 rfl (lv_at hl 1 rfl) ?_
  refine lv_aload_n hx hb dL_law_351 rfl (lv_at hl 0 rfl) ?_
  refine lv_iload_n hx hb dL_law_352 rfl (lv_at hl 3 rfl) ?_
  refine lv_iconst (v := 1) hx hb dL_law_353 (by decide) ?_
  refine lv_iadd hx hb dL_law_354 ?_
  refine sn_top (sn_nadd (a := 5 * k) (b := 1) rfl rfl) ?_
  refine va_sld hx hb hX hbl hbA hS (vp_in_nI (by omega) (by omega)) dL_law_355 ?_
  refine sn_top (y := xs (5 * k + 1)) (congrArg xs (nI_clamp (by omega))) ?_
  refine lv_aload_n hx hb dL_law_356 rfl (lv_at hl 0 rfl) ?_
  refine lv_iload_n hx hb dL_law_357 rfl (lv_at hl 3 rfl) ?_
  refine lv_iconst (v := 2) hx hb dL_law_358 (by decide) ?_
  refine lv_iadd hx hb dL_law_359 ?_
  refine sn_top (sn_nadd (a := 5 * k) (b := 2) rfl rfl) ?_
  refine va_sld hx hb hX hbl hbA hS (vp_in_nI (by omega) (by omega)) dL_law_360 ?_
  refine sn_top (y := xs (5 * k + 2)) (congrArg xs (nI_clamp (by omega))) ?_
  refine sn_uV (w0 := []) (w := sn_wS cI cZ o a bt im f ++ sn_wT cI bt nb tp ly) (wr := (((im, .inl (cR, 2, .inr (.inr (.inr (.inr (sn_og b0 b1)))))) :: (sn_wI cI cZ g 0 b0 ++ sn_wI cI cZ g 1 b1)) ++ sn_wM cI cZ am f g kp tp2 ly2 nb2)) 2 0 hC hl (ct_X3_taps l D cI cZ cR o a bt im f nb tp ly n hI (xs (5 * k + 1)) (xs (5 * k + 2)) _) gL_law_X3_taps rfl (by decide +kernel) rfl ⟨Nat.le_of_ble_eq_true rfl, Nat.le_of_ble_eq_true rfl⟩ ⟨by show 18 + 7 * k + 0 ≤ 600000; omega, by show 330 + 63 * k + 0 ≤ 7302250; omega⟩ hP hD hS hA hF0 hK hN rfl rfl rfl (Nat.le_of_ble_eq_true rfl) dL_law_361 (fun u1 H locs hu1 hP hD hS => ?_)
  obtain ⟨nb3, tp3, ly3⟩ := u1
  have hP : va_P D vwCl (sn_wX cI cZ cR o a bt im f nb3 tp3 ly3 g b0 b1 ++ sn_wM cI cZ am f g kp tp2 ly2 nb2) H := hP
  have hD : va_D (sn_ah s) (sn_wX cI cZ cR o a bt im f nb3 tp3 ly3 g b0 b1 ++ sn_wM cI cZ am f g kp tp2 ly2 nb2) := hD
  refine lv_aload_n hx hb dL_law_364 rfl (lv_at hl 2 rfl) ?_
  refine lv_aload_n hx hb dL_law_365 rfl (lv_at hl 0 rfl) ?_
  refine lv_iload_n hx hb dL_law_366 rfl (lv_at hl 3 rfl) ?_
  refine lv_iconst (v := 1) hx hb dL_law_367 (by decide) ?_
  refine lv_iadd hx hb dL_law_368 ?_
  refine sn_top (sn_nadd (a := 5 * k) (b := 1) rfl rfl) ?_
  refine va_sld hx hb hX hbl hbA hS (vp_in_nI (by omega) (by omega)) dL_law_369 ?_
  refine sn_top (y := xs (5 * k + 1)) (congrArg xs (nI_clamp (by omega))) ?_
  refine lv_aload_n hx hb dL_law_370 rfl (lv_at hl 0 rfl) ?_
  refine lv_iload_n hx hb dL_law_371 rfl (lv_at hl 3 rfl) ?_
  refine lv_iconst (v := 2) hx hb dL_law_372 (by decide) ?_
  refine lv_iadd hx hb dL_law_373 ?_
  refine sn_top (sn_nadd (a := 5 * k) (b := 2) rfl rfl) ?_
  refine va_sld hx hb hX hbl hbA hS (vp_in_nI (by omega) (by omega)) dL_law_374 ?_
  refine sn_top (y := xs (5 * k + 2)) (congrArg xs (nI_clamp (by omega))) ?_
  refine sn_uV (w0 := sn_wX cI cZ cR o a bt im f nb3 tp3 ly3 g b0 b1) (w := sn_wM cI cZ am f g kp tp2 ly2 nb2) (wr := []) 2 0 hC hl (ct_X4_taps l D cI cZ cR am f g kp tp2 ly2 nb2 n hI (xs (5 * k + 1)) (xs (5 * k + 2)) _) gL_law_X4_taps rfl (by decide +kernel) rfl ⟨Nat.le_of_ble_eq_true rfl, Nat.le_of_ble_eq_true rfl⟩ ⟨by show 18 + 7 * k + 0 ≤ 600000; omega, by show 330 + 63 * k + 0 ≤ 7302250; omega⟩ hP hD hS hA hF0 hK hN rfl rfl rfl (Nat.le_of_ble_eq_true rfl) dL_law_375 (fun u2 H locs hu2 hP hD hS => ?_)
  obtain ⟨nb4, tp4, ly4⟩ := u2
  have hP : va_P D vwCl (sn_wX cI cZ cR o a bt im f nb3 tp3 ly3 g b0 b1 ++ sn_wM cI cZ am f g kp tp4 ly4 nb4) H := hP
  have hD : va_D (sn_ah s) (sn_wX cI cZ cR o a bt im f nb3 tp3 ly3 g b0 b1 ++ sn_wM cI cZ am f g kp tp4 ly4 nb4) := hD
  refine lv_icmp_eq (tgt := 755) hx hb dL_law_378 (by decide) (fun c_ => ?_) (fun c_ => absurd rfl c_)
  exact sn_tail hx hb ih (sn_Wd.mk ⟨n, hI⟩ hk0 hk1 hg0 hg1 hP hD) hS hl (by omega) (by omega)
set_option maxRecDepth 100000 in
set_option maxHeartbeats 4000000 in
theorem lc_need {p : Program} {l : Launch} {e : Env} {s : State} {m : MethodId} {below : List Frame} {meth : Method} {c : Code} {b L : Nat} {xs : Nat → Int32} {D : va_G} {cI cZ cR : ClassId} {k o q : Nat} {H : Heap} {locs : List Loc} {ls : Array Slot} (hL : L ≤ 2560) (C0 : lw_At p s m meth c b L xs) (hK : va_K D vwCl (sn_ty cI cZ cR) s) (hN : sn_N s) (hF0 : sn_F (sn_ah s) s s.heap) (h5 : 5 * k + 5 ≤ L) (ih : sn_Hd p l e s m below meth c b D cI cZ cR (k + 1)) (hW : sn_Wd D cI cZ cR (sn_ah s) o q H) (hS : va_S (sn_ah s) s.heap H locs) (hl : lv_has ls 4 [(0, .ref b), (1, .ref o), (2, .ref q), (3, .int (nI (5 * k)))]) : W p l e room_1 s m #[Value.ref b] below meth c H locs (18 + 7 * k) (330 + 63 * k) (lw_Z below #[Value.ref b] s) (F0 m 383 ls []) := by
  obtain ⟨hx, hb, hr, hml, hown, hts0, hX, hbl, hlocks, hgv⟩ := C0
  have hts : ∀ w ∈ wsL_law, w.before #[Value.ref b] s = true := fun w h => hts0 w (wsL_law_in w h)
  have hA : ∀ q : Nat, s.heap.size ≤ q → sn_ah s q := fun _ h => h
  have hbA : ¬ sn_ah s b := Nat.not_le.mpr hbl
  have hC : CallFix p m c code 4 s #[Value.ref b] wsL_law RL := ⟨hx, hb, hml, hown, hts⟩
  obtain ⟨a, bt, am, im, f, g, kp, tp, ly, tp2, ly2, nb, nb2, b0, b1, n, hq, hI, hk0, hk1, hg0, hg1, hP, hD⟩ := hW
  subst hq
  refine lv_aload_n hx hb dL_law_383 rfl (lv_at hl 1 rfl) ?_
  refine lv_aload_n hx hb dL_law_384 rfl (lv_at hl 0 rfl) ?_
  refine lv_iload_n hx hb dL_law_385 rfl (lv_at hl 3 rfl) ?_
  refine lv_iconst (v := 1) hx hb dL_law_386 (by decide) ?_
  refine lv_iadd hx hb dL_law_387 ?_
  refine sn_top (sn_nadd (a := 5 * k) (b := 1) rfl rfl) ?_
  refine va_sld hx hb hX hbl hbA hS (vp_in_nI (by omega) (by omega)) dL_law_388 ?_
  refine sn_top (y := xs (5 * k + 1)) (congrArg xs (nI_clamp (by omega))) ?_
  refine sn_cV 1 0 hC hl (ct_X3_need l D cI cZ cR o a bt im f n hI (xs (5 * k + 1))) gL_law_X3_need rfl (by decide +kernel) rfl ⟨Nat.le_of_ble_eq_true rfl, Nat.le_of_ble_eq_true rfl⟩ ⟨by show 18 + 7 * k + 0 ≤ 600000; omega, by show 330 + 63 * k + 0 ≤ 7302250; omega⟩ (sn_P_l (sn_P_l hP)) hK hN rfl rfl rfl (Nat.le_of_ble_eq_true rfl) dL_law_389 ?_
  refine lv_aload_n hx hb dL_law_392 rfl (lv_at hl 2 rfl) ?_
  refine lv_aload_n hx hb dL_law_393 rfl (lv_at hl 0 rfl) ?_
  refine lv_iload_n hx hb dL_law_394 rfl (lv_at hl 3 rfl) ?_
  refine lv_iconst (v := 1) hx hb dL_law_395 (by decide) ?_
  refine lv_iadd hx hb dL_law_396 ?_
  refine sn_top (sn_nadd (a := 5 * k) (b := 1) rfl rfl) ?_
  refine va_sld hx hb hX hbl hbA hS (vp_in_nI (by omega) (by omega)) dL_law_397 ?_
  refine sn_top (y := xs (5 * k + 1)) (congrArg xs (nI_clamp (by omega))) ?_
  refine sn_uV (w0 := sn_wX cI cZ cR o a bt im f nb tp ly g b0 b1) (w := sn_wM cI cZ am f g kp tp2 ly2 nb2) (wr := []) 1 0 hC hl (ct_X4_need l D cI cZ cR am f g kp tp2 ly2 nb2 n hI (xs (5 * k + 1)) _) gL_law_X4_need rfl (by decide +kernel) rfl ⟨Nat.le_of_ble_eq_true rfl, Nat.le_of_ble_eq_true rfl⟩ ⟨by show 18 + 7 * k + 0 ≤ 600000; omega, by show 330 + 63 * k + 0 ≤ 7302250; omega⟩ hP hD hS hA hF0 hK hN rfl rfl rfl (Nat.le_of_ble_eq_true rfl) dL_law_398 (fun u2 H locs hu2 hP hD hS => ?_)
  obtain ⟨nb4, tp4, ly4⟩ := u2
  have hP : va_P D vwCl (sn_wX cI cZ cR o a bt im f nb tp ly g b0 b1 ++ sn_wM cI cZ am f g kp tp4 ly4 nb4) H := hP
  have hD : va_D (sn_ah s) (sn_wX cI cZ cR o a bt im f nb tp ly g b0 b1 ++ sn_wM cI cZ am f g kp tp4 ly4 nb4) := hD
  refine lv_icmp_eq (tgt := 755) hx hb dL_law_401 (by decide) (fun c_ => ?_) (fun c_ => absurd rfl c_)
  exact sn_tail hx hb ih (sn_Wd.mk ⟨n, hI⟩ hk0 hk1 hg0 hg1 hP hD) hS hl (by omega) (by omega)
set_option maxRecDepth 100000 in
set_option maxHeartbeats 4000000 in
theorem lc_goes {p : Program} {l : Launch} {e : Env} {s : State} {m : MethodId} {below : List Frame} {meth : Method} {c : Code} {b L : Nat} {xs : Nat → Int32} {D : va_G} {cI cZ cR : ClassId} {k o q : Nat} {H : Heap} {locs : List Loc} {ls : Array Slot} (hL : L ≤ 2560) (C0 : lw_At p s m meth c b L xs) (hK : va_K D vwCl (sn_ty cI cZ cR) s) (hN : sn_N s) (hF0 : sn_F (sn_ah s) s s.heap) (h5 : 5 * k + 5 ≤ L) (ih : sn_Hd p l e s m below meth c b D cI cZ cR (k + 1)) (hW : sn_Wd D cI cZ cR (sn_ah s) o q H) (hS : va_S (sn_ah s) s.heap H locs) (hl : lv_has ls 4 [(0, .ref b), (1, .ref o), (2, .ref q), (3, .int (nI (5 * k)))]) : W p l e room_1 s m #[Value.ref b] below meth c H locs (18 + 7 * k) (330 + 63 * k) (lw_Z below #[Value.ref b] s) (F0 m 406 ls []) := by
  obtain ⟨hx, hb, hr, hml, hown, hts0, hX, hbl, hlocks, hgv⟩ := C0
  have hts : ∀ w ∈ wsL_law, w.before #[Value.ref b] s = true := fun w h => hts0 w (wsL_law_in w h)
  have hA : ∀ q : Nat, s.heap.size ≤ q → sn_ah s q := fun _ h => h
  have hbA : ¬ sn_ah s b := Nat.not_le.mpr hbl
  have hC : CallFix p m c code 4 s #[Value.ref b] wsL_law RL := ⟨hx, hb, hml, hown, hts⟩
  obtain ⟨a, bt, am, im, f, g, kp, tp, ly, tp2, ly2, nb, nb2, b0, b1, n, hq, hI, hk0, hk1, hg0, hg1, hP, hD⟩ := hW
  subst hq
  refine lv_aload_n hx hb dL_law_406 rfl (lv_at hl 1 rfl) ?_
  refine lv_aload_n hx hb dL_law_407 rfl (lv_at hl 0 rfl) ?_
  refine lv_iload_n hx hb dL_law_408 rfl (lv_at hl 3 rfl) ?_
  refine lv_iconst (v := 1) hx hb dL_law_409 (by decide) ?_
  refine lv_iadd hx hb dL_law_410 ?_
  refine sn_top (sn_nadd (a := 5 * k) (b := 1) rfl rfl) ?_
  refine va_sld hx hb hX hbl hbA hS (vp_in_nI (by omega) (by omega)) dL_law_411 ?_
  refine sn_top (y := xs (5 * k + 1)) (congrArg xs (nI_clamp (by omega))) ?_
  refine lv_aload_n hx hb dL_law_412 rfl (lv_at hl 0 rfl) ?_
  refine lv_iload_n hx hb dL_law_413 rfl (lv_at hl 3 rfl) ?_
  refine lv_iconst (v := 2) hx hb dL_law_414 (by decide) ?_
  refine lv_iadd hx hb dL_law_415 ?_
  refine sn_top (sn_nadd (a := 5 * k) (b := 2) rfl rfl) ?_
  refine va_sld hx hb hX hbl hbA hS (vp_in_nI (by omega) (by omega)) dL_law_416 ?_
  refine sn_top (y := xs (5 * k + 2)) (congrArg xs (nI_clamp (by omega))) ?_
  refine lv_aload_n hx hb dL_law_417 rfl (lv_at hl 0 rfl) ?_
  refine lv_iload_n hx hb dL_law_418 rfl (lv_at hl 3 rfl) ?_
  refine lv_iconst (v := 3) hx hb dL_law_419 (by decide) ?_
  refine lv_iadd hx hb dL_law_420 ?_
  refine sn_top (sn_nadd (a := 5 * k) (b := 3) rfl rfl) ?_
  refine va_sld hx hb hX hbl hbA hS (vp_in_nI (by omega) (by omega)) dL_law_421 ?_
  refine sn_top (y := xs (5 * k + 3)) (congrArg xs (nI_clamp (by omega))) ?_
  refine sn_cV 3 0 hC hl (ct_X3_goes l D cI cZ cR o a bt im f n hI (xs (5 * k + 1)) (xs (5 * k + 2)) (xs (5 * k + 3))) gL_law_X3_goes rfl (by decide +kernel) rfl ⟨Nat.le_of_ble_eq_true rfl, Nat.le_of_ble_eq_true rfl⟩ ⟨by show 18 + 7 * k + 0 ≤ 600000; omega, by show 330 + 63 * k + 0 ≤ 7302250; omega⟩ (sn_P_l (sn_P_l hP)) hK hN rfl rfl rfl (Nat.le_of_ble_eq_true rfl) dL_law_422 ?_
  refine lv_aload_n hx hb dL_law_425 rfl (lv_at hl 2 rfl) ?_
  refine lv_aload_n hx hb dL_law_426 rfl (lv_at hl 0 rfl) ?_
  refine lv_iload_n hx hb dL_law_427 rfl (lv_at hl 3 rfl) ?_
  refine lv_iconst (v := 1) hx hb dL_law_428 (by decide) ?_
  refine lv_iadd hx hb dL_law_429 ?_
  refine sn_top (sn_nadd (a := 5 * k) (b := 1) rfl rfl) ?_
  refine va_sld hx hb hX hbl hbA hS (vp_in_nI (by omega) (by omega)) dL_law_430 ?_
  refine sn_top (y := xs (5 * k + 1)) (congrArg xs (nI_clamp (by omega))) ?_
  refine lv_aload_n hx hb dL_law_431 rfl (lv_at hl 0 rfl) ?_
  refine lv_iload_n hx hb dL_law_432 rfl (lv_at hl 3 rfl) ?_
  refine lv_iconst (v := 2) hx hb dL_law_433 (by decide) ?_
  refine lv_iadd hx hb dL_law_434 ?_
  refine sn_top (sn_nadd (a := 5 * k) (b := 2) rfl rfl) ?_
  refine va_sld hx hb hX hbl hbA hS (vp_in_nI (by omega) (by omega)) dL_law_435 ?_
  refine sn_top (y := xs (5 * k + 2)) (congrArg xs (nI_clamp (by omega))) ?_
  refine lv_aload_n hx hb dL_law_436 rfl (lv_at hl 0 rfl) ?_
  refine lv_iload_n hx hb dL_law_437 rfl (lv_at hl 3 rfl) ?_
  refine lv_iconst (v := 3) hx hb dL_law_438 (by decide) ?_
  refine lv_iadd hx hb dL_law_439 ?_
  refine sn_top (sn_nadd (a := 5 * k) (b := 3) rfl rfl) ?_
  refine va_sld hx hb hX hbl hbA hS (vp_in_nI (by omega) (by omega)) dL_law_440 ?_
  refine sn_top (y := xs (5 * k + 3)) (congrArg xs (nI_clamp (by omega))) ?_
  refine sn_cV 3 0 hC hl (ct_X4_goes l D cI cZ cR am f g kp tp2 ly2 nb2 n hI (xs (5 * k + 1)) (xs (5 * k + 2)) (xs (5 * k + 3))) gL_law_X4_goes rfl (by decide +kernel) rfl ⟨Nat.le_of_ble_eq_true rfl, Nat.le_of_ble_eq_true rfl⟩ ⟨by show 18 + 7 * k + 0 ≤ 600000; omega, by show 330 + 63 * k + 0 ≤ 7302250; omega⟩ (sn_P_r hP) hK hN rfl rfl rfl (Nat.le_of_ble_eq_true rfl) dL_law_441 ?_
  refine lv_icmp_eq (tgt := 755) hx hb dL_law_444 (by decide) (fun c_ => ?_) (fun c_ => absurd rfl c_)
  exact sn_tail hx hb ih (sn_Wd.mk ⟨n, hI⟩ hk0 hk1 hg0 hg1 hP hD) hS hl (by omega) (by omega)
set_option maxRecDepth 100000 in
set_option maxHeartbeats 4000000 in
theorem lc_steep {p : Program} {l : Launch} {e : Env} {s : State} {m : MethodId} {below : List Frame} {meth : Method} {c : Code} {b L : Nat} {xs : Nat → Int32} {D : va_G} {cI cZ cR : ClassId} {k o q : Nat} {H : Heap} {locs : List Loc} {ls : Array Slot} (hL : L ≤ 2560) (C0 : lw_At p s m meth c b L xs) (hK : va_K D vwCl (sn_ty cI cZ cR) s) (hN : sn_N s) (hF0 : sn_F (sn_ah s) s s.heap) (h5 : 5 * k + 5 ≤ L) (ih : sn_Hd p l e s m below meth c b D cI cZ cR (k + 1)) (hW : sn_Wd D cI cZ cR (sn_ah s) o q H) (hS : va_S (sn_ah s) s.heap H locs) (hl : lv_has ls 4 [(0, .ref b), (1, .ref o), (2, .ref q), (3, .int (nI (5 * k)))]) : W p l e room_1 s m #[Value.ref b] below meth c H locs (18 + 7 * k) (330 + 63 * k) (lw_Z below #[Value.ref b] s) (F0 m 449 ls []) := by
  obtain ⟨hx, hb, hr, hml, hown, hts0, hX, hbl, hlocks, hgv⟩ := C0
  have hts : ∀ w ∈ wsL_law, w.before #[Value.ref b] s = true := fun w h => hts0 w (wsL_law_in w h)
  have hA : ∀ q : Nat, s.heap.size ≤ q → sn_ah s q := fun _ h => h
  have hbA : ¬ sn_ah s b := Nat.not_le.mpr hbl
  have hC : CallFix p m c code 4 s #[Value.ref b] wsL_law RL := ⟨hx, hb, hml, hown, hts⟩
  obtain ⟨a, bt, am, im, f, g, kp, tp, ly, tp2, ly2, nb, nb2, b0, b1, n, hq, hI, hk0, hk1, hg0, hg1, hP, hD⟩ := hW
  subst hq
  refine lv_aload_n hx hb dL_law_449 rfl (lv_at hl 1 rfl) ?_
  refine lv_aload_n hx hb dL_law_450 rfl (lv_at hl 0 rfl) ?_
  refine lv_iload_n hx hb dL_law_451 rfl (lv_at hl 3 rfl) ?_
  refine lv_iconst (v := 1) hx hb dL_law_452 (by decide) ?_
  refine lv_iadd hx hb dL_law_453 ?_
  refine sn_top (sn_nadd (a := 5 * k) (b := 1) rfl rfl) ?_
  refine va_sld hx hb hX hbl hbA hS (vp_in_nI (by omega) (by omega)) dL_law_454 ?_
  refine sn_top (y := xs (5 * k + 1)) (congrArg xs (nI_clamp (by omega))) ?_
  refine lv_aload_n hx hb dL_law_455 rfl (lv_at hl 0 rfl) ?_
  refine lv_iload_n hx hb dL_law_456 rfl (lv_at hl 3 rfl) ?_
  refine lv_iconst (v := 2) hx hb dL_law_457 (by decide) ?_
  refine lv_iadd hx hb dL_law_458 ?_
  refine sn_top (sn_nadd (a := 5 * k) (b := 2) rfl rfl) ?_
  refine va_sld hx hb hX hbl hbA hS (vp_in_nI (by omega) (by omega)) dL_law_459 ?_
  refine sn_top (y := xs (5 * k + 2)) (congrArg xs (nI_clamp (by omega))) ?_
  refine sn_cV 2 0 hC hl (ct_X3_steep l D cI cZ cR o a bt im f n hI (xs (5 * k + 1)) (xs (5 * k + 2))) gL_law_X3_steep rfl (by decide +kernel) rfl ⟨Nat.le_of_ble_eq_true rfl, Nat.le_of_ble_eq_true rfl⟩ ⟨by show 18 + 7 * k + 0 ≤ 600000; omega, by show 330 + 63 * k + 0 ≤ 7302250; omega⟩ (sn_P_l (sn_P_l hP)) hK hN rfl rfl rfl (Nat.le_of_ble_eq_true rfl) dL_law_460 ?_
  refine lv_aload_n hx hb dL_law_463 rfl (lv_at hl 2 rfl) ?_
  refine lv_aload_n hx hb dL_law_464 rfl (lv_at hl 0 rfl) ?_
  refine lv_iload_n hx hb dL_law_465 rfl (lv_at hl 3 rfl) ?_
  refine lv_iconst (v := 1) hx hb dL_law_466 (by decide) ?_
  refine lv_iadd hx hb dL_law_467 ?_
  refine sn_top (sn_nadd (a := 5 * k) (b := 1) rfl rfl) ?_
  refine va_sld hx hb hX hbl hbA hS (vp_in_nI (by omega) (by omega)) dL_law_468 ?_
  refine sn_top (y := xs (5 * k + 1)) (congrArg xs (nI_clamp (by omega))) ?_
  refine lv_aload_n hx hb dL_law_469 rfl (lv_at hl 0 rfl) ?_
  refine lv_iload_n hx hb dL_law_470 rfl (lv_at hl 3 rfl) ?_
  refine lv_iconst (v := 2) hx hb dL_law_471 (by decide) ?_
  refine lv_iadd hx hb dL_law_472 ?_
  refine sn_top (sn_nadd (a := 5 * k) (b := 2) rfl rfl) ?_
  refine va_sld hx hb hX hbl hbA hS (vp_in_nI (by omega) (by omega)) dL_law_473 ?_
  refine sn_top (y := xs (5 * k + 2)) (congrArg xs (nI_clamp (by omega))) ?_
  refine sn_cV 2 0 hC hl (ct_X4_steep l D cI cZ cR am f g kp tp2 ly2 nb2 n hI (xs (5 * k + 1)) (xs (5 * k + 2))) gL_law_X4_steep rfl (by decide +kernel) rfl ⟨Nat.le_of_ble_eq_true rfl, Nat.le_of_ble_eq_true rfl⟩ ⟨by show 18 + 7 * k + 0 ≤ 600000; omega, by show 330 + 63 * k + 0 ≤ 7302250; omega⟩ (sn_P_r hP) hK hN rfl rfl rfl (Nat.le_of_ble_eq_true rfl) dL_law_474 ?_
  refine lv_icmp_eq (tgt := 755) hx hb dL_law_477 (by decide) (fun c_ => ?_) (fun c_ => absurd rfl c_)
  exact sn_tail hx hb ih (sn_Wd.mk ⟨n, hI⟩ hk0 hk1 hg0 hg1 hP hD) hS hl (by omega) (by omega)
set_option maxRecDepth 100000 in
set_option maxHeartbeats 4000000 in
theorem lc_pack {p : Program} {l : Launch} {e : Env} {s : State} {m : MethodId} {below : List Frame} {meth : Method} {c : Code} {b L : Nat} {xs : Nat → Int32} {D : va_G} {cI cZ cR : ClassId} {k o q : Nat} {H : Heap} {locs : List Loc} {ls : Array Slot} (hL : L ≤ 2560) (C0 : lw_At p s m meth c b L xs) (hK : va_K D vwCl (sn_ty cI cZ cR) s) (hN : sn_N s) (hF0 : sn_F (sn_ah s) s s.heap) (h5 : 5 * k + 5 ≤ L) (ih : sn_Hd p l e s m below meth c b D cI cZ cR (k + 1)) (hW : sn_Wd D cI cZ cR (sn_ah s) o q H) (hS : va_S (sn_ah s) s.heap H locs) (hl : lv_has ls 4 [(0, .ref b), (1, .ref o), (2, .ref q), (3, .int (nI (5 * k)))]) : W p l e room_1 s m #[Value.ref b] below meth c H locs (18 + 7 * k) (330 + 63 * k) (lw_Z below #[Value.ref b] s) (F0 m 482 ls []) := by
  obtain ⟨hx, hb, hr, hml, hown, hts0, hX, hbl, hlocks, hgv⟩ := C0
  have hts : ∀ w ∈ wsL_law, w.before #[Value.ref b] s = true := fun w h => hts0 w (wsL_law_in w h)
  have hA : ∀ q : Nat, s.heap.size ≤ q → sn_ah s q := fun _ h => h
  have hbA : ¬ sn_ah s b := Nat.not_le.mpr hbl
  have hC : CallFix p m c code 4 s #[Value.ref b] wsL_law RL := ⟨hx, hb, hml, hown, hts⟩
  obtain ⟨a, bt, am, im, f, g, kp, tp, ly, tp2, ly2, nb, nb2, b0, b1, n, hq, hI, hk0, hk1, hg0, hg1, hP, hD⟩ := hW
  subst hq
  refine lv_aload_n hx hb dL_law_482 rfl (lv_at hl 1 rfl) ?_
  refine lv_aload_n hx hb dL_law_483 rfl (lv_at hl 0 rfl) ?_
  refine lv_iload_n hx hb dL_law_484 rfl (lv_at hl 3 rfl) ?_
  refine lv_iconst (v := 1) hx hb dL_law_485 (by decide) ?_
  refine lv_iadd hx hb dL_law_486 ?_
  refine sn_top (sn_nadd (a := 5 * k) (b := 1) rfl rfl) ?_
  refine va_sld hx hb hX hbl hbA hS (vp_in_nI (by omega) (by omega)) dL_law_487 ?_
  refine sn_top (y := xs (5 * k + 1)) (congrArg xs (nI_clamp (by omega))) ?_
  refine sn_uV (w0 := []) (w := sn_wS cI cZ o a bt im f) (wr := (sn_wT cI bt nb tp ly ++ (((im, .inl (cR, 2, .inr (.inr (.inr (.inr (sn_og b0 b1)))))) :: (sn_wI cI cZ g 0 b0 ++ sn_wI cI cZ g 1 b1)) ++ sn_wM cI cZ am f g kp tp2 ly2 nb2))) 1 0 hC hl (ct_X3_pack l D cI cZ cR o a bt im f n hI (xs (5 * k + 1)) _) gL_law_X3_pack rfl (by decide +kernel) rfl ⟨Nat.le_of_ble_eq_true rfl, Nat.le_of_ble_eq_true rfl⟩ ⟨by show 18 + 7 * k + 0 ≤ 600000; omega, by show 330 + 63 * k + 0 ≤ 7302250; omega⟩ hP hD hS hA hF0 hK hN rfl rfl rfl (Nat.le_of_ble_eq_true rfl) dL_law_488 (fun u1 H locs hu1 hP hD hS => ?_)
  subst hu1
  have hP : va_P D vwCl (sn_wX cI cZ cR o a bt im (sn_Fpack f n (xs (5 * k + 1))) nb tp ly g b0 b1 ++ sn_wM cI cZ am f g kp tp2 ly2 nb2) H := hP
  have hD : va_D (sn_ah s) (sn_wX cI cZ cR o a bt im (sn_Fpack f n (xs (5 * k + 1))) nb tp ly g b0 b1 ++ sn_wM cI cZ am f g kp tp2 ly2 nb2) := hD
  refine lv_aload_n hx hb dL_law_491 rfl (lv_at hl 2 rfl) ?_
  refine lv_aload_n hx hb dL_law_492 rfl (lv_at hl 0 rfl) ?_
  refine lv_iload_n hx hb dL_law_493 rfl (lv_at hl 3 rfl) ?_
  refine lv_iconst (v := 1) hx hb dL_law_494 (by decide) ?_
  refine lv_iadd hx hb dL_law_495 ?_
  refine sn_top (sn_nadd (a := 5 * k) (b := 1) rfl rfl) ?_
  refine va_sld hx hb hX hbl hbA hS (vp_in_nI (by omega) (by omega)) dL_law_496 ?_
  refine sn_top (y := xs (5 * k + 1)) (congrArg xs (nI_clamp (by omega))) ?_
  refine sn_uV (w0 := sn_wX cI cZ cR o a bt im (sn_Fpack f n (xs (5 * k + 1))) nb tp ly g b0 b1) (w := sn_wM cI cZ am f g kp tp2 ly2 nb2) (wr := []) 1 0 hC hl (ct_X4_pack l D cI cZ cR am f g kp tp2 ly2 nb2 n hI (xs (5 * k + 1)) _) gL_law_X4_pack rfl (by decide +kernel) rfl ⟨Nat.le_of_ble_eq_true rfl, Nat.le_of_ble_eq_true rfl⟩ ⟨by show 18 + 7 * k + 0 ≤ 600000; omega, by show 330 + 63 * k + 0 ≤ 7302250; omega⟩ hP hD hS hA hF0 hK hN rfl rfl rfl (Nat.le_of_ble_eq_true rfl) dL_law_497 (fun u2 H locs hu2 hP hD hS => ?_)
  subst hu2
  have hP : va_P D vwCl (sn_wX cI cZ cR o a bt im (sn_Fpack f n (xs (5 * k + 1))) nb tp ly g b0 b1 ++ sn_wM cI cZ am (sn_Fpack f n (xs (5 * k + 1))) g kp tp2 ly2 nb2) H := hP
  have hD : va_D (sn_ah s) (sn_wX cI cZ cR o a bt im (sn_Fpack f n (xs (5 * k + 1))) nb tp ly g b0 b1 ++ sn_wM cI cZ am (sn_Fpack f n (xs (5 * k + 1))) g kp tp2 ly2 nb2) := hD
  refine lv_icmp_eq (tgt := 755) hx hb dL_law_500 (by decide) (fun c_ => ?_) (fun c_ => absurd rfl c_)
  exact sn_tail hx hb ih (sn_Wd.mk (sn_Ipack hI (xs (5 * k + 1))) hk0 hk1 hg0 hg1 hP hD) hS hl (by omega) (by omega)
set_option maxRecDepth 100000 in
set_option maxHeartbeats 4000000 in
theorem lc_settle {p : Program} {l : Launch} {e : Env} {s : State} {m : MethodId} {below : List Frame} {meth : Method} {c : Code} {b L : Nat} {xs : Nat → Int32} {D : va_G} {cI cZ cR : ClassId} {k o q : Nat} {H : Heap} {locs : List Loc} {ls : Array Slot} (hL : L ≤ 2560) (C0 : lw_At p s m meth c b L xs) (hK : va_K D vwCl (sn_ty cI cZ cR) s) (hN : sn_N s) (hF0 : sn_F (sn_ah s) s s.heap) (h5 : 5 * k + 5 ≤ L) (ih : sn_Hd p l e s m below meth c b D cI cZ cR (k + 1)) (hW : sn_Wd D cI cZ cR (sn_ah s) o q H) (hS : va_S (sn_ah s) s.heap H locs) (hl : lv_has ls 4 [(0, .ref b), (1, .ref o), (2, .ref q), (3, .int (nI (5 * k)))]) : W p l e room_1 s m #[Value.ref b] below meth c H locs (18 + 7 * k) (330 + 63 * k) (lw_Z below #[Value.ref b] s) (F0 m 505 ls []) := by
  obtain ⟨hx, hb, hr, hml, hown, hts0, hX, hbl, hlocks, hgv⟩ := C0
  have hts : ∀ w ∈ wsL_law, w.before #[Value.ref b] s = true := fun w h => hts0 w (wsL_law_in w h)
  have hA : ∀ q : Nat, s.heap.size ≤ q → sn_ah s q := fun _ h => h
  have hbA : ¬ sn_ah s b := Nat.not_le.mpr hbl
  have hC : CallFix p m c code 4 s #[Value.ref b] wsL_law RL := ⟨hx, hb, hml, hown, hts⟩
  obtain ⟨a, bt, am, im, f, g, kp, tp, ly, tp2, ly2, nb, nb2, b0, b1, n, hq, hI, hk0, hk1, hg0, hg1, hP, hD⟩ := hW
  subst hq
  refine lv_aload_n hx hb dL_law_505 rfl (lv_at hl 1 rfl) ?_
  refine lv_aload_n hx hb dL_law_506 rfl (lv_at hl 0 rfl) ?_
  refine lv_iload_n hx hb dL_law_507 rfl (lv_at hl 3 rfl) ?_
  refine lv_iconst (v := 1) hx hb dL_law_508 (by decide) ?_
  refine lv_iadd hx hb dL_law_509 ?_
  refine sn_top (sn_nadd (a := 5 * k) (b := 1) rfl rfl) ?_
  refine va_sld hx hb hX hbl hbA hS (vp_in_nI (by omega) (by omega)) dL_law_510 ?_
  refine sn_top (y := xs (5 * k + 1)) (congrArg xs (nI_clamp (by omega))) ?_
  refine sn_uV (w0 := []) (w := sn_wS cI cZ o a bt im f) (wr := (sn_wT cI bt nb tp ly ++ (((im, .inl (cR, 2, .inr (.inr (.inr (.inr (sn_og b0 b1)))))) :: (sn_wI cI cZ g 0 b0 ++ sn_wI cI cZ g 1 b1)) ++ sn_wM cI cZ am f g kp tp2 ly2 nb2))) 1 0 hC hl (ct_X3_settle l D cI cZ cR o a bt im f n hI (xs (5 * k + 1)) _) gL_law_X3_settle rfl (by decide +kernel) rfl ⟨Nat.le_of_ble_eq_true rfl, Nat.le_of_ble_eq_true rfl⟩ ⟨by show 18 + 7 * k + 0 ≤ 600000; omega, by show 330 + 63 * k + 0 ≤ 7302250; omega⟩ hP hD hS hA hF0 hK hN rfl rfl rfl (Nat.le_of_ble_eq_true rfl) dL_law_511 (fun u1 H locs hu1 hP hD hS => ?_)
  subst hu1
  have hP : va_P D vwCl (sn_wX cI cZ cR o a bt im (sn_Fset f n (xs (5 * k + 1))) nb tp ly g b0 b1 ++ sn_wM cI cZ am f g kp tp2 ly2 nb2) H := hP
  have hD : va_D (sn_ah s) (sn_wX cI cZ cR o a bt im (sn_Fset f n (xs (5 * k + 1))) nb tp ly g b0 b1 ++ sn_wM cI cZ am f g kp tp2 ly2 nb2) := hD
  refine lv_aload_n hx hb dL_law_514 rfl (lv_at hl 2 rfl) ?_
  refine lv_aload_n hx hb dL_law_515 rfl (lv_at hl 0 rfl) ?_
  refine lv_iload_n hx hb dL_law_516 rfl (lv_at hl 3 rfl) ?_
  refine lv_iconst (v := 1) hx hb dL_law_517 (by decide) ?_
  refine lv_iadd hx hb dL_law_518 ?_
  refine sn_top (sn_nadd (a := 5 * k) (b := 1) rfl rfl) ?_
  refine va_sld hx hb hX hbl hbA hS (vp_in_nI (by omega) (by omega)) dL_law_519 ?_
  refine sn_top (y := xs (5 * k + 1)) (congrArg xs (nI_clamp (by omega))) ?_
  refine sn_uV (w0 := sn_wX cI cZ cR o a bt im (sn_Fset f n (xs (5 * k + 1))) nb tp ly g b0 b1) (w := sn_wM cI cZ am f g kp tp2 ly2 nb2) (wr := []) 1 0 hC hl (ct_X4_settle l D cI cZ cR am f g kp tp2 ly2 nb2 n hI (xs (5 * k + 1)) _) gL_law_X4_settle rfl (by decide +kernel) rfl ⟨Nat.le_of_ble_eq_true rfl, Nat.le_of_ble_eq_true rfl⟩ ⟨by show 18 + 7 * k + 0 ≤ 600000; omega, by show 330 + 63 * k + 0 ≤ 7302250; omega⟩ hP hD hS hA hF0 hK hN rfl rfl rfl (Nat.le_of_ble_eq_true rfl) dL_law_520 (fun u2 H locs hu2 hP hD hS => ?_)
  subst hu2
  have hP : va_P D vwCl (sn_wX cI cZ cR o a bt im (sn_Fset f n (xs (5 * k + 1))) nb tp ly g b0 b1 ++ sn_wM cI cZ am (sn_Fset f n (xs (5 * k + 1))) g kp tp2 ly2 nb2) H := hP
  have hD : va_D (sn_ah s) (sn_wX cI cZ cR o a bt im (sn_Fset f n (xs (5 * k + 1))) nb tp ly g b0 b1 ++ sn_wM cI cZ am (sn_Fset f n (xs (5 * k + 1))) g kp tp2 ly2 nb2) := hD
  refine lv_icmp_eq (tgt := 755) hx hb dL_law_523 (by decide) (fun c_ => ?_) (fun c_ => absurd rfl c_)
  exact sn_tail hx hb ih (sn_Wd.mk (sn_Iset hI (xs (5 * k + 1))) hk0 hk1 hg0 hg1 hP hD) hS hl (by omega) (by omega)
set_option maxRecDepth 100000 in
set_option maxHeartbeats 4000000 in
theorem lc_melt {p : Program} {l : Launch} {e : Env} {s : State} {m : MethodId} {below : List Frame} {meth : Method} {c : Code} {b L : Nat} {xs : Nat → Int32} {D : va_G} {cI cZ cR : ClassId} {k o q : Nat} {H : Heap} {locs : List Loc} {ls : Array Slot} (hL : L ≤ 2560) (C0 : lw_At p s m meth c b L xs) (hK : va_K D vwCl (sn_ty cI cZ cR) s) (hN : sn_N s) (hF0 : sn_F (sn_ah s) s s.heap) (h5 : 5 * k + 5 ≤ L) (ih : sn_Hd p l e s m below meth c b D cI cZ cR (k + 1)) (hW : sn_Wd D cI cZ cR (sn_ah s) o q H) (hS : va_S (sn_ah s) s.heap H locs) (hl : lv_has ls 4 [(0, .ref b), (1, .ref o), (2, .ref q), (3, .int (nI (5 * k)))]) : W p l e room_1 s m #[Value.ref b] below meth c H locs (18 + 7 * k) (330 + 63 * k) (lw_Z below #[Value.ref b] s) (F0 m 528 ls []) := by
  obtain ⟨hx, hb, hr, hml, hown, hts0, hX, hbl, hlocks, hgv⟩ := C0
  have hts : ∀ w ∈ wsL_law, w.before #[Value.ref b] s = true := fun w h => hts0 w (wsL_law_in w h)
  have hA : ∀ q : Nat, s.heap.size ≤ q → sn_ah s q := fun _ h => h
  have hbA : ¬ sn_ah s b := Nat.not_le.mpr hbl
  have hC : CallFix p m c code 4 s #[Value.ref b] wsL_law RL := ⟨hx, hb, hml, hown, hts⟩
  obtain ⟨a, bt, am, im, f, g, kp, tp, ly, tp2, ly2, nb, nb2, b0, b1, n, hq, hI, hk0, hk1, hg0, hg1, hP, hD⟩ := hW
  subst hq
  refine lv_aload_n hx hb dL_law_528 rfl (lv_at hl 1 rfl) ?_
  refine lv_aload_n hx hb dL_law_529 rfl (lv_at hl 0 rfl) ?_
  refine lv_iload_n hx hb dL_law_530 rfl (lv_at hl 3 rfl) ?_
  refine lv_iconst (v := 1) hx hb dL_law_531 (by decide) ?_
  refine lv_iadd hx hb dL_law_532 ?_
  refine sn_top (sn_nadd (a := 5 * k) (b := 1) rfl rfl) ?_
  refine va_sld hx hb hX hbl hbA hS (vp_in_nI (by omega) (by omega)) dL_law_533 ?_
  refine sn_top (y := xs (5 * k + 1)) (congrArg xs (nI_clamp (by omega))) ?_
  refine sn_uV (w0 := []) (w := sn_wS cI cZ o a bt im f) (wr := (sn_wT cI bt nb tp ly ++ (((im, .inl (cR, 2, .inr (.inr (.inr (.inr (sn_og b0 b1)))))) :: (sn_wI cI cZ g 0 b0 ++ sn_wI cI cZ g 1 b1)) ++ sn_wM cI cZ am f g kp tp2 ly2 nb2))) 1 0 hC hl (ct_X3_melt l D cI cZ cR o a bt im f n hI (xs (5 * k + 1)) _) gL_law_X3_melt rfl (by decide +kernel) rfl ⟨Nat.le_of_ble_eq_true rfl, Nat.le_of_ble_eq_true rfl⟩ ⟨by show 18 + 7 * k + 0 ≤ 600000; omega, by show 330 + 63 * k + 0 ≤ 7302250; omega⟩ hP hD hS hA hF0 hK hN rfl rfl rfl (Nat.le_of_ble_eq_true rfl) dL_law_534 (fun u1 H locs hu1 hP hD hS => ?_)
  subst hu1
  have hP : va_P D vwCl (sn_wX cI cZ cR o a bt im (sn_Fmelt f n (xs (5 * k + 1))) nb tp ly g b0 b1 ++ sn_wM cI cZ am f g kp tp2 ly2 nb2) H := hP
  have hD : va_D (sn_ah s) (sn_wX cI cZ cR o a bt im (sn_Fmelt f n (xs (5 * k + 1))) nb tp ly g b0 b1 ++ sn_wM cI cZ am f g kp tp2 ly2 nb2) := hD
  refine lv_aload_n hx hb dL_law_537 rfl (lv_at hl 2 rfl) ?_
  refine lv_aload_n hx hb dL_law_538 rfl (lv_at hl 0 rfl) ?_
  refine lv_iload_n hx hb dL_law_539 rfl (lv_at hl 3 rfl) ?_
  refine lv_iconst (v := 1) hx hb dL_law_540 (by decide) ?_
  refine lv_iadd hx hb dL_law_541 ?_
  refine sn_top (sn_nadd (a := 5 * k) (b := 1) rfl rfl) ?_
  refine va_sld hx hb hX hbl hbA hS (vp_in_nI (by omega) (by omega)) dL_law_542 ?_
  refine sn_top (y := xs (5 * k + 1)) (congrArg xs (nI_clamp (by omega))) ?_
  refine sn_uV (w0 := sn_wX cI cZ cR o a bt im (sn_Fmelt f n (xs (5 * k + 1))) nb tp ly g b0 b1) (w := sn_wM cI cZ am f g kp tp2 ly2 nb2) (wr := []) 1 0 hC hl (ct_X4_melt l D cI cZ cR am f g kp tp2 ly2 nb2 n hI (xs (5 * k + 1)) _) gL_law_X4_melt rfl (by decide +kernel) rfl ⟨Nat.le_of_ble_eq_true rfl, Nat.le_of_ble_eq_true rfl⟩ ⟨by show 18 + 7 * k + 0 ≤ 600000; omega, by show 330 + 63 * k + 0 ≤ 7302250; omega⟩ hP hD hS hA hF0 hK hN rfl rfl rfl (Nat.le_of_ble_eq_true rfl) dL_law_543 (fun u2 H locs hu2 hP hD hS => ?_)
  subst hu2
  have hP : va_P D vwCl (sn_wX cI cZ cR o a bt im (sn_Fmelt f n (xs (5 * k + 1))) nb tp ly g b0 b1 ++ sn_wM cI cZ am (sn_Fmelt f n (xs (5 * k + 1))) g kp tp2 ly2 nb2) H := hP
  have hD : va_D (sn_ah s) (sn_wX cI cZ cR o a bt im (sn_Fmelt f n (xs (5 * k + 1))) nb tp ly g b0 b1 ++ sn_wM cI cZ am (sn_Fmelt f n (xs (5 * k + 1))) g kp tp2 ly2 nb2) := hD
  refine lv_icmp_eq (tgt := 755) hx hb dL_law_546 (by decide) (fun c_ => ?_) (fun c_ => absurd rfl c_)
  exact sn_tail hx hb ih (sn_Wd.mk (sn_Imelt hI (xs (5 * k + 1))) hk0 hk1 hg0 hg1 hP hD) hS hl (by omega) (by omega)
set_option maxRecDepth 100000 in
set_option maxHeartbeats 4000000 in
theorem lc_freeze {p : Program} {l : Launch} {e : Env} {s : State} {m : MethodId} {below : List Frame} {meth : Method} {c : Code} {b L : Nat} {xs : Nat → Int32} {D : va_G} {cI cZ cR : ClassId} {k o q : Nat} {H : Heap} {locs : List Loc} {ls : Array Slot} (hL : L ≤ 2560) (C0 : lw_At p s m meth c b L xs) (hK : va_K D vwCl (sn_ty cI cZ cR) s) (hN : sn_N s) (hF0 : sn_F (sn_ah s) s s.heap) (h5 : 5 * k + 5 ≤ L) (ih : sn_Hd p l e s m below meth c b D cI cZ cR (k + 1)) (hW : sn_Wd D cI cZ cR (sn_ah s) o q H) (hS : va_S (sn_ah s) s.heap H locs) (hl : lv_has ls 4 [(0, .ref b), (1, .ref o), (2, .ref q), (3, .int (nI (5 * k)))]) : W p l e room_1 s m #[Value.ref b] below meth c H locs (18 + 7 * k) (330 + 63 * k) (lw_Z below #[Value.ref b] s) (F0 m 551 ls []) := by
  obtain ⟨hx, hb, hr, hml, hown, hts0, hX, hbl, hlocks, hgv⟩ := C0
  have hts : ∀ w ∈ wsL_law, w.before #[Value.ref b] s = true := fun w h => hts0 w (wsL_law_in w h)
  have hA : ∀ q : Nat, s.heap.size ≤ q → sn_ah s q := fun _ h => h
  have hbA : ¬ sn_ah s b := Nat.not_le.mpr hbl
  have hC : CallFix p m c code 4 s #[Value.ref b] wsL_law RL := ⟨hx, hb, hml, hown, hts⟩
  obtain ⟨a, bt, am, im, f, g, kp, tp, ly, tp2, ly2, nb, nb2, b0, b1, n, hq, hI, hk0, hk1, hg0, hg1, hP, hD⟩ := hW
  subst hq
  refine lv_aload_n hx hb dL_law_551 rfl (lv_at hl 1 rfl) ?_
  refine sn_uV (w0 := []) (w := sn_wS cI cZ o a bt im f) (wr := (sn_wT cI bt nb tp ly ++ (((im, .inl (cR, 2, .inr (.inr (.inr (.inr (sn_og b0 b1)))))) :: (sn_wI cI cZ g 0 b0 ++ sn_wI cI cZ g 1 b1)) ++ sn_wM cI cZ am f g kp tp2 ly2 nb2))) 0 0 hC hl (ct_X3_freeze l D cI cZ cR o a bt im f n hI  _) gL_law_X3_freeze rfl (by decide +kernel) rfl ⟨Nat.le_of_ble_eq_true rfl, Nat.le_of_ble_eq_true rfl⟩ ⟨by show 18 + 7 * k + 0 ≤ 600000; omega, by show 330 + 63 * k + 0 ≤ 7302250; omega⟩ hP hD hS hA hF0 hK hN rfl rfl rfl (Nat.le_of_ble_eq_true rfl) dL_law_552 (fun u1 H locs hu1 hP hD hS => ?_)
  subst hu1
  have hP : va_P D vwCl (sn_wX cI cZ cR o a bt im (sn_frF f n) nb tp ly g b0 b1 ++ sn_wM cI cZ am f g kp tp2 ly2 nb2) H := hP
  have hD : va_D (sn_ah s) (sn_wX cI cZ cR o a bt im (sn_frF f n) nb tp ly g b0 b1 ++ sn_wM cI cZ am f g kp tp2 ly2 nb2) := hD
  refine lv_aload_n hx hb dL_law_555 rfl (lv_at hl 2 rfl) ?_
  refine sn_uV (w0 := sn_wX cI cZ cR o a bt im (sn_frF f n) nb tp ly g b0 b1) (w := sn_wM cI cZ am f g kp tp2 ly2 nb2) (wr := []) 0 0 hC hl (ct_X4_freeze l D cI cZ cR am f g kp tp2 ly2 nb2 n hI  _) gL_law_X4_freeze rfl (by decide +kernel) rfl ⟨Nat.le_of_ble_eq_true rfl, Nat.le_of_ble_eq_true rfl⟩ ⟨by show 18 + 7 * k + 0 ≤ 600000; omega, by show 330 + 63 * k + 0 ≤ 7302250; omega⟩ hP hD hS hA hF0 hK hN rfl rfl rfl (Nat.le_of_ble_eq_true rfl) dL_law_556 (fun u2 H locs hu2 hP hD hS => ?_)
  subst hu2
  have hP : va_P D vwCl (sn_wX cI cZ cR o a bt im (sn_frF f n) nb tp ly g b0 b1 ++ sn_wM cI cZ am (sn_frF f n) g kp tp2 ly2 nb2) H := hP
  have hD : va_D (sn_ah s) (sn_wX cI cZ cR o a bt im (sn_frF f n) nb tp ly g b0 b1 ++ sn_wM cI cZ am (sn_frF f n) g kp tp2 ly2 nb2) := hD
  refine lv_icmp_eq (tgt := 755) hx hb dL_law_559 (by decide) (fun c_ => ?_) (fun c_ => absurd rfl c_)
  exact sn_tail hx hb ih (sn_Wd.mk (sn_Ifreeze hI) hk0 hk1 hg0 hg1 hP hD) hS hl (by omega) (by omega)
set_option maxRecDepth 100000 in
set_option maxHeartbeats 4000000 in
theorem lc_slide {p : Program} {l : Launch} {e : Env} {s : State} {m : MethodId} {below : List Frame} {meth : Method} {c : Code} {b L : Nat} {xs : Nat → Int32} {D : va_G} {cI cZ cR : ClassId} {k o q : Nat} {H : Heap} {locs : List Loc} {ls : Array Slot} (hL : L ≤ 2560) (C0 : lw_At p s m meth c b L xs) (hK : va_K D vwCl (sn_ty cI cZ cR) s) (hN : sn_N s) (hF0 : sn_F (sn_ah s) s s.heap) (h5 : 5 * k + 5 ≤ L) (ih : sn_Hd p l e s m below meth c b D cI cZ cR (k + 1)) (hW : sn_Wd D cI cZ cR (sn_ah s) o q H) (hS : va_S (sn_ah s) s.heap H locs) (hl : lv_has ls 4 [(0, .ref b), (1, .ref o), (2, .ref q), (3, .int (nI (5 * k)))]) : W p l e room_1 s m #[Value.ref b] below meth c H locs (18 + 7 * k) (330 + 63 * k) (lw_Z below #[Value.ref b] s) (F0 m 564 ls []) := by
  obtain ⟨hx, hb, hr, hml, hown, hts0, hX, hbl, hlocks, hgv⟩ := C0
  have hts : ∀ w ∈ wsL_law, w.before #[Value.ref b] s = true := fun w h => hts0 w (wsL_law_in w h)
  have hA : ∀ q : Nat, s.heap.size ≤ q → sn_ah s q := fun _ h => h
  have hbA : ¬ sn_ah s b := Nat.not_le.mpr hbl
  have hC : CallFix p m c code 4 s #[Value.ref b] wsL_law RL := ⟨hx, hb, hml, hown, hts⟩
  obtain ⟨a, bt, am, im, f, g, kp, tp, ly, tp2, ly2, nb, nb2, b0, b1, n, hq, hI, hk0, hk1, hg0, hg1, hP, hD⟩ := hW
  subst hq
  refine lv_aload_n hx hb dL_law_564 rfl (lv_at hl 1 rfl) ?_
  refine sn_uV (w0 := []) (w := sn_wS cI cZ o a bt im f) (wr := (sn_wT cI bt nb tp ly ++ (((im, .inl (cR, 2, .inr (.inr (.inr (.inr (sn_og b0 b1)))))) :: (sn_wI cI cZ g 0 b0 ++ sn_wI cI cZ g 1 b1)) ++ sn_wM cI cZ am f g kp tp2 ly2 nb2))) 0 0 hC hl (ct_X3_slide l D cI cZ cR o a bt im f n hI  _) gL_law_X3_slide rfl (by decide +kernel) rfl ⟨Nat.le_of_ble_eq_true rfl, Nat.le_of_ble_eq_true rfl⟩ ⟨by show 18 + 7 * k + 0 ≤ 600000; omega, by show 330 + 63 * k + 0 ≤ 7302250; omega⟩ hP hD hS hA hF0 hK hN rfl rfl rfl (Nat.le_of_ble_eq_true rfl) dL_law_565 (fun u1 H locs hu1 hP hD hS => ?_)
  subst hu1
  have hP : va_P D vwCl (sn_wX cI cZ cR o a bt im (sn_Fslide f n) nb tp ly g b0 b1 ++ sn_wM cI cZ am f g kp tp2 ly2 nb2) H := hP
  have hD : va_D (sn_ah s) (sn_wX cI cZ cR o a bt im (sn_Fslide f n) nb tp ly g b0 b1 ++ sn_wM cI cZ am f g kp tp2 ly2 nb2) := hD
  refine lv_aload_n hx hb dL_law_568 rfl (lv_at hl 2 rfl) ?_
  refine sn_uV (w0 := sn_wX cI cZ cR o a bt im (sn_Fslide f n) nb tp ly g b0 b1) (w := sn_wM cI cZ am f g kp tp2 ly2 nb2) (wr := []) 0 0 hC hl (ct_X4_slide l D cI cZ cR am f g kp tp2 ly2 nb2 n hI  _) gL_law_X4_slide rfl (by decide +kernel) rfl ⟨Nat.le_of_ble_eq_true rfl, Nat.le_of_ble_eq_true rfl⟩ ⟨by show 18 + 7 * k + 0 ≤ 600000; omega, by show 330 + 63 * k + 0 ≤ 7302250; omega⟩ hP hD hS hA hF0 hK hN rfl rfl rfl (Nat.le_of_ble_eq_true rfl) dL_law_569 (fun u2 H locs hu2 hP hD hS => ?_)
  subst hu2
  have hP : va_P D vwCl (sn_wX cI cZ cR o a bt im (sn_Fslide f n) nb tp ly g b0 b1 ++ sn_wM cI cZ am (sn_Fslide f n) g kp tp2 ly2 nb2) H := hP
  have hD : va_D (sn_ah s) (sn_wX cI cZ cR o a bt im (sn_Fslide f n) nb tp ly g b0 b1 ++ sn_wM cI cZ am (sn_Fslide f n) g kp tp2 ly2 nb2) := hD
  refine lv_icmp_eq (tgt := 755) hx hb dL_law_572 (by decide) (fun c_ => ?_) (fun c_ => absurd rfl c_)
  exact sn_tail hx hb ih (sn_Wd.mk (sn_Islide hI) hk0 hk1 hg0 hg1 hP hD) hS hl (by omega) (by omega)
set_option maxRecDepth 100000 in
set_option maxHeartbeats 4000000 in
theorem lc_heat {p : Program} {l : Launch} {e : Env} {s : State} {m : MethodId} {below : List Frame} {meth : Method} {c : Code} {b L : Nat} {xs : Nat → Int32} {D : va_G} {cI cZ cR : ClassId} {k o q : Nat} {H : Heap} {locs : List Loc} {ls : Array Slot} (hL : L ≤ 2560) (C0 : lw_At p s m meth c b L xs) (hK : va_K D vwCl (sn_ty cI cZ cR) s) (hN : sn_N s) (hF0 : sn_F (sn_ah s) s s.heap) (h5 : 5 * k + 5 ≤ L) (ih : sn_Hd p l e s m below meth c b D cI cZ cR (k + 1)) (hW : sn_Wd D cI cZ cR (sn_ah s) o q H) (hS : va_S (sn_ah s) s.heap H locs) (hl : lv_has ls 4 [(0, .ref b), (1, .ref o), (2, .ref q), (3, .int (nI (5 * k)))]) : W p l e room_1 s m #[Value.ref b] below meth c H locs (18 + 7 * k) (330 + 63 * k) (lw_Z below #[Value.ref b] s) (F0 m 577 ls []) := by
  obtain ⟨hx, hb, hr, hml, hown, hts0, hX, hbl, hlocks, hgv⟩ := C0
  have hts : ∀ w ∈ wsL_law, w.before #[Value.ref b] s = true := fun w h => hts0 w (wsL_law_in w h)
  have hA : ∀ q : Nat, s.heap.size ≤ q → sn_ah s q := fun _ h => h
  have hbA : ¬ sn_ah s b := Nat.not_le.mpr hbl
  have hC : CallFix p m c code 4 s #[Value.ref b] wsL_law RL := ⟨hx, hb, hml, hown, hts⟩
  obtain ⟨a, bt, am, im, f, g, kp, tp, ly, tp2, ly2, nb, nb2, b0, b1, n, hq, hI, hk0, hk1, hg0, hg1, hP, hD⟩ := hW
  subst hq
  refine lv_aload_n hx hb dL_law_577 rfl (lv_at hl 1 rfl) ?_
  refine lv_aload_n hx hb dL_law_578 rfl (lv_at hl 0 rfl) ?_
  refine lv_iload_n hx hb dL_law_579 rfl (lv_at hl 3 rfl) ?_
  refine lv_iconst (v := 1) hx hb dL_law_580 (by decide) ?_
  refine lv_iadd hx hb dL_law_581 ?_
  refine sn_top (sn_nadd (a := 5 * k) (b := 1) rfl rfl) ?_
  refine va_sld hx hb hX hbl hbA hS (vp_in_nI (by omega) (by omega)) dL_law_582 ?_
  refine sn_top (y := xs (5 * k + 1)) (congrArg xs (nI_clamp (by omega))) ?_
  refine lv_aload_n hx hb dL_law_583 rfl (lv_at hl 0 rfl) ?_
  refine lv_iload_n hx hb dL_law_584 rfl (lv_at hl 3 rfl) ?_
  refine lv_iconst (v := 2) hx hb dL_law_585 (by decide) ?_
  refine lv_iadd hx hb dL_law_586 ?_
  refine sn_top (sn_nadd (a := 5 * k) (b := 2) rfl rfl) ?_
  refine va_sld hx hb hX hbl hbA hS (vp_in_nI (by omega) (by omega)) dL_law_587 ?_
  refine sn_top (y := xs (5 * k + 2)) (congrArg xs (nI_clamp (by omega))) ?_
  refine lv_aload_n hx hb dL_law_588 rfl (lv_at hl 0 rfl) ?_
  refine lv_iload_n hx hb dL_law_589 rfl (lv_at hl 3 rfl) ?_
  refine lv_iconst (v := 3) hx hb dL_law_590 (by decide) ?_
  refine lv_iadd hx hb dL_law_591 ?_
  refine sn_top (sn_nadd (a := 5 * k) (b := 3) rfl rfl) ?_
  refine va_sld hx hb hX hbl hbA hS (vp_in_nI (by omega) (by omega)) dL_law_592 ?_
  refine sn_top (y := xs (5 * k + 3)) (congrArg xs (nI_clamp (by omega))) ?_
  refine sn_cV 3 0 hC hl (ct_X3_heat l D cI cZ cR o a bt im f  (xs (5 * k + 1)) (xs (5 * k + 2)) (xs (5 * k + 3))) gL_law_X3_heat rfl (by decide +kernel) rfl ⟨Nat.le_of_ble_eq_true rfl, Nat.le_of_ble_eq_true rfl⟩ ⟨by show 18 + 7 * k + 0 ≤ 600000; omega, by show 330 + 63 * k + 0 ≤ 7302250; omega⟩ (sn_P_l (sn_P_l hP)) hK hN rfl rfl rfl (Nat.le_of_ble_eq_true rfl) dL_law_593 ?_
  refine lv_aload_n hx hb dL_law_596 rfl (lv_at hl 2 rfl) ?_
  refine lv_aload_n hx hb dL_law_597 rfl (lv_at hl 0 rfl) ?_
  refine lv_iload_n hx hb dL_law_598 rfl (lv_at hl 3 rfl) ?_
  refine lv_iconst (v := 1) hx hb dL_law_599 (by decide) ?_
  refine lv_iadd hx hb dL_law_600 ?_
  refine sn_top (sn_nadd (a := 5 * k) (b := 1) rfl rfl) ?_
  refine va_sld hx hb hX hbl hbA hS (vp_in_nI (by omega) (by omega)) dL_law_601 ?_
  refine sn_top (y := xs (5 * k + 1)) (congrArg xs (nI_clamp (by omega))) ?_
  refine lv_aload_n hx hb dL_law_602 rfl (lv_at hl 0 rfl) ?_
  refine lv_iload_n hx hb dL_law_603 rfl (lv_at hl 3 rfl) ?_
  refine lv_iconst (v := 2) hx hb dL_law_604 (by decide) ?_
  refine lv_iadd hx hb dL_law_605 ?_
  refine sn_top (sn_nadd (a := 5 * k) (b := 2) rfl rfl) ?_
  refine va_sld hx hb hX hbl hbA hS (vp_in_nI (by omega) (by omega)) dL_law_606 ?_
  refine sn_top (y := xs (5 * k + 2)) (congrArg xs (nI_clamp (by omega))) ?_
  refine lv_aload_n hx hb dL_law_607 rfl (lv_at hl 0 rfl) ?_
  refine lv_iload_n hx hb dL_law_608 rfl (lv_at hl 3 rfl) ?_
  refine lv_iconst (v := 3) hx hb dL_law_609 (by decide) ?_
  refine lv_iadd hx hb dL_law_610 ?_
  refine sn_top (sn_nadd (a := 5 * k) (b := 3) rfl rfl) ?_
  refine va_sld hx hb hX hbl hbA hS (vp_in_nI (by omega) (by omega)) dL_law_611 ?_
  refine sn_top (y := xs (5 * k + 3)) (congrArg xs (nI_clamp (by omega))) ?_
  refine sn_cV 3 0 hC hl (ct_X4_heat l D cI cZ cR am f g kp tp2 ly2 nb2  (xs (5 * k + 1)) (xs (5 * k + 2)) (xs (5 * k + 3))) gL_law_X4_heat rfl (by decide +kernel) rfl ⟨Nat.le_of_ble_eq_true rfl, Nat.le_of_ble_eq_true rfl⟩ ⟨by show 18 + 7 * k + 0 ≤ 600000; omega, by show 330 + 63 * k + 0 ≤ 7302250; omega⟩ (sn_P_r hP) hK hN rfl rfl rfl (Nat.le_of_ble_eq_true rfl) dL_law_612 ?_
  refine lv_icmp_eq (tgt := 755) hx hb dL_law_615 (by decide) (fun c_ => ?_) (fun c_ => absurd rfl c_)
  exact sn_tail hx hb ih (sn_Wd.mk ⟨n, hI⟩ hk0 hk1 hg0 hg1 hP hD) hS hl (by omega) (by omega)
set_option maxRecDepth 100000 in
set_option maxHeartbeats 4000000 in
theorem lc_warm {p : Program} {l : Launch} {e : Env} {s : State} {m : MethodId} {below : List Frame} {meth : Method} {c : Code} {b L : Nat} {xs : Nat → Int32} {D : va_G} {cI cZ cR : ClassId} {k o q : Nat} {H : Heap} {locs : List Loc} {ls : Array Slot} (hL : L ≤ 2560) (C0 : lw_At p s m meth c b L xs) (hK : va_K D vwCl (sn_ty cI cZ cR) s) (hN : sn_N s) (hF0 : sn_F (sn_ah s) s s.heap) (h5 : 5 * k + 5 ≤ L) (ih : sn_Hd p l e s m below meth c b D cI cZ cR (k + 1)) (hW : sn_Wd D cI cZ cR (sn_ah s) o q H) (hS : va_S (sn_ah s) s.heap H locs) (hl : lv_has ls 4 [(0, .ref b), (1, .ref o), (2, .ref q), (3, .int (nI (5 * k)))]) : W p l e room_1 s m #[Value.ref b] below meth c H locs (18 + 7 * k) (330 + 63 * k) (lw_Z below #[Value.ref b] s) (F0 m 620 ls []) := by
  obtain ⟨hx, hb, hr, hml, hown, hts0, hX, hbl, hlocks, hgv⟩ := C0
  have hts : ∀ w ∈ wsL_law, w.before #[Value.ref b] s = true := fun w h => hts0 w (wsL_law_in w h)
  have hA : ∀ q : Nat, s.heap.size ≤ q → sn_ah s q := fun _ h => h
  have hbA : ¬ sn_ah s b := Nat.not_le.mpr hbl
  have hC : CallFix p m c code 4 s #[Value.ref b] wsL_law RL := ⟨hx, hb, hml, hown, hts⟩
  obtain ⟨a, bt, am, im, f, g, kp, tp, ly, tp2, ly2, nb, nb2, b0, b1, n, hq, hI, hk0, hk1, hg0, hg1, hP, hD⟩ := hW
  subst hq
  refine lv_aload_n hx hb dL_law_620 rfl (lv_at hl 1 rfl) ?_
  refine lv_aload_n hx hb dL_law_621 rfl (lv_at hl 0 rfl) ?_
  refine lv_iload_n hx hb dL_law_622 rfl (lv_at hl 3 rfl) ?_
  refine lv_iconst (v := 1) hx hb dL_law_623 (by decide) ?_
  refine lv_iadd hx hb dL_law_624 ?_
  refine sn_top (sn_nadd (a := 5 * k) (b := 1) rfl rfl) ?_
  refine va_sld hx hb hX hbl hbA hS (vp_in_nI (by omega) (by omega)) dL_law_625 ?_
  refine sn_top (y := xs (5 * k + 1)) (congrArg xs (nI_clamp (by omega))) ?_
  refine lv_aload_n hx hb dL_law_626 rfl (lv_at hl 0 rfl) ?_
  refine lv_iload_n hx hb dL_law_627 rfl (lv_at hl 3 rfl) ?_
  refine lv_iconst (v := 2) hx hb dL_law_628 (by decide) ?_
  refine lv_iadd hx hb dL_law_629 ?_
  refine sn_top (sn_nadd (a := 5 * k) (b := 2) rfl rfl) ?_
  refine va_sld hx hb hX hbl hbA hS (vp_in_nI (by omega) (by omega)) dL_law_630 ?_
  refine sn_top (y := xs (5 * k + 2)) (congrArg xs (nI_clamp (by omega))) ?_
  refine sn_cV 2 0 hC hl (ct_X3_warm l D cI cZ cR o a bt im f  (xs (5 * k + 1)) (xs (5 * k + 2))) gL_law_X3_warm rfl (by decide +kernel) rfl ⟨Nat.le_of_ble_eq_true rfl, Nat.le_of_ble_eq_true rfl⟩ ⟨by show 18 + 7 * k + 0 ≤ 600000; omega, by show 330 + 63 * k + 0 ≤ 7302250; omega⟩ (sn_P_l (sn_P_l hP)) hK hN rfl rfl rfl (Nat.le_of_ble_eq_true rfl) dL_law_631 ?_
  refine lv_aload_n hx hb dL_law_634 rfl (lv_at hl 2 rfl) ?_
  refine lv_aload_n hx hb dL_law_635 rfl (lv_at hl 0 rfl) ?_
  refine lv_iload_n hx hb dL_law_636 rfl (lv_at hl 3 rfl) ?_
  refine lv_iconst (v := 1) hx hb dL_law_637 (by decide) ?_
  refine lv_iadd hx hb dL_law_638 ?_
  refine sn_top (sn_nadd (a := 5 * k) (b := 1) rfl rfl) ?_
  refine va_sld hx hb hX hbl hbA hS (vp_in_nI (by omega) (by omega)) dL_law_639 ?_
  refine sn_top (y := xs (5 * k + 1)) (congrArg xs (nI_clamp (by omega))) ?_
  refine lv_aload_n hx hb dL_law_640 rfl (lv_at hl 0 rfl) ?_
  refine lv_iload_n hx hb dL_law_641 rfl (lv_at hl 3 rfl) ?_
  refine lv_iconst (v := 2) hx hb dL_law_642 (by decide) ?_
  refine lv_iadd hx hb dL_law_643 ?_
  refine sn_top (sn_nadd (a := 5 * k) (b := 2) rfl rfl) ?_
  refine va_sld hx hb hX hbl hbA hS (vp_in_nI (by omega) (by omega)) dL_law_644 ?_
  refine sn_top (y := xs (5 * k + 2)) (congrArg xs (nI_clamp (by omega))) ?_
  refine sn_cV 2 0 hC hl (ct_X4_warm l D cI cZ cR am f g kp tp2 ly2 nb2  (xs (5 * k + 1)) (xs (5 * k + 2))) gL_law_X4_warm rfl (by decide +kernel) rfl ⟨Nat.le_of_ble_eq_true rfl, Nat.le_of_ble_eq_true rfl⟩ ⟨by show 18 + 7 * k + 0 ≤ 600000; omega, by show 330 + 63 * k + 0 ≤ 7302250; omega⟩ (sn_P_r hP) hK hN rfl rfl rfl (Nat.le_of_ble_eq_true rfl) dL_law_645 ?_
  refine lv_icmp_eq (tgt := 755) hx hb dL_law_648 (by decide) (fun c_ => ?_) (fun c_ => absurd rfl c_)
  exact sn_tail hx hb ih (sn_Wd.mk ⟨n, hI⟩ hk0 hk1 hg0 hg1 hP hD) hS hl (by omega) (by omega)
set_option maxRecDepth 100000 in
set_option maxHeartbeats 4000000 in
theorem lc_order {p : Program} {l : Launch} {e : Env} {s : State} {m : MethodId} {below : List Frame} {meth : Method} {c : Code} {b L : Nat} {xs : Nat → Int32} {D : va_G} {cI cZ cR : ClassId} {k o q : Nat} {H : Heap} {locs : List Loc} {ls : Array Slot} (hL : L ≤ 2560) (C0 : lw_At p s m meth c b L xs) (hK : va_K D vwCl (sn_ty cI cZ cR) s) (hN : sn_N s) (hF0 : sn_F (sn_ah s) s s.heap) (h5 : 5 * k + 5 ≤ L) (ih : sn_Hd p l e s m below meth c b D cI cZ cR (k + 1)) (hW : sn_Wd D cI cZ cR (sn_ah s) o q H) (hS : va_S (sn_ah s) s.heap H locs) (hl : lv_has ls 4 [(0, .ref b), (1, .ref o), (2, .ref q), (3, .int (nI (5 * k)))]) : W p l e room_1 s m #[Value.ref b] below meth c H locs (18 + 7 * k) (330 + 63 * k) (lw_Z below #[Value.ref b] s) (F0 m 653 ls []) := by
  obtain ⟨hx, hb, hr, hml, hown, hts0, hX, hbl, hlocks, hgv⟩ := C0
  have hts : ∀ w ∈ wsL_law, w.before #[Value.ref b] s = true := fun w h => hts0 w (wsL_law_in w h)
  have hA : ∀ q : Nat, s.heap.size ≤ q → sn_ah s q := fun _ h => h
  have hbA : ¬ sn_ah s b := Nat.not_le.mpr hbl
  have hC : CallFix p m c code 4 s #[Value.ref b] wsL_law RL := ⟨hx, hb, hml, hown, hts⟩
  obtain ⟨a, bt, am, im, f, g, kp, tp, ly, tp2, ly2, nb, nb2, b0, b1, n, hq, hI, hk0, hk1, hg0, hg1, hP, hD⟩ := hW
  subst hq
  refine lv_aload_n hx hb dL_law_653 rfl (lv_at hl 1 rfl) ?_
  refine lv_aload_n hx hb dL_law_654 rfl (lv_at hl 0 rfl) ?_
  refine lv_iload_n hx hb dL_law_655 rfl (lv_at hl 3 rfl) ?_
  refine lv_iconst (v := 1) hx hb dL_law_656 (by decide) ?_
  refine lv_iadd hx hb dL_law_657 ?_
  refine sn_top (sn_nadd (a := 5 * k) (b := 1) rfl rfl) ?_
  refine va_sld hx hb hX hbl hbA hS (vp_in_nI (by omega) (by omega)) dL_law_658 ?_
  refine sn_top (y := xs (5 * k + 1)) (congrArg xs (nI_clamp (by omega))) ?_
  refine lv_aload_n hx hb dL_law_659 rfl (lv_at hl 0 rfl) ?_
  refine lv_iload_n hx hb dL_law_660 rfl (lv_at hl 3 rfl) ?_
  refine lv_iconst (v := 2) hx hb dL_law_661 (by decide) ?_
  refine lv_iadd hx hb dL_law_662 ?_
  refine sn_top (sn_nadd (a := 5 * k) (b := 2) rfl rfl) ?_
  refine va_sld hx hb hX hbl hbA hS (vp_in_nI (by omega) (by omega)) dL_law_663 ?_
  refine sn_top (y := xs (5 * k + 2)) (congrArg xs (nI_clamp (by omega))) ?_
  refine sn_cV 2 0 hC hl (ct_X3_order l D cI cZ cR o a bt im f  (xs (5 * k + 1)) (xs (5 * k + 2))) gL_law_X3_order rfl (by decide +kernel) rfl ⟨Nat.le_of_ble_eq_true rfl, Nat.le_of_ble_eq_true rfl⟩ ⟨by show 18 + 7 * k + 0 ≤ 600000; omega, by show 330 + 63 * k + 0 ≤ 7302250; omega⟩ (sn_P_l (sn_P_l hP)) hK hN rfl rfl rfl (Nat.le_of_ble_eq_true rfl) dL_law_664 ?_
  refine lv_aload_n hx hb dL_law_667 rfl (lv_at hl 2 rfl) ?_
  refine lv_aload_n hx hb dL_law_668 rfl (lv_at hl 0 rfl) ?_
  refine lv_iload_n hx hb dL_law_669 rfl (lv_at hl 3 rfl) ?_
  refine lv_iconst (v := 1) hx hb dL_law_670 (by decide) ?_
  refine lv_iadd hx hb dL_law_671 ?_
  refine sn_top (sn_nadd (a := 5 * k) (b := 1) rfl rfl) ?_
  refine va_sld hx hb hX hbl hbA hS (vp_in_nI (by omega) (by omega)) dL_law_672 ?_
  refine sn_top (y := xs (5 * k + 1)) (congrArg xs (nI_clamp (by omega))) ?_
  refine lv_aload_n hx hb dL_law_673 rfl (lv_at hl 0 rfl) ?_
  refine lv_iload_n hx hb dL_law_674 rfl (lv_at hl 3 rfl) ?_
  refine lv_iconst (v := 2) hx hb dL_law_675 (by decide) ?_
  refine lv_iadd hx hb dL_law_676 ?_
  refine sn_top (sn_nadd (a := 5 * k) (b := 2) rfl rfl) ?_
  refine va_sld hx hb hX hbl hbA hS (vp_in_nI (by omega) (by omega)) dL_law_677 ?_
  refine sn_top (y := xs (5 * k + 2)) (congrArg xs (nI_clamp (by omega))) ?_
  refine sn_cV 2 0 hC hl (ct_X4_order l D cI cZ cR am f g kp tp2 ly2 nb2  (xs (5 * k + 1)) (xs (5 * k + 2))) gL_law_X4_order rfl (by decide +kernel) rfl ⟨Nat.le_of_ble_eq_true rfl, Nat.le_of_ble_eq_true rfl⟩ ⟨by show 18 + 7 * k + 0 ≤ 600000; omega, by show 330 + 63 * k + 0 ≤ 7302250; omega⟩ (sn_P_r hP) hK hN rfl rfl rfl (Nat.le_of_ble_eq_true rfl) dL_law_678 ?_
  refine lv_icmp_eq (tgt := 755) hx hb dL_law_681 (by decide) (fun c_ => ?_) (fun c_ => absurd rfl c_)
  exact sn_tail hx hb ih (sn_Wd.mk ⟨n, hI⟩ hk0 hk1 hg0 hg1 hP hD) hS hl (by omega) (by omega)
set_option maxRecDepth 100000 in
set_option maxHeartbeats 4000000 in
theorem lc_image {p : Program} {l : Launch} {e : Env} {s : State} {m : MethodId} {below : List Frame} {meth : Method} {c : Code} {b L : Nat} {xs : Nat → Int32} {D : va_G} {cI cZ cR : ClassId} {k o q : Nat} {H : Heap} {locs : List Loc} {ls : Array Slot} (hL : L ≤ 2560) (C0 : lw_At p s m meth c b L xs) (hK : va_K D vwCl (sn_ty cI cZ cR) s) (hN : sn_N s) (hF0 : sn_F (sn_ah s) s s.heap) (h5 : 5 * k + 5 ≤ L) (ih : sn_Hd p l e s m below meth c b D cI cZ cR (k + 1)) (hW : sn_Wd D cI cZ cR (sn_ah s) o q H) (hS : va_S (sn_ah s) s.heap H locs) (hl : lv_has ls 4 [(0, .ref b), (1, .ref o), (2, .ref q), (3, .int (nI (5 * k)))]) : W p l e room_1 s m #[Value.ref b] below meth c H locs (18 + 7 * k) (330 + 63 * k) (lw_Z below #[Value.ref b] s) (F0 m 686 ls []) := by
  obtain ⟨hx, hb, hr, hml, hown, hts0, hX, hbl, hlocks, hgv⟩ := C0
  have hts : ∀ w ∈ wsL_law, w.before #[Value.ref b] s = true := fun w h => hts0 w (wsL_law_in w h)
  have hA : ∀ q : Nat, s.heap.size ≤ q → sn_ah s q := fun _ h => h
  have hbA : ¬ sn_ah s b := Nat.not_le.mpr hbl
  have hC : CallFix p m c code 4 s #[Value.ref b] wsL_law RL := ⟨hx, hb, hml, hown, hts⟩
  obtain ⟨a, bt, am, im, f, g, kp, tp, ly, tp2, ly2, nb, nb2, b0, b1, n, hq, hI, hk0, hk1, hg0, hg1, hP, hD⟩ := hW
  subst hq
  refine lv_aload_n hx hb dL_law_686 rfl (lv_at hl 1 rfl) ?_
  refine lv_aload_n hx hb dL_law_687 rfl (lv_at hl 0 rfl) ?_
  refine lv_iload_n hx hb dL_law_688 rfl (lv_at hl 3 rfl) ?_
  refine lv_iconst (v := 1) hx hb dL_law_689 (by decide) ?_
  refine lv_iadd hx hb dL_law_690 ?_
  refine sn_top (sn_nadd (a := 5 * k) (b := 1) rfl rfl) ?_
  refine va_sld hx hb hX hbl hbA hS (vp_in_nI (by omega) (by omega)) dL_law_691 ?_
  refine sn_top (y := xs (5 * k + 1)) (congrArg xs (nI_clamp (by omega))) ?_
  refine sn_uV (w0 := []) (w := sn_wX cI cZ cR o a bt im f nb tp ly g b0 b1) (wr := sn_wM cI cZ am f g kp tp2 ly2 nb2) 1 0 hC hl (ct_X3_image l D cI cZ cR o a bt im f nb tp ly g kp b0 b1 n hI hk0 hk1 (xs (5 * k + 1)) _) gL_law_X3_image rfl (by decide +kernel) rfl ⟨Nat.le_of_ble_eq_true rfl, Nat.le_of_ble_eq_true rfl⟩ ⟨by show 18 + 7 * k + 7 ≤ 600000; omega, by show 330 + 63 * k + 63 ≤ 7302250; omega⟩ hP hD hS hA hF0 hK hN rfl rfl rfl (Nat.le_of_ble_eq_true rfl) dL_law_692 (fun u1 H locs hu1 hP hD hS => ?_)
  obtain ⟨g3, b3, b4⟩ := u1
  obtain ⟨hg3, hk3, hk4⟩ := hu1
  have hg3 : g3 = sn_Gimg f g (xs (5 * k + 1)) := hg3
  subst hg3
  have hP : va_P D vwCl (sn_wX cI cZ cR o a bt im f nb tp ly (sn_Gimg f g (xs (5 * k + 1))) b3 b4 ++ sn_wM cI cZ am f g kp tp2 ly2 nb2) H := hP
  have hD : va_D (sn_ah s) (sn_wX cI cZ cR o a bt im f nb tp ly (sn_Gimg f g (xs (5 * k + 1))) b3 b4 ++ sn_wM cI cZ am f g kp tp2 ly2 nb2) := hD
  refine lv_aload_n hx hb dL_law_695 rfl (lv_at hl 2 rfl) ?_
  refine lv_aload_n hx hb dL_law_696 rfl (lv_at hl 0 rfl) ?_
  refine lv_iload_n hx hb dL_law_697 rfl (lv_at hl 3 rfl) ?_
  refine lv_iconst (v := 1) hx hb dL_law_698 (by decide) ?_
  refine lv_iadd hx hb dL_law_699 ?_
  refine sn_top (sn_nadd (a := 5 * k) (b := 1) rfl rfl) ?_
  refine va_sld hx hb hX hbl hbA hS (vp_in_nI (by omega) (by omega)) dL_law_700 ?_
  refine sn_top (y := xs (5 * k + 1)) (congrArg xs (nI_clamp (by omega))) ?_
  refine sn_uV (w0 := sn_wX cI cZ cR o a bt im f nb tp ly (sn_Gimg f g (xs (5 * k + 1))) b3 b4) (w := sn_wM cI cZ am f g kp tp2 ly2 nb2) (wr := []) 1 0 hC hl (ct_X4_image l D cI cZ cR am f g kp tp2 ly2 nb2 (xs (5 * k + 1)) _) gL_law_X4_image rfl (by decide +kernel) rfl ⟨Nat.le_of_ble_eq_true rfl, Nat.le_of_ble_eq_true rfl⟩ ⟨by show 18 + 7 * k + 7 + 0 ≤ 600000; omega, by show 330 + 63 * k + 63 + 0 ≤ 7302250; omega⟩ hP hD hS hA hF0 hK hN rfl rfl rfl (Nat.le_of_ble_eq_true rfl) dL_law_701 (fun u2 H locs hu2 hP hD hS => ?_)
  obtain ⟨g4, kp4⟩ := u2
  obtain ⟨hg4, hkp4⟩ := hu2
  have hg4 : g4 = sn_Gimg f g (xs (5 * k + 1)) := hg4
  have hkp4 : kp4 = sn_Kimg kp (xs (5 * k + 1)) := hkp4
  subst hg4
  subst hkp4
  have hP : va_P D vwCl (sn_wX cI cZ cR o a bt im f nb tp ly (sn_Gimg f g (xs (5 * k + 1))) b3 b4 ++ sn_wM cI cZ am f (sn_Gimg f g (xs (5 * k + 1))) (sn_Kimg kp (xs (5 * k + 1))) tp2 ly2 nb2) H := hP
  have hD : va_D (sn_ah s) (sn_wX cI cZ cR o a bt im f nb tp ly (sn_Gimg f g (xs (5 * k + 1))) b3 b4 ++ sn_wM cI cZ am f (sn_Gimg f g (xs (5 * k + 1))) (sn_Kimg kp (xs (5 * k + 1))) tp2 ly2 nb2) := hD
  refine lv_icmp_eq (tgt := 755) hx hb dL_law_704 (by decide) (fun c_ => ?_) (fun c_ => absurd rfl c_)
  exact sn_tail hx hb ih (sn_Wd.mk ⟨n, hI⟩ hk3 hk4 (sn_Gok hI hg0 hg1 (xs (5 * k + 1))).1 (sn_Gok hI hg0 hg1 (xs (5 * k + 1))).2 hP hD) hS hl (by omega) (by omega)
set_option maxRecDepth 100000 in
set_option maxHeartbeats 4000000 in
theorem lc_restore {p : Program} {l : Launch} {e : Env} {s : State} {m : MethodId} {below : List Frame} {meth : Method} {c : Code} {b L : Nat} {xs : Nat → Int32} {D : va_G} {cI cZ cR : ClassId} {k o q : Nat} {H : Heap} {locs : List Loc} {ls : Array Slot} (hL : L ≤ 2560) (C0 : lw_At p s m meth c b L xs) (hK : va_K D vwCl (sn_ty cI cZ cR) s) (hN : sn_N s) (hF0 : sn_F (sn_ah s) s s.heap) (h5 : 5 * k + 5 ≤ L) (ih : sn_Hd p l e s m below meth c b D cI cZ cR (k + 1)) (hW : sn_Wd D cI cZ cR (sn_ah s) o q H) (hS : va_S (sn_ah s) s.heap H locs) (hl : lv_has ls 4 [(0, .ref b), (1, .ref o), (2, .ref q), (3, .int (nI (5 * k)))]) : W p l e room_1 s m #[Value.ref b] below meth c H locs (18 + 7 * k) (330 + 63 * k) (lw_Z below #[Value.ref b] s) (F0 m 709 ls []) := by
  obtain ⟨hx, hb, hr, hml, hown, hts0, hX, hbl, hlocks, hgv⟩ := C0
  have hts : ∀ w ∈ wsL_law, w.before #[Value.ref b] s = true := fun w h => hts0 w (wsL_law_in w h)
  have hA : ∀ q : Nat, s.heap.size ≤ q → sn_ah s q := fun _ h => h
  have hbA : ¬ sn_ah s b := Nat.not_le.mpr hbl
  have hC : CallFix p m c code 4 s #[Value.ref b] wsL_law RL := ⟨hx, hb, hml, hown, hts⟩
  obtain ⟨a, bt, am, im, f, g, kp, tp, ly, tp2, ly2, nb, nb2, b0, b1, n, hq, hI, hk0, hk1, hg0, hg1, hP, hD⟩ := hW
  subst hq
  refine lv_aload_n hx hb dL_law_709 rfl (lv_at hl 1 rfl) ?_
  refine lv_aload_n hx hb dL_law_710 rfl (lv_at hl 0 rfl) ?_
  refine lv_iload_n hx hb dL_law_711 rfl (lv_at hl 3 rfl) ?_
  refine lv_iconst (v := 1) hx hb dL_law_712 (by decide) ?_
  refine lv_iadd hx hb dL_law_713 ?_
  refine sn_top (sn_nadd (a := 5 * k) (b := 1) rfl rfl) ?_
  refine va_sld hx hb hX hbl hbA hS (vp_in_nI (by omega) (by omega)) dL_law_714 ?_
  refine sn_top (y := xs (5 * k + 1)) (congrArg xs (nI_clamp (by omega))) ?_
  refine sn_uV (w0 := []) (w := sn_wX cI cZ cR o a bt im f nb tp ly g b0 b1) (wr := sn_wM cI cZ am f g kp tp2 ly2 nb2) 1 0 hC hl (ct_X3_restore l D cI cZ cR o a bt im f nb tp ly g kp b0 b1 n hI hk0 hk1 hg0 hg1 (xs (5 * k + 1)) _) gL_law_X3_restore rfl (by decide +kernel) rfl ⟨Nat.le_of_ble_eq_true rfl, Nat.le_of_ble_eq_true rfl⟩ ⟨by show 18 + 7 * k + 0 ≤ 600000; omega, by show 330 + 63 * k + 0 ≤ 7302250; omega⟩ hP hD hS hA hF0 hK hN rfl rfl rfl (Nat.le_of_ble_eq_true rfl) dL_law_715 (fun u1 H locs hu1 hP hD hS => ?_)
  subst hu1
  have hP : va_P D vwCl (sn_wX cI cZ cR o a bt im (sn_Fres f g kp (xs (5 * k + 1))) nb tp ly g b0 b1 ++ sn_wM cI cZ am f g kp tp2 ly2 nb2) H := hP
  have hD : va_D (sn_ah s) (sn_wX cI cZ cR o a bt im (sn_Fres f g kp (xs (5 * k + 1))) nb tp ly g b0 b1 ++ sn_wM cI cZ am f g kp tp2 ly2 nb2) := hD
  refine lv_aload_n hx hb dL_law_718 rfl (lv_at hl 2 rfl) ?_
  refine lv_aload_n hx hb dL_law_719 rfl (lv_at hl 0 rfl) ?_
  refine lv_iload_n hx hb dL_law_720 rfl (lv_at hl 3 rfl) ?_
  refine lv_iconst (v := 1) hx hb dL_law_721 (by decide) ?_
  refine lv_iadd hx hb dL_law_722 ?_
  refine sn_top (sn_nadd (a := 5 * k) (b := 1) rfl rfl) ?_
  refine va_sld hx hb hX hbl hbA hS (vp_in_nI (by omega) (by omega)) dL_law_723 ?_
  refine sn_top (y := xs (5 * k + 1)) (congrArg xs (nI_clamp (by omega))) ?_
  refine sn_uV (w0 := sn_wX cI cZ cR o a bt im (sn_Fres f g kp (xs (5 * k + 1))) nb tp ly g b0 b1) (w := sn_wM cI cZ am f g kp tp2 ly2 nb2) (wr := []) 1 0 hC hl (ct_X4_restore l D cI cZ cR am f g kp tp2 ly2 nb2 (xs (5 * k + 1)) _) gL_law_X4_restore rfl (by decide +kernel) rfl ⟨Nat.le_of_ble_eq_true rfl, Nat.le_of_ble_eq_true rfl⟩ ⟨by show 18 + 7 * k + 0 ≤ 600000; omega, by show 330 + 63 * k + 0 ≤ 7302250; omega⟩ hP hD hS hA hF0 hK hN rfl rfl rfl (Nat.le_of_ble_eq_true rfl) dL_law_724 (fun u2 H locs hu2 hP hD hS => ?_)
  subst hu2
  have hP : va_P D vwCl (sn_wX cI cZ cR o a bt im (sn_Fres f g kp (xs (5 * k + 1))) nb tp ly g b0 b1 ++ sn_wM cI cZ am (sn_Fres f g kp (xs (5 * k + 1))) g kp tp2 ly2 nb2) H := hP
  have hD : va_D (sn_ah s) (sn_wX cI cZ cR o a bt im (sn_Fres f g kp (xs (5 * k + 1))) nb tp ly g b0 b1 ++ sn_wM cI cZ am (sn_Fres f g kp (xs (5 * k + 1))) g kp tp2 ly2 nb2) := hD
  refine lv_icmp_eq (tgt := 755) hx hb dL_law_727 (by decide) (fun c_ => ?_) (fun c_ => absurd rfl c_)
  exact sn_tail hx hb ih (sn_Wd.mk (sn_Ires hI hg0 hg1 (xs (5 * k + 1))) hk0 hk1 hg0 hg1 hP hD) hS hl (by omega) (by omega)
set_option maxRecDepth 100000 in
set_option maxHeartbeats 4000000 in
theorem lc_count {p : Program} {l : Launch} {e : Env} {s : State} {m : MethodId} {below : List Frame} {meth : Method} {c : Code} {b L : Nat} {xs : Nat → Int32} {D : va_G} {cI cZ cR : ClassId} {k o q : Nat} {H : Heap} {locs : List Loc} {ls : Array Slot} (hL : L ≤ 2560) (C0 : lw_At p s m meth c b L xs) (hK : va_K D vwCl (sn_ty cI cZ cR) s) (hN : sn_N s) (hF0 : sn_F (sn_ah s) s s.heap) (h5 : 5 * k + 5 ≤ L) (ih : sn_Hd p l e s m below meth c b D cI cZ cR (k + 1)) (hW : sn_Wd D cI cZ cR (sn_ah s) o q H) (hS : va_S (sn_ah s) s.heap H locs) (hl : lv_has ls 4 [(0, .ref b), (1, .ref o), (2, .ref q), (3, .int (nI (5 * k)))]) : W p l e room_1 s m #[Value.ref b] below meth c H locs (18 + 7 * k) (330 + 63 * k) (lw_Z below #[Value.ref b] s) (F0 m 732 ls []) := by
  obtain ⟨hx, hb, hr, hml, hown, hts0, hX, hbl, hlocks, hgv⟩ := C0
  have hts : ∀ w ∈ wsL_law, w.before #[Value.ref b] s = true := fun w h => hts0 w (wsL_law_in w h)
  have hA : ∀ q : Nat, s.heap.size ≤ q → sn_ah s q := fun _ h => h
  have hbA : ¬ sn_ah s b := Nat.not_le.mpr hbl
  have hC : CallFix p m c code 4 s #[Value.ref b] wsL_law RL := ⟨hx, hb, hml, hown, hts⟩
  obtain ⟨a, bt, am, im, f, g, kp, tp, ly, tp2, ly2, nb, nb2, b0, b1, n, hq, hI, hk0, hk1, hg0, hg1, hP, hD⟩ := hW
  subst hq
  refine lv_aload_n hx hb dL_law_732 rfl (lv_at hl 1 rfl) ?_
  refine lv_aload_n hx hb dL_law_733 rfl (lv_at hl 0 rfl) ?_
  refine lv_iload_n hx hb dL_law_734 rfl (lv_at hl 3 rfl) ?_
  refine lv_iconst (v := 1) hx hb dL_law_735 (by decide) ?_
  refine lv_iadd hx hb dL_law_736 ?_
  refine sn_top (sn_nadd (a := 5 * k) (b := 1) rfl rfl) ?_
  refine va_sld hx hb hX hbl hbA hS (vp_in_nI (by omega) (by omega)) dL_law_737 ?_
  refine sn_top (y := xs (5 * k + 1)) (congrArg xs (nI_clamp (by omega))) ?_
  refine sn_cV 1 0 hC hl (ct_X3_count l D cI cZ cR o a bt im f n hI (sn_og b0 b1) kp (hk0.symm.trans (sn_og_n0 b0 b1).symm) (hk1.symm.trans (sn_og_n1 b0 b1).symm) (xs (5 * k + 1))) gL_law_X3_count rfl (by decide +kernel) rfl ⟨Nat.le_of_ble_eq_true rfl, Nat.le_of_ble_eq_true rfl⟩ ⟨by show 18 + 7 * k + 0 ≤ 600000; omega, by show 330 + 63 * k + 0 ≤ 7302250; omega⟩ (va_P.app (sn_P_l (sn_P_l hP)) (sn_P_l (u := [(im, .inl (cR, 2, .inr (.inr (.inr (.inr (sn_og b0 b1))))))]) (sn_P_r (sn_P_r (sn_P_l hP))))) hK hN rfl rfl rfl (Nat.le_of_ble_eq_true rfl) dL_law_738 ?_
  refine lv_aload_n hx hb dL_law_741 rfl (lv_at hl 2 rfl) ?_
  refine lv_aload_n hx hb dL_law_742 rfl (lv_at hl 0 rfl) ?_
  refine lv_iload_n hx hb dL_law_743 rfl (lv_at hl 3 rfl) ?_
  refine lv_iconst (v := 1) hx hb dL_law_744 (by decide) ?_
  refine lv_iadd hx hb dL_law_745 ?_
  refine sn_top (sn_nadd (a := 5 * k) (b := 1) rfl rfl) ?_
  refine va_sld hx hb hX hbl hbA hS (vp_in_nI (by omega) (by omega)) dL_law_746 ?_
  refine sn_top (y := xs (5 * k + 1)) (congrArg xs (nI_clamp (by omega))) ?_
  refine sn_cV 1 0 hC hl (ct_X4_count l D cI cZ cR am f g kp tp2 ly2 nb2 n hI (xs (5 * k + 1))) gL_law_X4_count rfl (by decide +kernel) rfl ⟨Nat.le_of_ble_eq_true rfl, Nat.le_of_ble_eq_true rfl⟩ ⟨by show 18 + 7 * k + 0 ≤ 600000; omega, by show 330 + 63 * k + 0 ≤ 7302250; omega⟩ (sn_P_r hP) hK hN rfl rfl rfl (Nat.le_of_ble_eq_true rfl) dL_law_747 ?_
  refine lv_icmp_eq (tgt := 755) hx hb dL_law_750 (by decide) (fun c_ => ?_) (fun c_ => absurd rfl c_)
  exact sn_tail hx hb ih (sn_Wd.mk ⟨n, hI⟩ hk0 hk1 hg0 hg1 hP hD) hS hl (by omega) (by omega)
