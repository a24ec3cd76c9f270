/-! ===== what holds of the state goes on holding ===== -/
theorem sn_Ly_c {f g : Nat → Int32} {k : Nat} (h7 : g (7 + 5 * k) = f (7 + 5 * k)) (h8 : g (8 + 5 * k) = f (8 + 5 * k)) (h9 : g (9 + 5 * k) = f (9 + 5 * k)) (h10 : g (10 + 5 * k) = f (10 + 5 * k)) (h11 : g (11 + 5 * k) = f (11 + 5 * k)) (h : sn_Ly f k) : sn_Ly g k := by
  unfold sn_Ly
  rw [h7, h8, h9, h10, h11]
  exact h
theorem sn_toN {x : Int32} {b : Nat} (h0 : 0 ≤ x.toInt) (h1 : x.toInt ≤ b) (hb : b < 2147483648) : ∃ t : Nat, t ≤ b ∧ x = nI t :=
  ⟨x.toInt.toNat, by omega, by rw [sn_eq, nI_toInt (by omega)]; omega⟩
theorem sn_ofN {t b : Nat} (h : t ≤ b) (hb : b < 2147483648) : 0 ≤ (nI t).toInt ∧ (nI t).toInt ≤ b := by
  rw [nI_toInt (by omega)]; omega
theorem sn_mx1_N {q : Nat} (hq : q < 2147483648) : sn_mx1 (nI q) = nI (if q < 1 then 1 else q) := by
  unfold sn_mx1
  by_cases h : q < 1
  · rw [if_pos h, if_pos (show nI q < (1 : Int32) from nI_lt (b := 1) h (by decide))]; rfl
  · rw [if_neg h, if_neg (show ¬ nI q < (1 : Int32) from nI_nlt (b := 1) (by omega) hq)]
theorem sn_mn6_N {q : Nat} (hq : q < 2147483648) : sn_mn6 (nI q) = nI (if 600 < q then 600 else q) := by
  unfold sn_mn6
  by_cases h : 600 < q
  · rw [if_pos h, if_pos (show (600 : Int32) < nI q from nI_lt (a := 600) h hq)]; rfl
  · rw [if_neg h, if_neg (show ¬ (600 : Int32) < nI q from nI_nlt (a := 600) (by omega) (by decide))]
theorem sn_hd_b {h : Int32} (h0 : 0 ≤ h.toInt) (h5 : h.toInt ≤ 5) : 0 ≤ (sn_hd h).toInt ∧ (sn_hd h).toInt ≤ 5 := by
  rw [← sn_min5 h0 h5]
  have l1 : (1 : Int32).toInt = 1 := rfl
  have l5 : (5 : Int32).toInt = 5 := rfl
  have e : (h + 1).toInt = h.toInt + 1 := by rw [sn_add_toInt (by rw [l1]; omega) (by rw [l1]; omega), l1]
  by_cases c : h + 1 < (5 : Int32)
  · rw [if_pos c, e]; rw [sn_lt, e, l5] at c; omega
  · rw [if_neg c, l5]; omega
theorem sn_I_st {f : Nat → Int32} {n : Nat} (hI : sn_I f n) (hn : n < 10) {x y z u : Int32} (hx : 1 ≤ x ∧ x ≤ 200) (hy : 30 ≤ y ∧ y ≤ 600) (hz : 0 ≤ z ∧ z ≤ 4) (hu : 1 ≤ u ∧ u ≤ 5) : sn_I (sn_stF f n x y z u) (n + 1) := by
  obtain ⟨X, hX1, hX2, rfl⟩ := sn_rng (lo := 1) (hi := 200) hx (by decide)
  obtain ⟨Y, hY1, hY2, rfl⟩ := sn_rng (lo := 30) (hi := 600) hy (by decide)
  obtain ⟨Z, hZ1, hZ2, rfl⟩ := sn_rng (lo := 0) (hi := 4) hz (by decide)
  obtain ⟨V, hV1, hV2, rfl⟩ := sn_rng (lo := 1) (hi := 5) hu (by decide)
  refine ⟨pk_us, by omega, ?_, fun k hk => ?_⟩
  · have e : sn_stF f n (nI X) (nI Y) (nI Z) (nI V) 1 = f 1 := by
      unfold sn_stF
      rw [pk_un (by omega), pk_un (by omega), pk_un (by omega), pk_un (by omega), pk_un (by omega), pk_un (by omega)]
    rw [e]; exact hI.2.2.1
  · by_cases h : k = n
    · subst h
      have e7 : sn_stF f k (nI X) (nI Y) (nI Z) (nI V) (7 + 5 * k) = nI X := by
        unfold sn_stF
        rw [pk_un (by omega), pk_un (by omega), pk_un (by omega), pk_un (by omega), pk_un (by omega), pk_us]
      have e8 : sn_stF f k (nI X) (nI Y) (nI Z) (nI V) (8 + 5 * k) = nI Y := by
        unfold sn_stF
        rw [pk_un (by omega), pk_un (by omega), pk_un (by omega), pk_un (by omega), pk_us]
      have e9 : sn_stF f k (nI X) (nI Y) (nI Z) (nI V) (9 + 5 * k) = nI Z := by
        unfold sn_stF
        rw [pk_un (by omega), pk_un (by omega), pk_un (by omega), pk_us]
      have e10 : sn_stF f k (nI X) (nI Y) (nI Z) (nI V) (10 + 5 * k) = nI V := by
        unfold sn_stF
        rw [pk_un (by omega), pk_un (by omega), pk_us]
      have e11 : sn_stF f k (nI X) (nI Y) (nI Z) (nI V) (11 + 5 * k) = 0 := by
        unfold sn_stF
        rw [pk_un (by omega), pk_us]
      unfold sn_Ly
      rw [e7, e8, e9, e10, e11]
      exact ⟨sn_ofN hX2 (by decide), sn_ofN hY2 (by decide), vp_in_nI (by omega) (by decide), sn_ofN hV2 (by decide), Or.inl rfl⟩
    · refine sn_Ly_c ?_ ?_ ?_ ?_ ?_ (hI.2.2.2 k hk) <;>
        (unfold sn_stF
         rw [pk_un (by omega), pk_un (by omega), pk_un (by omega), pk_un (by omega), pk_un (by omega), pk_un (by omega)])
theorem sn_I_firm {f : Nat → Int32} {n i : Nat} (hI : sn_I f n) (hi : i < 5) (y : Int32) : sn_I (upd f (2 + i) y) n :=
  ⟨by rw [pk_un (by omega)]; exact hI.1, hI.2.1, by rw [pk_un (by omega)]; exact hI.2.2.1, fun k hk => sn_Ly_c (pk_un (by omega)) (pk_un (by omega)) (pk_un (by omega)) (pk_un (by omega)) (pk_un (by omega)) (hI.2.2.2 k hk)⟩
theorem sn_I_blow {f : Nat → Int32} {n : Nat} (hI : sn_I f n) {x : Int32} (hx : 1 ≤ x ∧ x ≤ 50) : sn_I (upd f 1 x) n := by
  refine ⟨by rw [pk_un (by omega)]; exact hI.1, hI.2.1, ?_, fun k hk => sn_Ly_c (pk_un (by omega)) (pk_un (by omega)) (pk_un (by omega)) (pk_un (by omega)) (pk_un (by omega)) (hI.2.2.2 k hk)⟩
  rw [pk_us]
  have h1 := hx.1
  have h2 := hx.2
  rw [sn_le] at h1 h2
  exact ⟨h1, h2⟩
theorem sn_I_size {f : Nat → Int32} {n k : Nat} (hI : sn_I f n) (hk : k ≤ 10) : sn_I (upd f 0 (nI k)) k :=
  ⟨pk_us, hk, by rw [pk_un (by omega)]; exact hI.2.2.1, fun j hj => sn_Ly_c (pk_un (by omega)) (pk_un (by omega)) (pk_un (by omega)) (pk_un (by omega)) (pk_un (by omega)) (hI.2.2.2 j hj)⟩
/-- three numbers of one layer are changed -/
theorem sn_I_three {f : Nat → Int32} {n i : Nat} (hI : sn_I f n) (hi : i < 10) {a b d : Int32} (ha : 0 ≤ a.toInt ∧ a.toInt ≤ 200) (hb : 0 ≤ b.toInt ∧ b.toInt ≤ 600) (hd : 0 ≤ d.toInt ∧ d.toInt ≤ 5) {g : Nat → Int32} (g7 : g (7 + 5 * i) = a) (g8 : g (8 + 5 * i) = b) (g10 : g (10 + 5 * i) = d) (go : ∀ j, j ≠ 7 + 5 * i → j ≠ 8 + 5 * i → j ≠ 10 + 5 * i → g j = f j) : sn_I g n := by
  refine ⟨by rw [go 0 (by omega) (by omega) (by omega)]; exact hI.1, hI.2.1, by rw [go 1 (by omega) (by omega) (by omega)]; exact hI.2.2.1, fun k hk => ?_⟩
  by_cases h : k = i
  · subst h
    have hL := hI.2.2.2 k hk
    unfold sn_Ly at hL ⊢
    rw [g7, g8, g10, go (9 + 5 * k) (by omega) (by omega) (by omega), go (11 + 5 * k) (by omega) (by omega) (by omega)]
    exact ⟨ha, hb, hL.2.2.1, hd, hL.2.2.2.2⟩
  · exact sn_Ly_c (go _ (by omega) (by omega) (by omega)) (go _ (by omega) (by omega) (by omega)) (go _ (by omega) (by omega) (by omega)) (go _ (by omega) (by omega) (by omega)) (go _ (by omega) (by omega) (by omega)) (hI.2.2.2 k hk)
theorem sn_I_pk {f : Nat → Int32} {n i : Nat} (hI : sn_I f n) (hi : i < 10) {x : Int32} (hx : 1 ≤ x ∧ x ≤ 200) : sn_I (sn_pkF f i x) n := by
  obtain ⟨X, hX1, hX2, rfl⟩ := sn_rng (lo := 1) (hi := 200) hx (by decide)
  obtain ⟨h7, h8, -, h10, -⟩ := hI.2.2.2 i hi
  obtain ⟨t, ht, et⟩ := sn_toN (b := 200) h7.1 h7.2 (by decide)
  obtain ⟨v, hv, ev⟩ := sn_toN (b := 600) h8.1 h8.2 (by decide)
  have e8 : sn_mn6 (f (8 + 5 * i) + nI X) = nI (if 600 < v + X then 600 else v + X) := by rw [ev, nI_add, sn_mn6_N (by omega)]
  generalize hd : (if 600 < v + X then 600 else v + X) = d at e8
  have hd1 : v ≤ d ∧ 0 < d ∧ d ≤ 600 := by rw [← hd]; split <;> omega
  have htv : t * v ≤ 200 * 600 := Nat.mul_le_mul ht hv
  have hq : t * v / d ≤ t := Nat.div_le_of_le_mul (by rw [Nat.mul_comm d t]; exact Nat.mul_le_mul (Nat.le_refl t) hd1.1)
  have e7 : sn_mx1 (f (7 + 5 * i) * f (8 + 5 * i) / sn_mn6 (f (8 + 5 * i) + nI X)) = nI (if t * v / d < 1 then 1 else t * v / d) := by
    rw [e8, et, ev, pk_mul, pk_div (by omega) hd1.2.1 (by omega), sn_mx1_N (by omega)]
  refine sn_I_three hI hi (a := sn_mx1 (f (7 + 5 * i) * f (8 + 5 * i) / sn_mn6 (f (8 + 5 * i) + nI X))) (b := sn_mn6 (f (8 + 5 * i) + nI X)) (d := sn_hd (f (10 + 5 * i))) ?_ ?_ (sn_hd_b h10.1 h10.2) ?_ ?_ ?_ ?_
  · rw [e7]; exact sn_ofN (by split <;> omega) (by decide)
  · rw [e8]; exact sn_ofN hd1.2.2 (by decide)
  · unfold sn_pkF; rw [pk_un (by omega), pk_us]
  · unfold sn_pkF; rw [pk_un (by omega), pk_un (by omega), pk_us]
  · unfold sn_pkF; rw [pk_us]
  · intro j h1 h2 h3; unfold sn_pkF; rw [pk_un h3, pk_un h1, pk_un h2]
theorem sn_I_s2 {f : Nat → Int32} {n i : Nat} (hI : sn_I f n) (hi : i < 10) {x : Int32} (hx : 1 ≤ x ∧ x ≤ 50) : sn_I (sn_s2 f i x) n := by
  obtain ⟨X, hX1, hX2, rfl⟩ := sn_rng (lo := 1) (hi := 50) hx (by decide)
  obtain ⟨h7, h8, -, h10, -⟩ := hI.2.2.2 i hi
  obtain ⟨t, ht, et⟩ := sn_toN (b := 200) h7.1 h7.2 (by decide)
  obtain ⟨v, hv, ev⟩ := sn_toN (b := 600) h8.1 h8.2 (by decide)
  have htv : t * v ≤ 200 * 600 := Nat.mul_le_mul ht hv
  have htx : t * (100 - X) ≤ t * 100 := Nat.mul_le_mul (Nat.le_refl t) (by omega)
  have hq : t * (100 - X) / 100 ≤ t := Nat.div_le_of_le_mul (by omega)
  have e7 : sn_sT f i (nI X) = nI (if t * (100 - X) / 100 < 1 then 1 else t * (100 - X) / 100) := by
    unfold sn_sT
    rw [et, show (100 : Int32) - nI X = nI (100 - X) from pk_sub (a := 100) (by omega), pk_mul, show (100 : Int32) = nI 100 from rfl, pk_div (by omega) (by decide) (by decide), sn_mx1_N (by omega)]
  generalize hT : (if t * (100 - X) / 100 < 1 then 1 else t * (100 - X) / 100) = T at e7
  have hT1 : 0 < T ∧ T ≤ 200 := by rw [← hT]; split <;> omega
  have hq2 : t * v / T ≤ t * v := Nat.div_le_self _ _
  have e8 : sn_mn6 (f (7 + 5 * i) * f (8 + 5 * i) / sn_sT f i (nI X)) = nI (if 600 < t * v / T then 600 else t * v / T) := by
    rw [e7, et, ev, pk_mul, pk_div (by omega) hT1.1 (by omega), sn_mn6_N (by omega)]
  refine sn_I_three hI hi (a := sn_sT f i (nI X)) (b := sn_mn6 (f (7 + 5 * i) * f (8 + 5 * i) / sn_sT f i (nI X))) (d := f (10 + 5 * i)) ?_ ?_ h10 ?_ ?_ ?_ ?_
  · rw [e7]; exact sn_ofN hT1.2 (by decide)
  · rw [e8]; exact sn_ofN (by split <;> omega) (by decide)
  · unfold sn_s2; rw [pk_un (by omega), pk_us]
  · unfold sn_s2; rw [pk_us]
  · unfold sn_s2; rw [pk_un (by omega), pk_un (by omega)]
  · intro j h1 h2 h3; unfold sn_s2; rw [pk_un h2, pk_un h1]
theorem sn_I_se {f : Nat → Int32} {n : Nat} (hI : sn_I f n) {x : Int32} (hx : 1 ≤ x ∧ x ≤ 50) : ∀ k, k ≤ 10 → sn_I (sn_seF f x k) n
  | 0, _ => hI
  | k + 1, h => by
    have ih := sn_I_se hI hx k (by omega)
    show sn_I (sn_s1 (sn_seF f x k) k x) n
    unfold sn_s1
    split
    · exact ih
    · exact sn_I_s2 ih (by omega) hx
theorem sn_I_f2 {f : Nat → Int32} {n i : Nat} (hI : sn_I f n) (hi : i < 10) : sn_I (sn_f2 f i) n := by
  have go : ∀ j, j ≠ 9 + 5 * i → j ≠ 10 + 5 * i → j ≠ 11 + 5 * i → sn_f2 f i j = f j := fun j h1 h2 h3 => by unfold sn_f2; rw [pk_un h3, pk_un h2, pk_un h1]
  refine ⟨by rw [go 0 (by omega) (by omega) (by omega)]; exact hI.1, hI.2.1, by rw [go 1 (by omega) (by omega) (by omega)]; exact hI.2.2.1, fun k hk => ?_⟩
  by_cases h : k = i
  · subst h
    have hL := hI.2.2.2 k hk
    have e9 : sn_f2 f k (9 + 5 * k) = 4 := by unfold sn_f2; rw [pk_un (by omega), pk_un (by omega), pk_us]
    have e10 : sn_f2 f k (10 + 5 * k) = 5 := by unfold sn_f2; rw [pk_un (by omega), pk_us]
    have e11 : sn_f2 f k (11 + 5 * k) = 0 := by unfold sn_f2; rw [pk_us]
    unfold sn_Ly at hL ⊢
    rw [e9, e10, e11, go (7 + 5 * k) (by omega) (by omega) (by omega), go (8 + 5 * k) (by omega) (by omega) (by omega)]
    exact ⟨hL.1, hL.2.1, vp_in_nI (n := 4) (by omega) (by decide), ⟨by decide, by decide⟩, Or.inl rfl⟩
  · exact sn_Ly_c (go _ (by omega) (by omega) (by omega)) (go _ (by omega) (by omega) (by omega)) (go _ (by omega) (by omega) (by omega)) (go _ (by omega) (by omega) (by omega)) (go _ (by omega) (by omega) (by omega)) (hI.2.2.2 k hk)
theorem sn_I_fr {f : Nat → Int32} {n : Nat} (hI : sn_I f n) : ∀ k, k ≤ 10 → sn_I (sn_frF f k) n
  | 0, _ => hI
  | k + 1, h => by
    have ih := sn_I_fr hI k (by omega)
    show sn_I (sn_f1 (sn_frF f k) k) n
    unfold sn_f1
    split
    · exact ih
    · exact sn_I_f2 ih (by omega)
theorem sn_I_wet {f : Nat → Int32} {n i : Nat} (hI : sn_I f n) (hi : i < 10) : sn_I (upd f (11 + 5 * i) 1) n := by
  have go : ∀ j, j ≠ 11 + 5 * i → upd f (11 + 5 * i) 1 j = f j := fun j h => pk_un h
  refine ⟨by rw [go 0 (by omega)]; exact hI.1, hI.2.1, by rw [go 1 (by omega)]; exact hI.2.2.1, fun k hk => ?_⟩
  by_cases h : k = i
  · subst h
    have hL := hI.2.2.2 k hk
    unfold sn_Ly at hL ⊢
    rw [pk_us, go (7 + 5 * k) (by omega), go (8 + 5 * k) (by omega), go (9 + 5 * k) (by omega), go (10 + 5 * k) (by omega)]
    exact ⟨hL.1, hL.2.1, hL.2.2.1, hL.2.2.2.1, Or.inr rfl⟩
  · exact sn_Ly_c (go _ (by omega)) (go _ (by omega)) (go _ (by omega)) (go _ (by omega)) (go _ (by omega)) (hI.2.2.2 k hk)
theorem sn_I_we {n : Nat} : ∀ (j : Nat) (g : Nat → Int32), j ≤ 10 → sn_I g n → sn_I (sn_weF g j) n
  | 0, g, _, hI => hI
  | j + 1, g, hj, hI => by
    show sn_I (if g (9 + 5 * j) = 4 then g else sn_weF (upd g (11 + 5 * j) 1) j) n
    split
    · exact hI
    · exact sn_I_we j _ (by omega) (sn_I_wet hI (by omega))
theorem sn_weF_0 : ∀ (j : Nat) (g : Nat → Int32), sn_weF g j 0 = g 0
  | 0, g => rfl
  | j + 1, g => by
    show (if g (9 + 5 * j) = 4 then g else sn_weF (upd g (11 + 5 * j) 1) j) 0 = g 0
    split
    · rfl
    · rw [sn_weF_0 j, pk_un (by omega)]
theorem sn_mlR_b {f : Nat → Int32} {n : Nat} (hI : sn_I f n) : ∀ (k : Nat) (r : Int32), k ≤ 10 → 0 ≤ r.toInt → 0 ≤ (sn_mlR f k r).toInt ∧ (0 < sn_mlN f k r → (sn_mlR f k r).toInt < (f (7 + 5 * (sn_mlN f k r - 1))).toInt)
  | 0, r, _, h => ⟨h, fun z => absurd z (by show ¬ 0 < 0; omega)⟩
  | k + 1, r, hk, h => by
    have h7 := (hI.2.2.2 k (by omega)).1
    by_cases c : f (7 + 5 * k) ≤ r
    · rw [show sn_mlR f (k + 1) r = sn_mlR f k (r - f (7 + 5 * k)) from if_pos c, show sn_mlN f (k + 1) r = sn_mlN f k (r - f (7 + 5 * k)) from if_pos c]
      refine sn_mlR_b hI k _ (by omega) ?_
      rw [sn_le] at c
      have hr := Int32.toInt_lt r
      rw [sn_sub_toInt (by omega) (by omega)]
      omega
    · rw [show sn_mlR f (k + 1) r = r from if_neg c, show sn_mlN f (k + 1) r = k + 1 from if_neg c]
      refine ⟨h, fun _ => ?_⟩
      rw [show k + 1 - 1 = k from rfl]
      rw [sn_le] at c
      omega
theorem sn_I_ml {f : Nat → Int32} {n : Nat} (hI : sn_I f n) {x : Int32} (hx : 1 ≤ x ∧ x ≤ 300) : sn_I (sn_mlF f n x) (sn_mlN f n x) := by
  have h1 := hx.1
  rw [sn_le, show (1 : Int32).toInt = 1 from rfl] at h1
  obtain ⟨b1, b2⟩ := sn_mlR_b hI n x hI.2.1 (by omega)
  have hle := sn_mlN_le f n x
  have hn := hI.2.1
  unfold sn_mlF sn_mlE
  split
  · rename_i e; rw [e]; exact sn_I_size hI (by omega)
  · rename_i e
    have hJ : sn_I (upd f 0 (nI (sn_mlN f n x))) (sn_mlN f n x) := sn_I_size hI (by omega)
    have h2 := b2 (by omega)
    obtain ⟨h7, h8, -, h10, -⟩ := hI.2.2.2 (sn_mlN f n x - 1) (by omega)
    refine sn_I_three hJ (i := sn_mlN f n x - 1) (by omega) (a := f (7 + 5 * (sn_mlN f n x - 1)) - sn_mlR f n x) (b := f (8 + 5 * (sn_mlN f n x - 1))) (d := f (10 + 5 * (sn_mlN f n x - 1))) ?_ h8 h10 pk_us ?_ ?_ ?_
    · rw [sn_sub_toInt (by omega) (by omega)]; omega
    · rw [pk_un (by omega), pk_un (by omega)]
    · rw [pk_un (by omega), pk_un (by omega)]
    · intro j g1 g2 g3; rw [pk_un g1]
theorem sn_mlF_0 {f : Nat → Int32} {n : Nat} (hI : sn_I f n) {x : Int32} (hx : 1 ≤ x ∧ x ≤ 300) : sn_mlF f n x 0 = nI (sn_mlN f n x) := (sn_I_ml hI hx).1
