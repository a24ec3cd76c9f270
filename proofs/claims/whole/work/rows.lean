section
-- ===== PART A: goes FIRST, ahead of the names: the tables' words, and 'selects' of the private methods out of them =====
/-- a private method of a class that the tables say can be made, by its rows of tables_1 -/
def lw_okq (q : MethodName × Nat) : Prop := (q.1.cls ≠ "java/lang/invoke/MethodHandle" ∧ q.1.cls ≠ "java/lang/invoke/VarHandle") ∧ Cond.instantiable q.1.cls q.2 ∈ tables_1 ∧ Cond.privateMethod q.1 ∈ tables_1 ∧ Cond.instanceMethod q.1 ∈ tables_1
theorem lw_p0 : lw_okq (⟨"SnowSlabs", "keptSet", "()I"⟩, 3) := ⟨⟨by decide +kernel, by decide +kernel⟩, List.mem_of_getElem? (i := 9) (by decide +kernel), List.mem_of_getElem? (i := 324) (by decide +kernel), List.mem_of_getElem? (i := 325) (by decide +kernel)⟩
theorem lw_p1 : lw_okq (⟨"SnowSlabsModel", "isLayer", "(I)Z"⟩, 6) := ⟨⟨by decide +kernel, by decide +kernel⟩, List.mem_of_getElem? (i := 328) (by decide +kernel), List.mem_of_getElem? (i := 371) (by decide +kernel), List.mem_of_getElem? (i := 372) (by decide +kernel)⟩
theorem lw_p2 : lw_okq (⟨"SnowSlabsModel", "strength", "(I)I"⟩, 6) := ⟨⟨by decide +kernel, by decide +kernel⟩, List.mem_of_getElem? (i := 328) (by decide +kernel), List.mem_of_getElem? (i := 375) (by decide +kernel), List.mem_of_getElem? (i := 376) (by decide +kernel)⟩
theorem lw_p3 : lw_okq (⟨"SnowSlabsModel", "depth", "(II)I"⟩, 6) := ⟨⟨by decide +kernel, by decide +kernel⟩, List.mem_of_getElem? (i := 328) (by decide +kernel), List.mem_of_getElem? (i := 379) (by decide +kernel), List.mem_of_getElem? (i := 380) (by decide +kernel)⟩
theorem lw_p4 : lw_okq (⟨"SnowSlabsModel", "load", "(II)I"⟩, 6) := ⟨⟨by decide +kernel, by decide +kernel⟩, List.mem_of_getElem? (i := 328) (by decide +kernel), List.mem_of_getElem? (i := 383) (by decide +kernel), List.mem_of_getElem? (i := 384) (by decide +kernel)⟩
theorem lw_p5 : lw_okq (⟨"SnowSlabsModel", "shear", "(II)I"⟩, 6) := ⟨⟨by decide +kernel, by decide +kernel⟩, List.mem_of_getElem? (i := 328) (by decide +kernel), List.mem_of_getElem? (i := 394) (by decide +kernel), List.mem_of_getElem? (i := 395) (by decide +kernel)⟩
theorem lw_p6 : lw_okq (⟨"SnowSlabsModel", "margin", "(II)I"⟩, 6) := ⟨⟨by decide +kernel, by decide +kernel⟩, List.mem_of_getElem? (i := 328) (by decide +kernel), List.mem_of_getElem? (i := 398) (by decide +kernel), List.mem_of_getElem? (i := 399) (by decide +kernel)⟩
theorem lw_p7 : lw_okq (⟨"SnowSlabsModel", "top", "()I"⟩, 6) := ⟨⟨by decide +kernel, by decide +kernel⟩, List.mem_of_getElem? (i := 328) (by decide +kernel), List.mem_of_getElem? (i := 406) (by decide +kernel), List.mem_of_getElem? (i := 407) (by decide +kernel)⟩
theorem lw_p8 : lw_okq (⟨"SnowSlabsModel", "tapAll", "(II)V"⟩, 6) := ⟨⟨by decide +kernel, by decide +kernel⟩, List.mem_of_getElem? (i := 328) (by decide +kernel), List.mem_of_getElem? (i := 418) (by decide +kernel), List.mem_of_getElem? (i := 419) (by decide +kernel)⟩
theorem lw_p9 : lw_okq (⟨"SnowSlabsModel", "broken", "(II)I"⟩, 6) := ⟨⟨by decide +kernel, by decide +kernel⟩, List.mem_of_getElem? (i := 328) (by decide +kernel), List.mem_of_getElem? (i := 425) (by decide +kernel), List.mem_of_getElem? (i := 426) (by decide +kernel)⟩
theorem lw_p10 : lw_okq (⟨"SnowSlabsModel", "press", "(III)I"⟩, 6) := ⟨⟨by decide +kernel, by decide +kernel⟩, List.mem_of_getElem? (i := 328) (by decide +kernel), List.mem_of_getElem? (i := 429) (by decide +kernel), List.mem_of_getElem? (i := 430) (by decide +kernel)⟩
theorem lw_p11 : lw_okq (⟨"SnowSlabsModel", "isClean", "(I)Z"⟩, 6) := ⟨⟨by decide +kernel, by decide +kernel⟩, List.mem_of_getElem? (i := 328) (by decide +kernel), List.mem_of_getElem? (i := 433) (by decide +kernel), List.mem_of_getElem? (i := 434) (by decide +kernel)⟩
theorem lw_p12 : lw_okq (⟨"SnowSlabsModel", "doesGo", "(III)Z"⟩, 6) := ⟨⟨by decide +kernel, by decide +kernel⟩, List.mem_of_getElem? (i := 328) (by decide +kernel), List.mem_of_getElem? (i := 445) (by decide +kernel), List.mem_of_getElem? (i := 446) (by decide +kernel)⟩
theorem lw_p13 : lw_okq (⟨"SnowSlabsModel", "settleOne", "(II)V"⟩, 6) := ⟨⟨by decide +kernel, by decide +kernel⟩, List.mem_of_getElem? (i := 328) (by decide +kernel), List.mem_of_getElem? (i := 461) (by decide +kernel), List.mem_of_getElem? (i := 462) (by decide +kernel)⟩
theorem lw_p14 : lw_okq (⟨"SnowSlabsModel", "allThick", "()I"⟩, 6) := ⟨⟨by decide +kernel, by decide +kernel⟩, List.mem_of_getElem? (i := 328) (by decide +kernel), List.mem_of_getElem? (i := 465) (by decide +kernel), List.mem_of_getElem? (i := 466) (by decide +kernel)⟩
theorem lw_p15 : lw_okq (⟨"SnowSlabsModel", "allWeight", "()I"⟩, 6) := ⟨⟨by decide +kernel, by decide +kernel⟩, List.mem_of_getElem? (i := 328) (by decide +kernel), List.mem_of_getElem? (i := 517) (by decide +kernel), List.mem_of_getElem? (i := 518) (by decide +kernel)⟩
def lw_privs_1 : List (MethodName × Nat) := [(⟨"SnowSlabs", "keptSet", "()I"⟩, 3), (⟨"SnowSlabsModel", "isLayer", "(I)Z"⟩, 6), (⟨"SnowSlabsModel", "strength", "(I)I"⟩, 6), (⟨"SnowSlabsModel", "depth", "(II)I"⟩, 6), (⟨"SnowSlabsModel", "load", "(II)I"⟩, 6), (⟨"SnowSlabsModel", "shear", "(II)I"⟩, 6), (⟨"SnowSlabsModel", "margin", "(II)I"⟩, 6), (⟨"SnowSlabsModel", "top", "()I"⟩, 6), (⟨"SnowSlabsModel", "tapAll", "(II)V"⟩, 6), (⟨"SnowSlabsModel", "broken", "(II)I"⟩, 6), (⟨"SnowSlabsModel", "press", "(III)I"⟩, 6), (⟨"SnowSlabsModel", "isClean", "(I)Z"⟩, 6), (⟨"SnowSlabsModel", "doesGo", "(III)Z"⟩, 6), (⟨"SnowSlabsModel", "settleOne", "(II)V"⟩, 6), (⟨"SnowSlabsModel", "allThick", "()I"⟩, 6), (⟨"SnowSlabsModel", "allWeight", "()I"⟩, 6)]
theorem lw_r1 : ∀ q ∈ lw_privs_1, lw_okq q := List.forall_mem_cons.mpr ⟨lw_p0, List.forall_mem_cons.mpr ⟨lw_p1, List.forall_mem_cons.mpr ⟨lw_p2, List.forall_mem_cons.mpr ⟨lw_p3, List.forall_mem_cons.mpr ⟨lw_p4, List.forall_mem_cons.mpr ⟨lw_p5, List.forall_mem_cons.mpr ⟨lw_p6, List.forall_mem_cons.mpr ⟨lw_p7, List.forall_mem_cons.mpr ⟨lw_p8, List.forall_mem_cons.mpr ⟨lw_p9, List.forall_mem_cons.mpr ⟨lw_p10, List.forall_mem_cons.mpr ⟨lw_p11, List.forall_mem_cons.mpr ⟨lw_p12, List.forall_mem_cons.mpr ⟨lw_p13, List.forall_mem_cons.mpr ⟨lw_p14, List.forall_mem_cons.mpr ⟨lw_p15, fun _ h => absurd h List.not_mem_nil⟩⟩⟩⟩⟩⟩⟩⟩⟩⟩⟩⟩⟩⟩⟩⟩
def lw_privs : List (MethodName × Nat) := lw_privs_1
def lw_tbl : List Cond := k2_sels lw_privs ++ tables_1
theorem lw_privs_ok : ∀ q ∈ lw_privs, lw_okq q := lw_r1
/-! ===== BEGIN words of one list among another's, by their places ===== -/
theorem goodIn_r {big : List Cond} (ws : List Cond) (ps : List Nat) (hp : ws = ps.filterMap (fun i => big[i]?)) (h : ws.all goodWord = true) : GoodIn big ws := by
  intro w hw
  have h1 := List.all_eq_true.mp h w hw
  rw [hp] at hw
  obtain ⟨i, -, hi⟩ := List.mem_filterMap.mp hw
  have hm : w ∈ big := by first | exact List.mem_of_getElem? hi | exact List.getElem?_mem hi
  exact ⟨hm, good_of_word h1⟩
theorem goodIn_app {big a b : List Cond} (ha : GoodIn big a) (hb : GoodIn big b) : GoodIn big (a ++ b) := fun w h => (List.mem_append.mp h).elim (ha w) (hb w)
theorem goodIn_ca {big a b : List Cond} {c : Cond} (ha : GoodIn big (c :: a)) (hb : GoodIn big b) : GoodIn big (c :: (a ++ b)) := fun w h => (List.mem_cons.mp h).elim (fun e => ha w (List.mem_cons.mpr (Or.inl e))) (fun h => (List.mem_append.mp h).elim (fun h => ha w (List.mem_cons.mpr (Or.inr h))) (hb w))
theorem goodIn_sub {big ws : List Cond} (hm : ∀ w ∈ ws, w ∈ big) (h : ws.all goodWord = true) : GoodIn big ws := fun w hw => ⟨hm w hw, good_of_word (List.all_eq_true.mp h w hw)⟩
/-! ===== END ===== -/

/-! ===== BEGIN printed: names, fields, word lists, decode rows ===== -/
def RX0 : String := "SnowSlabs$Cover"
def TX0 : u_T := fun k => match k with
  | 0 => ("SnowSlabs$Cover", "size", "I", false)
  | 1 => ("SnowSlabs$Cover", "blowWeight", "I", false)
  | 2 => ("SnowSlabs$Cover", "thick", "[I", true)
  | 3 => ("SnowSlabs$Cover", "dense", "[I", true)
  | 4 => ("SnowSlabs$Cover", "grain", "[I", true)
  | 5 => ("SnowSlabs$Cover", "hard", "[I", true)
  | 6 => ("SnowSlabs$Cover", "wet", "[Z", true)
  | _ => ("SnowSlabs$Cover", "firmness", "[I", true)
def tyX0 : Nat → FieldType := fun k => match k with
  | 0 => .int
  | 1 => .int
  | 2 => .array .int
  | 3 => .array .int
  | 4 => .array .int
  | 5 => .array .int
  | 6 => .array .boolean
  | _ => .array .int
abbrev wsX00 : List Cond := u_ws RX0 TX0 8
theorem nmX0 : ∀ a, a < 8 → ∀ b, b < 8 → a ≠ b → (TX0 a).2.1 ≠ (TX0 b).2.1 := by decide +kernel
theorem tyX0_ok : ∀ k, k < 8 → parseFieldDescriptor (TX0 k).2.2.1 = some (tyX0 k) := by decide +kernel
abbrev cX0_init : ByteArray := prog_2_method_1_code
def yX0_init : MethodName := ⟨RX0, "<init>", "()V"⟩
abbrev cX0_takeFrom : ByteArray := prog_2_method_2_code
def yX0_takeFrom : MethodName := ⟨RX0, "takeFrom", "(LSnowSlabs$Cover;)V"⟩
abbrev cX0_has : ByteArray := prog_2_method_3_code
def yX0_has : MethodName := ⟨RX0, "has", "(I)Z"⟩
abbrev cX0_addTop : ByteArray := prog_2_method_4_code
def yX0_addTop : MethodName := ⟨RX0, "addTop", "(IIII)I"⟩
abbrev cX0_strength : ByteArray := prog_2_method_5_code
def yX0_strength : MethodName := ⟨RX0, "strength", "(I)I"⟩
abbrev cX0_depth : ByteArray := prog_2_method_6_code
def yX0_depth : MethodName := ⟨RX0, "depth", "(II)I"⟩
abbrev cX0_massAbove : ByteArray := prog_2_method_7_code
def yX0_massAbove : MethodName := ⟨RX0, "massAbove", "(II)I"⟩
abbrev cX0_load : ByteArray := prog_2_method_8_code
def yX0_load : MethodName := ⟨RX0, "load", "(II)I"⟩
abbrev cX0_press : ByteArray := prog_2_method_9_code
def yX0_press : MethodName := ⟨RX0, "press", "(III)I"⟩
abbrev cX0_shear : ByteArray := prog_2_method_10_code
def yX0_shear : MethodName := ⟨RX0, "shear", "(II)I"⟩
abbrev cX0_margin : ByteArray := prog_2_method_11_code
def yX0_margin : MethodName := ⟨RX0, "margin", "(II)I"⟩
abbrev cX0_allThick : ByteArray := prog_2_method_12_code
def yX0_allThick : MethodName := ⟨RX0, "allThick", "()I"⟩
abbrev cX0_leastMargin : ByteArray := prog_2_method_13_code
def yX0_leastMargin : MethodName := ⟨RX0, "leastMargin", "(I)I"⟩
abbrev cX0_breaking : ByteArray := prog_2_method_14_code
def yX0_breaking : MethodName := ⟨RX0, "breaking", "(II)I"⟩
abbrev cX0_slabGoes : ByteArray := prog_2_method_15_code
def yX0_slabGoes : MethodName := ⟨RX0, "slabGoes", "(III)Z"⟩
abbrev cX0_going : ByteArray := prog_2_method_16_code
def yX0_going : MethodName := ⟨RX0, "going", "(II)I"⟩
abbrev cX0_packTop : ByteArray := prog_2_method_17_code
def yX0_packTop : MethodName := ⟨RX0, "packTop", "(I)I"⟩
abbrev cX0_settleAll : ByteArray := prog_2_method_18_code
def yX0_settleAll : MethodName := ⟨RX0, "settleAll", "(I)V"⟩
abbrev cX0_meltAway : ByteArray := prog_2_method_19_code
def yX0_meltAway : MethodName := ⟨RX0, "meltAway", "(I)V"⟩
abbrev cX0_wetFromTop : ByteArray := prog_2_method_20_code
def yX0_wetFromTop : MethodName := ⟨RX0, "wetFromTop", "()V"⟩
abbrev cX0_freezeWet : ByteArray := prog_2_method_21_code
def yX0_freezeWet : MethodName := ⟨RX0, "freezeWet", "()I"⟩
def RX1 : String := "SnowSlabs$Sun"
def TX1 : u_T := fun k => match k with
  | _ => ("", "", "", false)
def tyX1 : Nat → FieldType := fun k => match k with
  | _ => .int
abbrev wsX10 : List Cond := u_ws RX1 TX1 0
theorem nmX1 : ∀ a, a < 0 → ∀ b, b < 0 → a ≠ b → (TX1 a).2.1 ≠ (TX1 b).2.1 := by decide +kernel
theorem tyX1_ok : ∀ k, k < 0 → parseFieldDescriptor (TX1 k).2.2.1 = some (tyX1 k) := by decide +kernel
abbrev cX1_heatIn : ByteArray := prog_3_method_2_code
def yX1_heatIn : MethodName := ⟨RX1, "heatIn", "(II)I"⟩
abbrev cX1_heatUpTo : ByteArray := prog_3_method_3_code
def yX1_heatUpTo : MethodName := ⟨RX1, "heatUpTo", "(II)I"⟩
abbrev cX1_warmHour : ByteArray := prog_3_method_4_code
def yX1_warmHour : MethodName := ⟨RX1, "warmHour", "(II)I"⟩
abbrev cX1_warmSides : ByteArray := prog_3_method_5_code
def yX1_warmSides : MethodName := ⟨RX1, "warmSides", "(I)I"⟩
abbrev cX1_sideAtPlace : ByteArray := prog_3_method_6_code
def yX1_sideAtPlace : MethodName := ⟨RX1, "sideAtPlace", "(II)I"⟩
def RX2 : String := "SnowSlabs$TapTest"
def TX2 : u_T := fun k => match k with
  | 0 => ("SnowSlabs$TapTest", "breaks", "I", false)
  | 1 => ("SnowSlabs$TapTest", "tapOf", "[I", true)
  | _ => ("SnowSlabs$TapTest", "layerOf", "[I", true)
def tyX2 : Nat → FieldType := fun k => match k with
  | 0 => .int
  | 1 => .array .int
  | _ => .array .int
abbrev wsX20 : List Cond := u_ws RX2 TX2 3
theorem nmX2 : ∀ a, a < 3 → ∀ b, b < 3 → a ≠ b → (TX2 a).2.1 ≠ (TX2 b).2.1 := by decide +kernel
theorem tyX2_ok : ∀ k, k < 3 → parseFieldDescriptor (TX2 k).2.2.1 = some (tyX2 k) := by decide +kernel
abbrev cX2_init : ByteArray := prog_4_method_1_code
def yX2_init : MethodName := ⟨RX2, "<init>", "()V"⟩
abbrev cX2_weightOf : ByteArray := prog_4_method_2_code
def yX2_weightOf : MethodName := ⟨RX2, "weightOf", "(II)I"⟩
abbrev cX2_run : ByteArray := prog_4_method_3_code
def yX2_run : MethodName := ⟨RX2, "run", "(LSnowSlabs$Cover;)V"⟩
abbrev cX2_isClean : ByteArray := prog_4_method_4_code
def yX2_isClean : MethodName := ⟨RX2, "isClean", "(LSnowSlabs$Cover;I)Z"⟩
def RX3 : String := "SnowSlabs"
def TX3 : u_T := fun k => match k with
  | 0 => ("SnowSlabs", "cover", "LSnowSlabs$Cover;", true)
  | 1 => ("SnowSlabs", "tapTest", "LSnowSlabs$TapTest;", true)
  | _ => ("SnowSlabs", "images", "[LSnowSlabs$Cover;", true)
def tyX3 : Nat → FieldType := fun k => match k with
  | 0 => .object "SnowSlabs$Cover"
  | 1 => .object "SnowSlabs$TapTest"
  | _ => .array (.object "SnowSlabs$Cover")
abbrev wsX30 : List Cond := u_ws RX3 TX3 3
theorem nmX3 : ∀ a, a < 3 → ∀ b, b < 3 → a ≠ b → (TX3 a).2.1 ≠ (TX3 b).2.1 := by decide +kernel
theorem tyX3_ok : ∀ k, k < 3 → parseFieldDescriptor (TX3 k).2.2.1 = some (tyX3 k) := by decide +kernel
abbrev cX3_init : ByteArray := prog_1_method_1_code
def yX3_init : MethodName := ⟨RX3, "<init>", "()V"⟩
abbrev cX3_storm : ByteArray := prog_1_method_2_code
def yX3_storm : MethodName := ⟨RX3, "storm", "(IIII)I"⟩
abbrev cX3_firm : ByteArray := prog_1_method_3_code
def yX3_firm : MethodName := ⟨RX3, "firm", "(II)I"⟩
abbrev cX3_layer : ByteArray := prog_1_method_4_code
def yX3_layer : MethodName := ⟨RX3, "layer", "(II)I"⟩
abbrev cX3_slope : ByteArray := prog_1_method_5_code
def yX3_slope : MethodName := ⟨RX3, "slope", "(III)I"⟩
abbrev cX3_weakest : ByteArray := prog_1_method_6_code
def yX3_weakest : MethodName := ⟨RX3, "weakest", "(II)I"⟩
abbrev cX3_blow : ByteArray := prog_1_method_7_code
def yX3_blow : MethodName := ⟨RX3, "blow", "(I)I"⟩
abbrev cX3_taps : ByteArray := prog_1_method_8_code
def yX3_taps : MethodName := ⟨RX3, "taps", "(II)I"⟩
abbrev cX3_need : ByteArray := prog_1_method_9_code
def yX3_need : MethodName := ⟨RX3, "need", "(I)I"⟩
abbrev cX3_goes : ByteArray := prog_1_method_10_code
def yX3_goes : MethodName := ⟨RX3, "goes", "(III)I"⟩
abbrev cX3_steep : ByteArray := prog_1_method_11_code
def yX3_steep : MethodName := ⟨RX3, "steep", "(II)I"⟩
abbrev cX3_pack : ByteArray := prog_1_method_12_code
def yX3_pack : MethodName := ⟨RX3, "pack", "(I)I"⟩
abbrev cX3_settle : ByteArray := prog_1_method_13_code
def yX3_settle : MethodName := ⟨RX3, "settle", "(I)I"⟩
abbrev cX3_melt : ByteArray := prog_1_method_14_code
def yX3_melt : MethodName := ⟨RX3, "melt", "(I)I"⟩
abbrev cX3_freeze : ByteArray := prog_1_method_15_code
def yX3_freeze : MethodName := ⟨RX3, "freeze", "()I"⟩
abbrev cX3_slide : ByteArray := prog_1_method_16_code
def yX3_slide : MethodName := ⟨RX3, "slide", "()I"⟩
abbrev cX3_heat : ByteArray := prog_1_method_17_code
def yX3_heat : MethodName := ⟨RX3, "heat", "(III)I"⟩
abbrev cX3_warm : ByteArray := prog_1_method_18_code
def yX3_warm : MethodName := ⟨RX3, "warm", "(II)I"⟩
abbrev cX3_order : ByteArray := prog_1_method_19_code
def yX3_order : MethodName := ⟨RX3, "order", "(II)I"⟩
abbrev cX3_image : ByteArray := prog_1_method_20_code
def yX3_image : MethodName := ⟨RX3, "image", "(I)I"⟩
abbrev cX3_restore : ByteArray := prog_1_method_21_code
def yX3_restore : MethodName := ⟨RX3, "restore", "(I)I"⟩
abbrev cX3_count : ByteArray := prog_1_method_22_code
def yX3_count : MethodName := ⟨RX3, "count", "(I)I"⟩
abbrev cX3_keptSet : ByteArray := prog_1_method_23_code
def yX3_keptSet : MethodName := ⟨RX3, "keptSet", "()I"⟩
abbrev cX3_within : ByteArray := prog_1_method_24_code
def yX3_within : MethodName := ⟨RX3, "within", "(III)Z"⟩
abbrev cX3_cut : ByteArray := prog_1_method_25_code
def yX3_cut : MethodName := ⟨RX3, "cut", "(II)I"⟩
def RX4 : String := "SnowSlabsModel"
def TX4 : u_T := fun k => match k with
  | 0 => ("SnowSlabsModel", "state", "[I", true)
  | 1 => ("SnowSlabsModel", "images", "[I", true)
  | 2 => ("SnowSlabsModel", "isKept", "[Z", true)
  | 3 => ("SnowSlabsModel", "breakTap", "[I", true)
  | 4 => ("SnowSlabsModel", "breakLayer", "[I", true)
  | _ => ("SnowSlabsModel", "breaks", "I", false)
def tyX4 : Nat → FieldType := fun k => match k with
  | 0 => .array .int
  | 1 => .array .int
  | 2 => .array .boolean
  | 3 => .array .int
  | 4 => .array .int
  | _ => .int
abbrev wsX40 : List Cond := u_ws RX4 TX4 6
theorem nmX4 : ∀ a, a < 6 → ∀ b, b < 6 → a ≠ b → (TX4 a).2.1 ≠ (TX4 b).2.1 := by decide +kernel
theorem tyX4_ok : ∀ k, k < 6 → parseFieldDescriptor (TX4 k).2.2.1 = some (tyX4 k) := by decide +kernel
abbrev cX4_init : ByteArray := prog_6_method_1_code
def yX4_init : MethodName := ⟨RX4, "<init>", "()V"⟩
abbrev cX4_in : ByteArray := prog_6_method_2_code
def yX4_in : MethodName := ⟨RX4, "in", "(III)Z"⟩
abbrev cX4_isLayer : ByteArray := prog_6_method_3_code
def yX4_isLayer : MethodName := ⟨RX4, "isLayer", "(I)Z"⟩
abbrev cX4_at : ByteArray := prog_6_method_4_code
def yX4_at : MethodName := ⟨RX4, "at", "(II)I"⟩
abbrev cX4_top : ByteArray := prog_6_method_5_code
def yX4_top : MethodName := ⟨RX4, "top", "()I"⟩
abbrev cX4_storm : ByteArray := prog_6_method_6_code
def yX4_storm : MethodName := ⟨RX4, "storm", "(IIII)I"⟩
abbrev cX4_firm : ByteArray := prog_6_method_7_code
def yX4_firm : MethodName := ⟨RX4, "firm", "(II)I"⟩
abbrev cX4_strength : ByteArray := prog_6_method_8_code
def yX4_strength : MethodName := ⟨RX4, "strength", "(I)I"⟩
abbrev cX4_depth : ByteArray := prog_6_method_9_code
def yX4_depth : MethodName := ⟨RX4, "depth", "(II)I"⟩
abbrev cX4_load : ByteArray := prog_6_method_10_code
def yX4_load : MethodName := ⟨RX4, "load", "(II)I"⟩
abbrev cX4_shear : ByteArray := prog_6_method_11_code
def yX4_shear : MethodName := ⟨RX4, "shear", "(II)I"⟩
abbrev cX4_margin : ByteArray := prog_6_method_12_code
def yX4_margin : MethodName := ⟨RX4, "margin", "(II)I"⟩
abbrev cX4_press : ByteArray := prog_6_method_13_code
def yX4_press : MethodName := ⟨RX4, "press", "(III)I"⟩
abbrev cX4_layer : ByteArray := prog_6_method_14_code
def yX4_layer : MethodName := ⟨RX4, "layer", "(II)I"⟩
abbrev cX4_isSteep : ByteArray := prog_6_method_15_code
def yX4_isSteep : MethodName := ⟨RX4, "isSteep", "(I)Z"⟩
abbrev cX4_slope : ByteArray := prog_6_method_16_code
def yX4_slope : MethodName := ⟨RX4, "slope", "(III)I"⟩
abbrev cX4_weakest : ByteArray := prog_6_method_17_code
def yX4_weakest : MethodName := ⟨RX4, "weakest", "(II)I"⟩
abbrev cX4_blow : ByteArray := prog_6_method_18_code
def yX4_blow : MethodName := ⟨RX4, "blow", "(I)I"⟩
abbrev cX4_weightOf : ByteArray := prog_6_method_19_code
def yX4_weightOf : MethodName := ⟨RX4, "weightOf", "(II)I"⟩
abbrev cX4_broken : ByteArray := prog_6_method_20_code
def yX4_broken : MethodName := ⟨RX4, "broken", "(II)I"⟩
abbrev cX4_tapAll : ByteArray := prog_6_method_21_code
def yX4_tapAll : MethodName := ⟨RX4, "tapAll", "(II)V"⟩
abbrev cX4_isClean : ByteArray := prog_6_method_22_code
def yX4_isClean : MethodName := ⟨RX4, "isClean", "(I)Z"⟩
abbrev cX4_taps : ByteArray := prog_6_method_23_code
def yX4_taps : MethodName := ⟨RX4, "taps", "(II)I"⟩
abbrev cX4_need : ByteArray := prog_6_method_24_code
def yX4_need : MethodName := ⟨RX4, "need", "(I)I"⟩
abbrev cX4_doesGo : ByteArray := prog_6_method_25_code
def yX4_doesGo : MethodName := ⟨RX4, "doesGo", "(III)Z"⟩
abbrev cX4_goes : ByteArray := prog_6_method_26_code
def yX4_goes : MethodName := ⟨RX4, "goes", "(III)I"⟩
abbrev cX4_steep : ByteArray := prog_6_method_27_code
def yX4_steep : MethodName := ⟨RX4, "steep", "(II)I"⟩
abbrev cX4_pack : ByteArray := prog_6_method_28_code
def yX4_pack : MethodName := ⟨RX4, "pack", "(I)I"⟩
abbrev cX4_allThick : ByteArray := prog_6_method_29_code
def yX4_allThick : MethodName := ⟨RX4, "allThick", "()I"⟩
abbrev cX4_settleOne : ByteArray := prog_6_method_30_code
def yX4_settleOne : MethodName := ⟨RX4, "settleOne", "(II)V"⟩
abbrev cX4_settle : ByteArray := prog_6_method_31_code
def yX4_settle : MethodName := ⟨RX4, "settle", "(I)I"⟩
abbrev cX4_melt : ByteArray := prog_6_method_32_code
def yX4_melt : MethodName := ⟨RX4, "melt", "(I)I"⟩
abbrev cX4_freeze : ByteArray := prog_6_method_33_code
def yX4_freeze : MethodName := ⟨RX4, "freeze", "()I"⟩
abbrev cX4_slide : ByteArray := prog_6_method_34_code
def yX4_slide : MethodName := ⟨RX4, "slide", "()I"⟩
abbrev cX4_heatIn : ByteArray := prog_6_method_35_code
def yX4_heatIn : MethodName := ⟨RX4, "heatIn", "(II)I"⟩
abbrev cX4_heatTill : ByteArray := prog_6_method_36_code
def yX4_heatTill : MethodName := ⟨RX4, "heatTill", "(II)I"⟩
abbrev cX4_isSide : ByteArray := prog_6_method_37_code
def yX4_isSide : MethodName := ⟨RX4, "isSide", "(I)Z"⟩
abbrev cX4_heat : ByteArray := prog_6_method_38_code
def yX4_heat : MethodName := ⟨RX4, "heat", "(III)I"⟩
abbrev cX4_warmHour : ByteArray := prog_6_method_39_code
def yX4_warmHour : MethodName := ⟨RX4, "warmHour", "(II)I"⟩
abbrev cX4_warm : ByteArray := prog_6_method_40_code
def yX4_warm : MethodName := ⟨RX4, "warm", "(II)I"⟩
abbrev cX4_order : ByteArray := prog_6_method_41_code
def yX4_order : MethodName := ⟨RX4, "order", "(II)I"⟩
abbrev cX4_image : ByteArray := prog_6_method_42_code
def yX4_image : MethodName := ⟨RX4, "image", "(I)I"⟩
abbrev cX4_restore : ByteArray := prog_6_method_43_code
def yX4_restore : MethodName := ⟨RX4, "restore", "(I)I"⟩
abbrev cX4_allWeight : ByteArray := prog_6_method_44_code
def yX4_allWeight : MethodName := ⟨RX4, "allWeight", "()I"⟩
abbrev cX4_count : ByteArray := prog_6_method_45_code
def yX4_count : MethodName := ⟨RX4, "count", "(I)I"⟩
def RJx8e188 : String := "java/lang/Cloneable"
def TJx8e188 : u_T := fun k => match k with
  | _ => ("", "", "", false)
def tyJx8e188 : Nat → FieldType := fun k => match k with
  | _ => .int
abbrev wsJx8e1880 : List Cond := u_ws RJx8e188 TJx8e188 0
theorem nmJx8e188 : ∀ a, a < 0 → ∀ b, b < 0 → a ≠ b → (TJx8e188 a).2.1 ≠ (TJx8e188 b).2.1 := by decide +kernel
theorem tyJx8e188_ok : ∀ k, k < 0 → parseFieldDescriptor (TJx8e188 k).2.2.1 = some (tyJx8e188 k) := by decide +kernel
def RJ9 : String := "java/lang/Math"
def TJ9 : u_T := fun k => match k with
  | _ => ("", "", "", false)
def tyJ9 : Nat → FieldType := fun k => match k with
  | _ => .int
abbrev wsJ90 : List Cond := u_ws RJ9 TJ9 0
theorem nmJ9 : ∀ a, a < 0 → ∀ b, b < 0 → a ≠ b → (TJ9 a).2.1 ≠ (TJ9 b).2.1 := by decide +kernel
theorem tyJ9_ok : ∀ k, k < 0 → parseFieldDescriptor (TJ9 k).2.2.1 = some (tyJ9 k) := by decide +kernel
abbrev cJ9_abs_0f7a4 : ByteArray := prog_8_method_59_code
def yJ9_abs_0f7a4 : MethodName := ⟨RJ9, "abs", "(I)I"⟩
abbrev cJ9_max_7cf53 : ByteArray := prog_8_method_65_code
def yJ9_max_7cf53 : MethodName := ⟨RJ9, "max", "(II)I"⟩
abbrev cJ9_min_7cf53 : ByteArray := prog_8_method_69_code
def yJ9_min_7cf53 : MethodName := ⟨RJ9, "min", "(II)I"⟩
def RJ10 : String := "java/lang/System"
def TJ10 : u_T := fun k => match k with
  | _ => ("", "", "", false)
def tyJ10 : Nat → FieldType := fun k => match k with
  | _ => .int
abbrev wsJ100 : List Cond := u_ws RJ10 TJ10 0
theorem nmJ10 : ∀ a, a < 0 → ∀ b, b < 0 → a ≠ b → (TJ10 a).2.1 ≠ (TJ10 b).2.1 := by decide +kernel
theorem tyJ10_ok : ∀ k, k < 0 → parseFieldDescriptor (TJ10 k).2.2.1 = some (tyJ10 k) := by decide +kernel
def RL : String := "SnowSlabsLaw"
abbrev cL_law : ByteArray := code
def yL_law : MethodName := ⟨RL, "law", "([I)Z"⟩
def wsX0_init : List Cond := .code yX0_init cX0_init 1 none :: ([.methodLink RX0 3 objectInit, .instanceMethod objectInit, .code objectInit ⟨#[0xb1]⟩ 1 none, .fieldLink RX0 9 "SnowSlabs$Cover" "size" "I", .fieldLink RX0 15 "SnowSlabs$Cover" "blowWeight" "I", .arrayClass .int, .fieldLink RX0 18 "SnowSlabs$Cover" "thick" "[I", .fieldLink RX0 22 "SnowSlabs$Cover" "dense" "[I", .fieldLink RX0 25 "SnowSlabs$Cover" "grain" "[I", .fieldLink RX0 28 "SnowSlabs$Cover" "hard" "[I", .arrayClass .boolean, .fieldLink RX0 31 "SnowSlabs$Cover" "wet" "[Z", .methodLink RX0 38 ⟨"[I", "clone", "()Ljava/lang/Object;"⟩, .sameMethod "[I" "java/lang/Object" "clone" "()Ljava/lang/Object;", .native ⟨"java/lang/Object", "clone", "()Ljava/lang/Object;"⟩, .instanceMethod ⟨"java/lang/Object", "clone", "()Ljava/lang/Object;"⟩, .selects "[I" ⟨"[I", "clone", "()Ljava/lang/Object;"⟩ ⟨"java/lang/Object", "clone", "()Ljava/lang/Object;"⟩, .classLink RX0 39 "[I", .fieldLink RX0 43 "SnowSlabs$Cover" "firmness" "[I"] ++ wsX00)
def wsX0_takeFrom : List Cond := .code yX0_takeFrom cX0_takeFrom 2 none :: ([.fieldLink RX0 9 "SnowSlabs$Cover" "size" "I", .fieldLink RX0 15 "SnowSlabs$Cover" "blowWeight" "I", .fieldLink RX0 18 "SnowSlabs$Cover" "thick" "[I", .methodLink RX0 46 arraycopyName, .native arraycopyName, .static arraycopyName, .initialized "java/lang/System", .fieldLink RX0 22 "SnowSlabs$Cover" "dense" "[I", .fieldLink RX0 25 "SnowSlabs$Cover" "grain" "[I", .fieldLink RX0 28 "SnowSlabs$Cover" "hard" "[I", .fieldLink RX0 31 "SnowSlabs$Cover" "wet" "[Z", .fieldLink RX0 43 "SnowSlabs$Cover" "firmness" "[I"] ++ wsX00)
def wsX3_within : List Cond := .code yX3_within cX3_within 3 (some .boolean) :: ([])
def wsX0_has : List Cond := .code yX0_has cX0_has 2 (some .boolean) :: ([.fieldLink RX0 9 "SnowSlabs$Cover" "size" "I", .static yX3_within, .initialized RX3, .code yX3_within cX3_within 3 (some .boolean)] ++ wsX00)
def wsX0_addTop : List Cond := .code yX0_addTop cX0_addTop 6 (some .int) :: ([.fieldLink RX0 9 "SnowSlabs$Cover" "size" "I", .fieldLink RX0 18 "SnowSlabs$Cover" "thick" "[I", .fieldLink RX0 22 "SnowSlabs$Cover" "dense" "[I", .fieldLink RX0 25 "SnowSlabs$Cover" "grain" "[I", .fieldLink RX0 28 "SnowSlabs$Cover" "hard" "[I", .fieldLink RX0 31 "SnowSlabs$Cover" "wet" "[Z"] ++ wsX00)
def wsX0_strength : List Cond := .code yX0_strength cX0_strength 3 (some .int) :: ([.fieldLink RX0 43 "SnowSlabs$Cover" "firmness" "[I", .fieldLink RX0 25 "SnowSlabs$Cover" "grain" "[I", .fieldLink RX0 28 "SnowSlabs$Cover" "hard" "[I", .fieldLink RX0 22 "SnowSlabs$Cover" "dense" "[I", .fieldLink RX0 31 "SnowSlabs$Cover" "wet" "[Z"] ++ wsX00)
def wsX0_depth : List Cond := .code yX0_depth cX0_depth 5 (some .int) :: ([.fieldLink RX0 18 "SnowSlabs$Cover" "thick" "[I"] ++ wsX00)
def wsX0_massAbove : List Cond := .code yX0_massAbove cX0_massAbove 5 (some .int) :: ([.fieldLink RX0 18 "SnowSlabs$Cover" "thick" "[I", .fieldLink RX0 22 "SnowSlabs$Cover" "dense" "[I"] ++ wsX00)
def wsX0_load : List Cond := .code yX0_load cX0_load 3 (some .int) :: ([.methodLink RX0 56 yX0_massAbove, .instanceMethod yX0_massAbove, .selects RX0 yX0_massAbove yX0_massAbove, .initialized RX0, .code yX0_massAbove cX0_massAbove 5 (some .int), .fieldLink RX0 18 "SnowSlabs$Cover" "thick" "[I", .fieldLink RX0 22 "SnowSlabs$Cover" "dense" "[I"] ++ wsX00)
def wsX3_cut : List Cond := .code yX3_cut cX3_cut 2 (some .int) :: ([])
def wsX0_press : List Cond := .code yX0_press cX0_press 4 (some .int) :: ([.methodLink RX0 60 yX0_depth, .instanceMethod yX0_depth, .selects RX0 yX0_depth yX0_depth, .initialized RX0, .code yX0_depth cX0_depth 5 (some .int), .fieldLink RX0 18 "SnowSlabs$Cover" "thick" "[I", .static yX3_cut, .initialized RX3, .code yX3_cut cX3_cut 2 (some .int)] ++ wsX00)
def wsX0_shear : List Cond := .code yX0_shear cX0_shear 3 (some .int) :: ([.fieldLink RX0 9 "SnowSlabs$Cover" "size" "I", .methodLink RX0 66 yX0_load, .instanceMethod yX0_load, .selects RX0 yX0_load yX0_load, .initialized RX0, .code yX0_load cX0_load 3 (some .int), .methodLink RX0 56 yX0_massAbove, .instanceMethod yX0_massAbove, .selects RX0 yX0_massAbove yX0_massAbove, .code yX0_massAbove cX0_massAbove 5 (some .int), .fieldLink RX0 18 "SnowSlabs$Cover" "thick" "[I", .fieldLink RX0 22 "SnowSlabs$Cover" "dense" "[I"] ++ wsX00)
def wsX0_margin : List Cond := .code yX0_margin cX0_margin 4 (some .int) :: ([.methodLink RX0 69 yX0_shear, .instanceMethod yX0_shear, .selects RX0 yX0_shear yX0_shear, .initialized RX0, .code yX0_shear cX0_shear 3 (some .int), .fieldLink RX0 9 "SnowSlabs$Cover" "size" "I", .methodLink RX0 66 yX0_load, .instanceMethod yX0_load, .selects RX0 yX0_load yX0_load, .code yX0_load cX0_load 3 (some .int), .methodLink RX0 56 yX0_massAbove, .instanceMethod yX0_massAbove, .selects RX0 yX0_massAbove yX0_massAbove, .code yX0_massAbove cX0_massAbove 5 (some .int), .fieldLink RX0 18 "SnowSlabs$Cover" "thick" "[I", .fieldLink RX0 22 "SnowSlabs$Cover" "dense" "[I", .methodLink RX0 72 yX0_strength, .instanceMethod yX0_strength, .selects RX0 yX0_strength yX0_strength, .code yX0_strength cX0_strength 3 (some .int), .fieldLink RX0 43 "SnowSlabs$Cover" "firmness" "[I", .fieldLink RX0 25 "SnowSlabs$Cover" "grain" "[I", .fieldLink RX0 28 "SnowSlabs$Cover" "hard" "[I", .fieldLink RX0 31 "SnowSlabs$Cover" "wet" "[Z"] ++ wsX00)
def wsX0_allThick : List Cond := .code yX0_allThick cX0_allThick 1 (some .int) :: ([.fieldLink RX0 9 "SnowSlabs$Cover" "size" "I", .methodLink RX0 60 yX0_depth, .instanceMethod yX0_depth, .selects RX0 yX0_depth yX0_depth, .initialized RX0, .code yX0_depth cX0_depth 5 (some .int), .fieldLink RX0 18 "SnowSlabs$Cover" "thick" "[I"] ++ wsX00)
def wsX0_leastMargin_r1 : List Cond := [Cond.fieldLink RX0 9 "SnowSlabs$Cover" "size" "I", Cond.methodLink RX0 76 yX0_margin, Cond.instanceMethod yX0_margin, Cond.selects RX0 yX0_margin yX0_margin, Cond.initialized RX0, Cond.code yX0_margin cX0_margin 4 (some .int), Cond.methodLink RX0 69 yX0_shear, Cond.instanceMethod yX0_shear, Cond.selects RX0 yX0_shear yX0_shear, Cond.code yX0_shear cX0_shear 3 (some .int), Cond.methodLink RX0 66 yX0_load, Cond.instanceMethod yX0_load, Cond.selects RX0 yX0_load yX0_load, Cond.code yX0_load cX0_load 3 (some .int), Cond.methodLink RX0 56 yX0_massAbove, Cond.instanceMethod yX0_massAbove, Cond.selects RX0 yX0_massAbove yX0_massAbove, Cond.code yX0_massAbove cX0_massAbove 5 (some .int), Cond.fieldLink RX0 18 "SnowSlabs$Cover" "thick" "[I", Cond.fieldLink RX0 22 "SnowSlabs$Cover" "dense" "[I", Cond.methodLink RX0 72 yX0_strength, Cond.instanceMethod yX0_strength, Cond.selects RX0 yX0_strength yX0_strength, Cond.code yX0_strength cX0_strength 3 (some .int)]
def wsX0_leastMargin_r2 : List Cond := [Cond.fieldLink RX0 43 "SnowSlabs$Cover" "firmness" "[I", Cond.fieldLink RX0 25 "SnowSlabs$Cover" "grain" "[I", Cond.fieldLink RX0 28 "SnowSlabs$Cover" "hard" "[I", Cond.fieldLink RX0 31 "SnowSlabs$Cover" "wet" "[Z"]
def wsX0_leastMargin : List Cond := .code yX0_leastMargin cX0_leastMargin 6 (some .int) :: ((wsX0_leastMargin_r1 ++ wsX0_leastMargin_r2) ++ wsX00)
def wsX0_breaking_r1 : List Cond := [Cond.methodLink RX0 66 yX0_load, Cond.instanceMethod yX0_load, Cond.selects RX0 yX0_load yX0_load, Cond.initialized RX0, Cond.code yX0_load cX0_load 3 (some .int), Cond.methodLink RX0 56 yX0_massAbove, Cond.instanceMethod yX0_massAbove, Cond.selects RX0 yX0_massAbove yX0_massAbove, Cond.code yX0_massAbove cX0_massAbove 5 (some .int), Cond.fieldLink RX0 18 "SnowSlabs$Cover" "thick" "[I", Cond.fieldLink RX0 22 "SnowSlabs$Cover" "dense" "[I", Cond.methodLink RX0 79 yX0_press, Cond.instanceMethod yX0_press, Cond.selects RX0 yX0_press yX0_press, Cond.code yX0_press cX0_press 4 (some .int), Cond.methodLink RX0 60 yX0_depth, Cond.instanceMethod yX0_depth, Cond.selects RX0 yX0_depth yX0_depth, Cond.code yX0_depth cX0_depth 5 (some .int), Cond.static yX3_cut, Cond.initialized RX3, Cond.code yX3_cut cX3_cut 2 (some .int), Cond.methodLink RX0 72 yX0_strength, Cond.instanceMethod yX0_strength]
def wsX0_breaking_r2 : List Cond := [Cond.selects RX0 yX0_strength yX0_strength, Cond.code yX0_strength cX0_strength 3 (some .int), Cond.fieldLink RX0 43 "SnowSlabs$Cover" "firmness" "[I", Cond.fieldLink RX0 25 "SnowSlabs$Cover" "grain" "[I", Cond.fieldLink RX0 28 "SnowSlabs$Cover" "hard" "[I", Cond.fieldLink RX0 31 "SnowSlabs$Cover" "wet" "[Z"]
def wsX0_breaking : List Cond := .code yX0_breaking cX0_breaking 4 (some .int) :: ((wsX0_breaking_r1 ++ wsX0_breaking_r2) ++ wsX00)
def wsX0_slabGoes_r1 : List Cond := [Cond.fieldLink RX0 9 "SnowSlabs$Cover" "size" "I", Cond.methodLink RX0 69 yX0_shear, Cond.instanceMethod yX0_shear, Cond.selects RX0 yX0_shear yX0_shear, Cond.initialized RX0, Cond.code yX0_shear cX0_shear 3 (some .int), Cond.methodLink RX0 66 yX0_load, Cond.instanceMethod yX0_load, Cond.selects RX0 yX0_load yX0_load, Cond.code yX0_load cX0_load 3 (some .int), Cond.methodLink RX0 56 yX0_massAbove, Cond.instanceMethod yX0_massAbove, Cond.selects RX0 yX0_massAbove yX0_massAbove, Cond.code yX0_massAbove cX0_massAbove 5 (some .int), Cond.fieldLink RX0 18 "SnowSlabs$Cover" "thick" "[I", Cond.fieldLink RX0 22 "SnowSlabs$Cover" "dense" "[I", Cond.methodLink RX0 79 yX0_press, Cond.instanceMethod yX0_press, Cond.selects RX0 yX0_press yX0_press, Cond.code yX0_press cX0_press 4 (some .int), Cond.methodLink RX0 60 yX0_depth, Cond.instanceMethod yX0_depth, Cond.selects RX0 yX0_depth yX0_depth, Cond.code yX0_depth cX0_depth 5 (some .int)]
def wsX0_slabGoes_r2 : List Cond := [Cond.static yX3_cut, Cond.initialized RX3, Cond.code yX3_cut cX3_cut 2 (some .int), Cond.methodLink RX0 72 yX0_strength, Cond.instanceMethod yX0_strength, Cond.selects RX0 yX0_strength yX0_strength, Cond.code yX0_strength cX0_strength 3 (some .int), Cond.fieldLink RX0 43 "SnowSlabs$Cover" "firmness" "[I", Cond.fieldLink RX0 25 "SnowSlabs$Cover" "grain" "[I", Cond.fieldLink RX0 28 "SnowSlabs$Cover" "hard" "[I", Cond.fieldLink RX0 31 "SnowSlabs$Cover" "wet" "[Z"]
def wsX0_slabGoes : List Cond := .code yX0_slabGoes cX0_slabGoes 4 (some .boolean) :: ((wsX0_slabGoes_r1 ++ wsX0_slabGoes_r2) ++ wsX00)
def wsX0_going_r1 : List Cond := [Cond.fieldLink RX0 9 "SnowSlabs$Cover" "size" "I", Cond.methodLink RX0 83 yX0_slabGoes, Cond.instanceMethod yX0_slabGoes, Cond.selects RX0 yX0_slabGoes yX0_slabGoes, Cond.initialized RX0, Cond.code yX0_slabGoes cX0_slabGoes 4 (some .boolean), Cond.methodLink RX0 69 yX0_shear, Cond.instanceMethod yX0_shear, Cond.selects RX0 yX0_shear yX0_shear, Cond.code yX0_shear cX0_shear 3 (some .int), Cond.methodLink RX0 66 yX0_load, Cond.instanceMethod yX0_load, Cond.selects RX0 yX0_load yX0_load, Cond.code yX0_load cX0_load 3 (some .int), Cond.methodLink RX0 56 yX0_massAbove, Cond.instanceMethod yX0_massAbove, Cond.selects RX0 yX0_massAbove yX0_massAbove, Cond.code yX0_massAbove cX0_massAbove 5 (some .int), Cond.fieldLink RX0 18 "SnowSlabs$Cover" "thick" "[I", Cond.fieldLink RX0 22 "SnowSlabs$Cover" "dense" "[I", Cond.methodLink RX0 79 yX0_press, Cond.instanceMethod yX0_press, Cond.selects RX0 yX0_press yX0_press, Cond.code yX0_press cX0_press 4 (some .int)]
def wsX0_going_r2 : List Cond := [Cond.methodLink RX0 60 yX0_depth, Cond.instanceMethod yX0_depth, Cond.selects RX0 yX0_depth yX0_depth, Cond.code yX0_depth cX0_depth 5 (some .int), Cond.static yX3_cut, Cond.initialized RX3, Cond.code yX3_cut cX3_cut 2 (some .int), Cond.methodLink RX0 72 yX0_strength, Cond.instanceMethod yX0_strength, Cond.selects RX0 yX0_strength yX0_strength, Cond.code yX0_strength cX0_strength 3 (some .int), Cond.fieldLink RX0 43 "SnowSlabs$Cover" "firmness" "[I", Cond.fieldLink RX0 25 "SnowSlabs$Cover" "grain" "[I", Cond.fieldLink RX0 28 "SnowSlabs$Cover" "hard" "[I", Cond.fieldLink RX0 31 "SnowSlabs$Cover" "wet" "[Z"]
def wsX0_going : List Cond := .code yX0_going cX0_going 4 (some .int) :: ((wsX0_going_r1 ++ wsX0_going_r2) ++ wsX00)
def wsX0_packTop : List Cond := .code yX0_packTop cX0_packTop 4 (some .int) :: ([.fieldLink RX0 9 "SnowSlabs$Cover" "size" "I", .fieldLink RX0 22 "SnowSlabs$Cover" "dense" "[I", .methodLink RX0 86 Lib.Math.min.name, .static Lib.Math.min.name, .initialized "java/lang/Math", .code Lib.Math.min.name Lib.Math.min.code 2 (some .int), .fieldLink RX0 18 "SnowSlabs$Cover" "thick" "[I", .methodLink RX0 91 Lib.Math.max.name, .static Lib.Math.max.name, .code Lib.Math.max.name Lib.Math.max.code 2 (some .int), .fieldLink RX0 28 "SnowSlabs$Cover" "hard" "[I", .static yX3_cut, .initialized RX3, .code yX3_cut cX3_cut 2 (some .int)] ++ wsX00)
def wsX0_settleAll : List Cond := .code yX0_settleAll cX0_settleAll 4 none :: ([.fieldLink RX0 9 "SnowSlabs$Cover" "size" "I", .fieldLink RX0 25 "SnowSlabs$Cover" "grain" "[I", .fieldLink RX0 18 "SnowSlabs$Cover" "thick" "[I", .fieldLink RX0 22 "SnowSlabs$Cover" "dense" "[I", .methodLink RX0 91 Lib.Math.max.name, .static Lib.Math.max.name, .initialized "java/lang/Math", .code Lib.Math.max.name Lib.Math.max.code 2 (some .int), .methodLink RX0 86 Lib.Math.min.name, .static Lib.Math.min.name, .code Lib.Math.min.name Lib.Math.min.code 2 (some .int), .static yX3_cut, .initialized RX3, .code yX3_cut cX3_cut 2 (some .int)] ++ wsX00)
def wsX0_meltAway : List Cond := .code yX0_meltAway cX0_meltAway 3 none :: ([.fieldLink RX0 9 "SnowSlabs$Cover" "size" "I", .fieldLink RX0 18 "SnowSlabs$Cover" "thick" "[I"] ++ wsX00)
def wsX0_wetFromTop : List Cond := .code yX0_wetFromTop cX0_wetFromTop 2 none :: ([.fieldLink RX0 9 "SnowSlabs$Cover" "size" "I", .fieldLink RX0 25 "SnowSlabs$Cover" "grain" "[I", .fieldLink RX0 31 "SnowSlabs$Cover" "wet" "[Z"] ++ wsX00)
def wsX0_freezeWet : List Cond := .code yX0_freezeWet cX0_freezeWet 3 (some .int) :: ([.fieldLink RX0 9 "SnowSlabs$Cover" "size" "I", .fieldLink RX0 31 "SnowSlabs$Cover" "wet" "[Z", .fieldLink RX0 25 "SnowSlabs$Cover" "grain" "[I", .fieldLink RX0 28 "SnowSlabs$Cover" "hard" "[I"] ++ wsX00)
def wsX1_heatIn : List Cond := .code yX1_heatIn cX1_heatIn 4 (some .int) :: ([.methodLink RX1 13 Lib.Math.abs.name, .static Lib.Math.abs.name, .initialized "java/lang/Math", .code Lib.Math.abs.name Lib.Math.abs.code 1 (some .int), .methodLink RX1 19 Lib.Math.min.name, .static Lib.Math.min.name, .code Lib.Math.min.name Lib.Math.min.code 2 (some .int), .methodLink RX1 23 Lib.Math.max.name, .static Lib.Math.max.name, .code Lib.Math.max.name Lib.Math.max.code 2 (some .int), .static yX3_within, .initialized RX3, .code yX3_within cX3_within 3 (some .boolean)])
def wsX1_heatUpTo : List Cond := .code yX1_heatUpTo cX1_heatUpTo 4 (some .int) :: ([.methodLink RX1 26 yX1_heatIn, .static yX1_heatIn, .initialized RX1, .code yX1_heatIn cX1_heatIn 4 (some .int), .methodLink RX1 13 Lib.Math.abs.name, .static Lib.Math.abs.name, .initialized "java/lang/Math", .code Lib.Math.abs.name Lib.Math.abs.code 1 (some .int), .methodLink RX1 19 Lib.Math.min.name, .static Lib.Math.min.name, .code Lib.Math.min.name Lib.Math.min.code 2 (some .int), .methodLink RX1 23 Lib.Math.max.name, .static Lib.Math.max.name, .code Lib.Math.max.name Lib.Math.max.code 2 (some .int), .static yX3_within, .initialized RX3, .code yX3_within cX3_within 3 (some .boolean)])
def wsX1_warmHour : List Cond := .code yX1_warmHour cX1_warmHour 4 (some .int) :: ([.methodLink RX1 26 yX1_heatIn, .static yX1_heatIn, .initialized RX1, .code yX1_heatIn cX1_heatIn 4 (some .int), .methodLink RX1 13 Lib.Math.abs.name, .static Lib.Math.abs.name, .initialized "java/lang/Math", .code Lib.Math.abs.name Lib.Math.abs.code 1 (some .int), .methodLink RX1 19 Lib.Math.min.name, .static Lib.Math.min.name, .code Lib.Math.min.name Lib.Math.min.code 2 (some .int), .methodLink RX1 23 Lib.Math.max.name, .static Lib.Math.max.name, .code Lib.Math.max.name Lib.Math.max.code 2 (some .int), .static yX3_within, .initialized RX3, .code yX3_within cX3_within 3 (some .boolean)])
def wsX1_warmSides : List Cond := .code yX1_warmSides cX1_warmSides 3 (some .int) :: ([.methodLink RX1 31 yX1_warmHour, .static yX1_warmHour, .initialized RX1, .code yX1_warmHour cX1_warmHour 4 (some .int), .methodLink RX1 26 yX1_heatIn, .static yX1_heatIn, .code yX1_heatIn cX1_heatIn 4 (some .int), .methodLink RX1 13 Lib.Math.abs.name, .static Lib.Math.abs.name, .initialized "java/lang/Math", .code Lib.Math.abs.name Lib.Math.abs.code 1 (some .int), .methodLink RX1 19 Lib.Math.min.name, .static Lib.Math.min.name, .code Lib.Math.min.name Lib.Math.min.code 2 (some .int), .methodLink RX1 23 Lib.Math.max.name, .static Lib.Math.max.name, .code Lib.Math.max.name Lib.Math.max.code 2 (some .int), .static yX3_within, .initialized RX3, .code yX3_within cX3_within 3 (some .boolean)])
def wsX1_sideAtPlace : List Cond := .code yX1_sideAtPlace cX1_sideAtPlace 5 (some .int) :: ([.methodLink RX1 31 yX1_warmHour, .static yX1_warmHour, .initialized RX1, .code yX1_warmHour cX1_warmHour 4 (some .int), .methodLink RX1 26 yX1_heatIn, .static yX1_heatIn, .code yX1_heatIn cX1_heatIn 4 (some .int), .methodLink RX1 13 Lib.Math.abs.name, .static Lib.Math.abs.name, .initialized "java/lang/Math", .code Lib.Math.abs.name Lib.Math.abs.code 1 (some .int), .methodLink RX1 19 Lib.Math.min.name, .static Lib.Math.min.name, .code Lib.Math.min.name Lib.Math.min.code 2 (some .int), .methodLink RX1 23 Lib.Math.max.name, .static Lib.Math.max.name, .code Lib.Math.max.name Lib.Math.max.code 2 (some .int), .static yX3_within, .initialized RX3, .code yX3_within cX3_within 3 (some .boolean)])
def wsX2_init : List Cond := .code yX2_init cX2_init 1 none :: ([.methodLink RX2 3 objectInit, .instanceMethod objectInit, .code objectInit ⟨#[0xb1]⟩ 1 none, .fieldLink RX2 9 "SnowSlabs$TapTest" "breaks" "I", .arrayClass .int, .fieldLink RX2 15 "SnowSlabs$TapTest" "tapOf" "[I", .fieldLink RX2 19 "SnowSlabs$TapTest" "layerOf" "[I"] ++ wsX20)
def wsX2_weightOf : List Cond := .code yX2_weightOf cX2_weightOf 2 (some .int) :: ([])
def wsX2_run_r1 : List Cond := [Cond.fieldLink RX2 9 "SnowSlabs$TapTest" "breaks" "I", Cond.fieldLink RX2 22 "SnowSlabs$Cover" "size" "I", Cond.fieldLink RX2 27 "SnowSlabs$Cover" "blowWeight" "I", Cond.fieldLink RX2 15 "SnowSlabs$TapTest" "tapOf" "[I", Cond.fieldLink RX2 19 "SnowSlabs$TapTest" "layerOf" "[I", Cond.methodLink RX2 30 yX2_weightOf, Cond.static yX2_weightOf, Cond.initialized RX2, Cond.code yX2_weightOf cX2_weightOf 2 (some .int), Cond.methodLink RX2 34 yX0_breaking, Cond.instanceMethod yX0_breaking, Cond.selects RX0 yX0_breaking yX0_breaking, Cond.initialized RX0, Cond.code yX0_breaking cX0_breaking 4 (some .int), Cond.methodLink RX0 66 yX0_load, Cond.instanceMethod yX0_load, Cond.selects RX0 yX0_load yX0_load, Cond.code yX0_load cX0_load 3 (some .int), Cond.methodLink RX0 56 yX0_massAbove, Cond.instanceMethod yX0_massAbove, Cond.selects RX0 yX0_massAbove yX0_massAbove, Cond.code yX0_massAbove cX0_massAbove 5 (some .int), Cond.fieldLink RX0 18 "SnowSlabs$Cover" "thick" "[I", Cond.fieldLink RX0 22 "SnowSlabs$Cover" "dense" "[I"]
def wsX2_run_r2 : List Cond := [Cond.methodLink RX0 79 yX0_press, Cond.instanceMethod yX0_press, Cond.selects RX0 yX0_press yX0_press, Cond.code yX0_press cX0_press 4 (some .int), Cond.methodLink RX0 60 yX0_depth, Cond.instanceMethod yX0_depth, Cond.selects RX0 yX0_depth yX0_depth, Cond.code yX0_depth cX0_depth 5 (some .int), Cond.static yX3_cut, Cond.initialized RX3, Cond.code yX3_cut cX3_cut 2 (some .int), Cond.methodLink RX0 72 yX0_strength, Cond.instanceMethod yX0_strength, Cond.selects RX0 yX0_strength yX0_strength, Cond.code yX0_strength cX0_strength 3 (some .int), Cond.fieldLink RX0 43 "SnowSlabs$Cover" "firmness" "[I", Cond.fieldLink RX0 25 "SnowSlabs$Cover" "grain" "[I", Cond.fieldLink RX0 28 "SnowSlabs$Cover" "hard" "[I", Cond.fieldLink RX0 31 "SnowSlabs$Cover" "wet" "[Z"]
def wsX2_run : List Cond := .code yX2_run cX2_run 5 none :: ((wsX2_run_r1 ++ wsX2_run_r2) ++ wsX20 ++ wsX00)
def wsX2_isClean : List Cond := .code yX2_isClean cX2_isClean 4 (some .boolean) :: ([.fieldLink RX2 19 "SnowSlabs$TapTest" "layerOf" "[I", .fieldLink RX2 37 "SnowSlabs$Cover" "hard" "[I", .methodLink RX2 40 Lib.Math.abs.name, .static Lib.Math.abs.name, .initialized "java/lang/Math", .code Lib.Math.abs.name Lib.Math.abs.code 1 (some .int)] ++ wsX20 ++ wsX00)
def wsX3_init_r1 : List Cond := [Cond.methodLink RX3 1 objectInit, Cond.instanceMethod objectInit, Cond.code objectInit ⟨#[0xb1]⟩ 1 none, Cond.classLink RX3 7 RX0, Cond.instantiable RX0 8, Cond.initialized RX0, Cond.fieldLink RX3 10 "SnowSlabs" "cover" "LSnowSlabs$Cover;", Cond.classLink RX3 16 RX2, Cond.instantiable RX2 3, Cond.initialized RX2, Cond.fieldLink RX3 19 "SnowSlabs" "tapTest" "LSnowSlabs$TapTest;", Cond.fieldLink RX3 23 "SnowSlabs" "images" "[LSnowSlabs$Cover;", Cond.methodLink RX3 9 yX0_init, Cond.instanceMethod yX0_init, Cond.code yX0_init cX0_init 1 none, Cond.methodLink RX0 3 objectInit, Cond.fieldLink RX0 9 "SnowSlabs$Cover" "size" "I", Cond.fieldLink RX0 15 "SnowSlabs$Cover" "blowWeight" "I", Cond.arrayClass .int, Cond.fieldLink RX0 18 "SnowSlabs$Cover" "thick" "[I", Cond.fieldLink RX0 22 "SnowSlabs$Cover" "dense" "[I", Cond.fieldLink RX0 25 "SnowSlabs$Cover" "grain" "[I", Cond.fieldLink RX0 28 "SnowSlabs$Cover" "hard" "[I", Cond.arrayClass .boolean]
def wsX3_init_r2 : List Cond := [Cond.fieldLink RX0 31 "SnowSlabs$Cover" "wet" "[Z", Cond.methodLink RX0 38 ⟨"[I", "clone", "()Ljava/lang/Object;"⟩, Cond.sameMethod "[I" "java/lang/Object" "clone" "()Ljava/lang/Object;", Cond.native ⟨"java/lang/Object", "clone", "()Ljava/lang/Object;"⟩, Cond.instanceMethod ⟨"java/lang/Object", "clone", "()Ljava/lang/Object;"⟩, Cond.selects "[I" ⟨"[I", "clone", "()Ljava/lang/Object;"⟩ ⟨"java/lang/Object", "clone", "()Ljava/lang/Object;"⟩, Cond.classLink RX0 39 "[I", Cond.fieldLink RX0 43 "SnowSlabs$Cover" "firmness" "[I", Cond.methodLink RX3 18 yX2_init, Cond.instanceMethod yX2_init, Cond.code yX2_init cX2_init 1 none, Cond.methodLink RX2 3 objectInit, Cond.fieldLink RX2 9 "SnowSlabs$TapTest" "breaks" "I", Cond.fieldLink RX2 15 "SnowSlabs$TapTest" "tapOf" "[I", Cond.fieldLink RX2 19 "SnowSlabs$TapTest" "layerOf" "[I"]
def wsX3_init : List Cond := .code yX3_init cX3_init 1 none :: ((wsX3_init_r1 ++ wsX3_init_r2) ++ wsX00 ++ wsX30 ++ wsX20)
def wsX3_storm : List Cond := .code yX3_storm cX3_storm 5 (some .int) :: ([.fieldLink RX3 10 "SnowSlabs" "cover" "LSnowSlabs$Cover;", .fieldLink RX3 31 "SnowSlabs$Cover" "size" "I", .methodLink RX3 27 yX3_within, .static yX3_within, .initialized RX3, .code yX3_within cX3_within 3 (some .boolean), .methodLink RX3 35 yX0_addTop, .instanceMethod yX0_addTop, .selects RX0 yX0_addTop yX0_addTop, .initialized RX0, .code yX0_addTop cX0_addTop 6 (some .int), .fieldLink RX0 9 "SnowSlabs$Cover" "size" "I", .fieldLink RX0 18 "SnowSlabs$Cover" "thick" "[I", .fieldLink RX0 22 "SnowSlabs$Cover" "dense" "[I", .fieldLink RX0 25 "SnowSlabs$Cover" "grain" "[I", .fieldLink RX0 28 "SnowSlabs$Cover" "hard" "[I", .fieldLink RX0 31 "SnowSlabs$Cover" "wet" "[Z"] ++ wsX30 ++ wsX00)
def wsX3_firm : List Cond := .code yX3_firm cX3_firm 4 (some .int) :: ([.fieldLink RX3 10 "SnowSlabs" "cover" "LSnowSlabs$Cover;", .fieldLink RX3 39 "SnowSlabs$Cover" "firmness" "[I", .methodLink RX3 27 yX3_within, .static yX3_within, .initialized RX3, .code yX3_within cX3_within 3 (some .boolean)] ++ wsX30 ++ wsX00)
def wsX3_layer_r1 : List Cond := [Cond.fieldLink RX3 10 "SnowSlabs" "cover" "LSnowSlabs$Cover;", Cond.fieldLink RX3 47 "SnowSlabs$Cover" "thick" "[I", Cond.fieldLink RX3 50 "SnowSlabs$Cover" "dense" "[I", Cond.fieldLink RX3 53 "SnowSlabs$Cover" "grain" "[I", Cond.fieldLink RX3 56 "SnowSlabs$Cover" "hard" "[I", Cond.fieldLink RX3 59 "SnowSlabs$Cover" "wet" "[Z", Cond.fieldLink RX3 31 "SnowSlabs$Cover" "size" "I", Cond.methodLink RX3 43 yX0_has, Cond.instanceMethod yX0_has, Cond.selects RX0 yX0_has yX0_has, Cond.initialized RX0, Cond.code yX0_has cX0_has 2 (some .boolean), Cond.fieldLink RX0 9 "SnowSlabs$Cover" "size" "I", Cond.static yX3_within, Cond.initialized RX3, Cond.code yX3_within cX3_within 3 (some .boolean), Cond.methodLink RX3 63 yX0_strength, Cond.instanceMethod yX0_strength, Cond.selects RX0 yX0_strength yX0_strength, Cond.code yX0_strength cX0_strength 3 (some .int), Cond.fieldLink RX0 43 "SnowSlabs$Cover" "firmness" "[I", Cond.fieldLink RX0 25 "SnowSlabs$Cover" "grain" "[I", Cond.fieldLink RX0 28 "SnowSlabs$Cover" "hard" "[I", Cond.fieldLink RX0 22 "SnowSlabs$Cover" "dense" "[I"]
def wsX3_layer_r2 : List Cond := [Cond.fieldLink RX0 31 "SnowSlabs$Cover" "wet" "[Z", Cond.methodLink RX3 67 yX0_depth, Cond.instanceMethod yX0_depth, Cond.selects RX0 yX0_depth yX0_depth, Cond.code yX0_depth cX0_depth 5 (some .int), Cond.fieldLink RX0 18 "SnowSlabs$Cover" "thick" "[I", Cond.methodLink RX3 71 yX0_load, Cond.instanceMethod yX0_load, Cond.selects RX0 yX0_load yX0_load, Cond.code yX0_load cX0_load 3 (some .int), Cond.methodLink RX0 56 yX0_massAbove, Cond.instanceMethod yX0_massAbove, Cond.selects RX0 yX0_massAbove yX0_massAbove, Cond.code yX0_massAbove cX0_massAbove 5 (some .int)]
def wsX3_layer : List Cond := .code yX3_layer cX3_layer 3 (some .int) :: ((wsX3_layer_r1 ++ wsX3_layer_r2) ++ wsX30 ++ wsX00)
def wsX3_slope_r1 : List Cond := [Cond.fieldLink RX3 10 "SnowSlabs" "cover" "LSnowSlabs$Cover;", Cond.methodLink RX3 43 yX0_has, Cond.instanceMethod yX0_has, Cond.selects RX0 yX0_has yX0_has, Cond.initialized RX0, Cond.code yX0_has cX0_has 2 (some .boolean), Cond.fieldLink RX0 9 "SnowSlabs$Cover" "size" "I", Cond.static yX3_within, Cond.initialized RX3, Cond.code yX3_within cX3_within 3 (some .boolean), Cond.methodLink RX3 27 yX3_within, Cond.methodLink RX3 74 yX0_shear, Cond.instanceMethod yX0_shear, Cond.selects RX0 yX0_shear yX0_shear, Cond.code yX0_shear cX0_shear 3 (some .int), Cond.methodLink RX0 66 yX0_load, Cond.instanceMethod yX0_load, Cond.selects RX0 yX0_load yX0_load, Cond.code yX0_load cX0_load 3 (some .int), Cond.methodLink RX0 56 yX0_massAbove, Cond.instanceMethod yX0_massAbove, Cond.selects RX0 yX0_massAbove yX0_massAbove, Cond.code yX0_massAbove cX0_massAbove 5 (some .int), Cond.fieldLink RX0 18 "SnowSlabs$Cover" "thick" "[I"]
def wsX3_slope_r2 : List Cond := [Cond.fieldLink RX0 22 "SnowSlabs$Cover" "dense" "[I", Cond.methodLink RX3 77 yX0_margin, Cond.instanceMethod yX0_margin, Cond.selects RX0 yX0_margin yX0_margin, Cond.code yX0_margin cX0_margin 4 (some .int), Cond.methodLink RX0 69 yX0_shear, Cond.methodLink RX0 72 yX0_strength, Cond.instanceMethod yX0_strength, Cond.selects RX0 yX0_strength yX0_strength, Cond.code yX0_strength cX0_strength 3 (some .int), Cond.fieldLink RX0 43 "SnowSlabs$Cover" "firmness" "[I", Cond.fieldLink RX0 25 "SnowSlabs$Cover" "grain" "[I", Cond.fieldLink RX0 28 "SnowSlabs$Cover" "hard" "[I", Cond.fieldLink RX0 31 "SnowSlabs$Cover" "wet" "[Z"]
def wsX3_slope : List Cond := .code yX3_slope cX3_slope 4 (some .int) :: ((wsX3_slope_r1 ++ wsX3_slope_r2) ++ wsX30 ++ wsX00)
def wsX3_weakest_r1 : List Cond := [Cond.fieldLink RX3 10 "SnowSlabs" "cover" "LSnowSlabs$Cover;", Cond.methodLink RX3 27 yX3_within, Cond.static yX3_within, Cond.initialized RX3, Cond.code yX3_within cX3_within 3 (some .boolean), Cond.methodLink RX3 80 yX0_leastMargin, Cond.instanceMethod yX0_leastMargin, Cond.selects RX0 yX0_leastMargin yX0_leastMargin, Cond.initialized RX0, Cond.code yX0_leastMargin cX0_leastMargin 6 (some .int), Cond.fieldLink RX0 9 "SnowSlabs$Cover" "size" "I", Cond.methodLink RX0 76 yX0_margin, Cond.instanceMethod yX0_margin, Cond.selects RX0 yX0_margin yX0_margin, Cond.code yX0_margin cX0_margin 4 (some .int), Cond.methodLink RX0 69 yX0_shear, Cond.instanceMethod yX0_shear, Cond.selects RX0 yX0_shear yX0_shear, Cond.code yX0_shear cX0_shear 3 (some .int), Cond.methodLink RX0 66 yX0_load, Cond.instanceMethod yX0_load, Cond.selects RX0 yX0_load yX0_load, Cond.code yX0_load cX0_load 3 (some .int), Cond.methodLink RX0 56 yX0_massAbove]
def wsX3_weakest_r2 : List Cond := [Cond.instanceMethod yX0_massAbove, Cond.selects RX0 yX0_massAbove yX0_massAbove, Cond.code yX0_massAbove cX0_massAbove 5 (some .int), Cond.fieldLink RX0 18 "SnowSlabs$Cover" "thick" "[I", Cond.fieldLink RX0 22 "SnowSlabs$Cover" "dense" "[I", Cond.methodLink RX0 72 yX0_strength, Cond.instanceMethod yX0_strength, Cond.selects RX0 yX0_strength yX0_strength, Cond.code yX0_strength cX0_strength 3 (some .int), Cond.fieldLink RX0 43 "SnowSlabs$Cover" "firmness" "[I", Cond.fieldLink RX0 25 "SnowSlabs$Cover" "grain" "[I", Cond.fieldLink RX0 28 "SnowSlabs$Cover" "hard" "[I", Cond.fieldLink RX0 31 "SnowSlabs$Cover" "wet" "[Z", Cond.methodLink RX3 77 yX0_margin]
def wsX3_weakest : List Cond := .code yX3_weakest cX3_weakest 4 (some .int) :: ((wsX3_weakest_r1 ++ wsX3_weakest_r2) ++ wsX30 ++ wsX00)
def wsX3_blow : List Cond := .code yX3_blow cX3_blow 3 (some .int) :: ([.fieldLink RX3 10 "SnowSlabs" "cover" "LSnowSlabs$Cover;", .fieldLink RX3 83 "SnowSlabs$Cover" "blowWeight" "I", .methodLink RX3 27 yX3_within, .static yX3_within, .initialized RX3, .code yX3_within cX3_within 3 (some .boolean)] ++ wsX30 ++ wsX00)
def wsX3_taps_r1 : List Cond := [Cond.fieldLink RX3 19 "SnowSlabs" "tapTest" "LSnowSlabs$TapTest;", Cond.fieldLink RX3 10 "SnowSlabs" "cover" "LSnowSlabs$Cover;", Cond.fieldLink RX3 90 "SnowSlabs$TapTest" "breaks" "I", Cond.fieldLink RX3 93 "SnowSlabs$TapTest" "tapOf" "[I", Cond.fieldLink RX3 96 "SnowSlabs$TapTest" "layerOf" "[I", Cond.methodLink RX3 27 yX3_within, Cond.static yX3_within, Cond.initialized RX3, Cond.code yX3_within cX3_within 3 (some .boolean), Cond.methodLink RX3 86 yX2_run, Cond.instanceMethod yX2_run, Cond.selects RX2 yX2_run yX2_run, Cond.initialized RX2, Cond.code yX2_run cX2_run 5 none, Cond.fieldLink RX2 9 "SnowSlabs$TapTest" "breaks" "I", Cond.fieldLink RX2 22 "SnowSlabs$Cover" "size" "I", Cond.fieldLink RX2 27 "SnowSlabs$Cover" "blowWeight" "I", Cond.fieldLink RX2 15 "SnowSlabs$TapTest" "tapOf" "[I", Cond.fieldLink RX2 19 "SnowSlabs$TapTest" "layerOf" "[I", Cond.methodLink RX2 30 yX2_weightOf, Cond.static yX2_weightOf, Cond.code yX2_weightOf cX2_weightOf 2 (some .int), Cond.methodLink RX2 34 yX0_breaking, Cond.instanceMethod yX0_breaking]
def wsX3_taps_r2 : List Cond := [Cond.selects RX0 yX0_breaking yX0_breaking, Cond.initialized RX0, Cond.code yX0_breaking cX0_breaking 4 (some .int), Cond.methodLink RX0 66 yX0_load, Cond.instanceMethod yX0_load, Cond.selects RX0 yX0_load yX0_load, Cond.code yX0_load cX0_load 3 (some .int), Cond.methodLink RX0 56 yX0_massAbove, Cond.instanceMethod yX0_massAbove, Cond.selects RX0 yX0_massAbove yX0_massAbove, Cond.code yX0_massAbove cX0_massAbove 5 (some .int), Cond.fieldLink RX0 18 "SnowSlabs$Cover" "thick" "[I", Cond.fieldLink RX0 22 "SnowSlabs$Cover" "dense" "[I", Cond.methodLink RX0 79 yX0_press, Cond.instanceMethod yX0_press, Cond.selects RX0 yX0_press yX0_press, Cond.code yX0_press cX0_press 4 (some .int), Cond.methodLink RX0 60 yX0_depth, Cond.instanceMethod yX0_depth, Cond.selects RX0 yX0_depth yX0_depth, Cond.code yX0_depth cX0_depth 5 (some .int), Cond.static yX3_cut, Cond.code yX3_cut cX3_cut 2 (some .int), Cond.methodLink RX0 72 yX0_strength]
def wsX3_taps_r3 : List Cond := [Cond.instanceMethod yX0_strength, Cond.selects RX0 yX0_strength yX0_strength, Cond.code yX0_strength cX0_strength 3 (some .int), Cond.fieldLink RX0 43 "SnowSlabs$Cover" "firmness" "[I", Cond.fieldLink RX0 25 "SnowSlabs$Cover" "grain" "[I", Cond.fieldLink RX0 28 "SnowSlabs$Cover" "hard" "[I", Cond.fieldLink RX0 31 "SnowSlabs$Cover" "wet" "[Z", Cond.methodLink RX3 99 yX2_isClean, Cond.instanceMethod yX2_isClean, Cond.selects RX2 yX2_isClean yX2_isClean, Cond.code yX2_isClean cX2_isClean 4 (some .boolean), Cond.fieldLink RX2 37 "SnowSlabs$Cover" "hard" "[I", Cond.methodLink RX2 40 Lib.Math.abs.name, Cond.static Lib.Math.abs.name, Cond.initialized "java/lang/Math", Cond.code Lib.Math.abs.name Lib.Math.abs.code 1 (some .int)]
def wsX3_taps : List Cond := .code yX3_taps cX3_taps 3 (some .int) :: ((wsX3_taps_r1 ++ (wsX3_taps_r2 ++ wsX3_taps_r3)) ++ wsX30 ++ wsX20 ++ wsX00)
def wsX3_need_r1 : List Cond := [Cond.fieldLink RX3 10 "SnowSlabs" "cover" "LSnowSlabs$Cover;", Cond.fieldLink RX3 31 "SnowSlabs$Cover" "size" "I", Cond.methodLink RX3 27 yX3_within, Cond.static yX3_within, Cond.initialized RX3, Cond.code yX3_within cX3_within 3 (some .boolean), Cond.methodLink RX3 103 yX2_weightOf, Cond.static yX2_weightOf, Cond.initialized RX2, Cond.code yX2_weightOf cX2_weightOf 2 (some .int), Cond.methodLink RX3 106 yX0_breaking, Cond.instanceMethod yX0_breaking, Cond.selects RX0 yX0_breaking yX0_breaking, Cond.initialized RX0, Cond.code yX0_breaking cX0_breaking 4 (some .int), Cond.methodLink RX0 66 yX0_load, Cond.instanceMethod yX0_load, Cond.selects RX0 yX0_load yX0_load, Cond.code yX0_load cX0_load 3 (some .int), Cond.methodLink RX0 56 yX0_massAbove, Cond.instanceMethod yX0_massAbove, Cond.selects RX0 yX0_massAbove yX0_massAbove, Cond.code yX0_massAbove cX0_massAbove 5 (some .int), Cond.fieldLink RX0 18 "SnowSlabs$Cover" "thick" "[I"]
def wsX3_need_r2 : List Cond := [Cond.fieldLink RX0 22 "SnowSlabs$Cover" "dense" "[I", Cond.methodLink RX0 79 yX0_press, Cond.instanceMethod yX0_press, Cond.selects RX0 yX0_press yX0_press, Cond.code yX0_press cX0_press 4 (some .int), Cond.methodLink RX0 60 yX0_depth, Cond.instanceMethod yX0_depth, Cond.selects RX0 yX0_depth yX0_depth, Cond.code yX0_depth cX0_depth 5 (some .int), Cond.static yX3_cut, Cond.code yX3_cut cX3_cut 2 (some .int), Cond.methodLink RX0 72 yX0_strength, Cond.instanceMethod yX0_strength, Cond.selects RX0 yX0_strength yX0_strength, Cond.code yX0_strength cX0_strength 3 (some .int), Cond.fieldLink RX0 43 "SnowSlabs$Cover" "firmness" "[I", Cond.fieldLink RX0 25 "SnowSlabs$Cover" "grain" "[I", Cond.fieldLink RX0 28 "SnowSlabs$Cover" "hard" "[I", Cond.fieldLink RX0 31 "SnowSlabs$Cover" "wet" "[Z"]
def wsX3_need : List Cond := .code yX3_need cX3_need 3 (some .int) :: ((wsX3_need_r1 ++ wsX3_need_r2) ++ wsX30 ++ wsX00)
def wsX3_goes_r1 : List Cond := [Cond.fieldLink RX3 10 "SnowSlabs" "cover" "LSnowSlabs$Cover;", Cond.fieldLink RX3 31 "SnowSlabs$Cover" "size" "I", Cond.methodLink RX3 43 yX0_has, Cond.instanceMethod yX0_has, Cond.selects RX0 yX0_has yX0_has, Cond.initialized RX0, Cond.code yX0_has cX0_has 2 (some .boolean), Cond.fieldLink RX0 9 "SnowSlabs$Cover" "size" "I", Cond.static yX3_within, Cond.initialized RX3, Cond.code yX3_within cX3_within 3 (some .boolean), Cond.methodLink RX3 27 yX3_within, Cond.methodLink RX3 109 yX0_slabGoes, Cond.instanceMethod yX0_slabGoes, Cond.selects RX0 yX0_slabGoes yX0_slabGoes, Cond.code yX0_slabGoes cX0_slabGoes 4 (some .boolean), Cond.methodLink RX0 69 yX0_shear, Cond.instanceMethod yX0_shear, Cond.selects RX0 yX0_shear yX0_shear, Cond.code yX0_shear cX0_shear 3 (some .int), Cond.methodLink RX0 66 yX0_load, Cond.instanceMethod yX0_load, Cond.selects RX0 yX0_load yX0_load, Cond.code yX0_load cX0_load 3 (some .int)]
def wsX3_goes_r2 : List Cond := [Cond.methodLink RX0 56 yX0_massAbove, Cond.instanceMethod yX0_massAbove, Cond.selects RX0 yX0_massAbove yX0_massAbove, Cond.code yX0_massAbove cX0_massAbove 5 (some .int), Cond.fieldLink RX0 18 "SnowSlabs$Cover" "thick" "[I", Cond.fieldLink RX0 22 "SnowSlabs$Cover" "dense" "[I", Cond.methodLink RX0 79 yX0_press, Cond.instanceMethod yX0_press, Cond.selects RX0 yX0_press yX0_press, Cond.code yX0_press cX0_press 4 (some .int), Cond.methodLink RX0 60 yX0_depth, Cond.instanceMethod yX0_depth, Cond.selects RX0 yX0_depth yX0_depth, Cond.code yX0_depth cX0_depth 5 (some .int), Cond.static yX3_cut, Cond.code yX3_cut cX3_cut 2 (some .int), Cond.methodLink RX0 72 yX0_strength, Cond.instanceMethod yX0_strength, Cond.selects RX0 yX0_strength yX0_strength, Cond.code yX0_strength cX0_strength 3 (some .int), Cond.fieldLink RX0 43 "SnowSlabs$Cover" "firmness" "[I", Cond.fieldLink RX0 25 "SnowSlabs$Cover" "grain" "[I", Cond.fieldLink RX0 28 "SnowSlabs$Cover" "hard" "[I", Cond.fieldLink RX0 31 "SnowSlabs$Cover" "wet" "[Z"]
def wsX3_goes : List Cond := .code yX3_goes cX3_goes 4 (some .int) :: ((wsX3_goes_r1 ++ wsX3_goes_r2) ++ wsX30 ++ wsX00)
def wsX3_steep_r1 : List Cond := [Cond.fieldLink RX3 10 "SnowSlabs" "cover" "LSnowSlabs$Cover;", Cond.methodLink RX3 27 yX3_within, Cond.static yX3_within, Cond.initialized RX3, Cond.code yX3_within cX3_within 3 (some .boolean), Cond.methodLink RX3 112 yX0_going, Cond.instanceMethod yX0_going, Cond.selects RX0 yX0_going yX0_going, Cond.initialized RX0, Cond.code yX0_going cX0_going 4 (some .int), Cond.fieldLink RX0 9 "SnowSlabs$Cover" "size" "I", Cond.methodLink RX0 83 yX0_slabGoes, Cond.instanceMethod yX0_slabGoes, Cond.selects RX0 yX0_slabGoes yX0_slabGoes, Cond.code yX0_slabGoes cX0_slabGoes 4 (some .boolean), Cond.methodLink RX0 69 yX0_shear, Cond.instanceMethod yX0_shear, Cond.selects RX0 yX0_shear yX0_shear, Cond.code yX0_shear cX0_shear 3 (some .int), Cond.methodLink RX0 66 yX0_load, Cond.instanceMethod yX0_load, Cond.selects RX0 yX0_load yX0_load, Cond.code yX0_load cX0_load 3 (some .int), Cond.methodLink RX0 56 yX0_massAbove]
def wsX3_steep_r2 : List Cond := [Cond.instanceMethod yX0_massAbove, Cond.selects RX0 yX0_massAbove yX0_massAbove, Cond.code yX0_massAbove cX0_massAbove 5 (some .int), Cond.fieldLink RX0 18 "SnowSlabs$Cover" "thick" "[I", Cond.fieldLink RX0 22 "SnowSlabs$Cover" "dense" "[I", Cond.methodLink RX0 79 yX0_press, Cond.instanceMethod yX0_press, Cond.selects RX0 yX0_press yX0_press, Cond.code yX0_press cX0_press 4 (some .int), Cond.methodLink RX0 60 yX0_depth, Cond.instanceMethod yX0_depth, Cond.selects RX0 yX0_depth yX0_depth, Cond.code yX0_depth cX0_depth 5 (some .int), Cond.static yX3_cut, Cond.code yX3_cut cX3_cut 2 (some .int), Cond.methodLink RX0 72 yX0_strength, Cond.instanceMethod yX0_strength, Cond.selects RX0 yX0_strength yX0_strength, Cond.code yX0_strength cX0_strength 3 (some .int), Cond.fieldLink RX0 43 "SnowSlabs$Cover" "firmness" "[I", Cond.fieldLink RX0 25 "SnowSlabs$Cover" "grain" "[I", Cond.fieldLink RX0 28 "SnowSlabs$Cover" "hard" "[I", Cond.fieldLink RX0 31 "SnowSlabs$Cover" "wet" "[Z"]
def wsX3_steep : List Cond := .code yX3_steep cX3_steep 5 (some .int) :: ((wsX3_steep_r1 ++ wsX3_steep_r2) ++ wsX30 ++ wsX00)
def wsX3_pack : List Cond := .code yX3_pack cX3_pack 2 (some .int) :: ([.fieldLink RX3 10 "SnowSlabs" "cover" "LSnowSlabs$Cover;", .fieldLink RX3 31 "SnowSlabs$Cover" "size" "I", .methodLink RX3 27 yX3_within, .static yX3_within, .initialized RX3, .code yX3_within cX3_within 3 (some .boolean), .methodLink RX3 115 yX0_packTop, .instanceMethod yX0_packTop, .selects RX0 yX0_packTop yX0_packTop, .initialized RX0, .code yX0_packTop cX0_packTop 4 (some .int), .fieldLink RX0 9 "SnowSlabs$Cover" "size" "I", .fieldLink RX0 22 "SnowSlabs$Cover" "dense" "[I", .methodLink RX0 86 Lib.Math.min.name, .static Lib.Math.min.name, .initialized "java/lang/Math", .code Lib.Math.min.name Lib.Math.min.code 2 (some .int), .fieldLink RX0 18 "SnowSlabs$Cover" "thick" "[I", .methodLink RX0 91 Lib.Math.max.name, .static Lib.Math.max.name, .code Lib.Math.max.name Lib.Math.max.code 2 (some .int), .fieldLink RX0 28 "SnowSlabs$Cover" "hard" "[I", .static yX3_cut, .code yX3_cut cX3_cut 2 (some .int)] ++ wsX30 ++ wsX00)
def wsX3_settle_r1 : List Cond := [Cond.fieldLink RX3 10 "SnowSlabs" "cover" "LSnowSlabs$Cover;", Cond.fieldLink RX3 31 "SnowSlabs$Cover" "size" "I", Cond.methodLink RX3 27 yX3_within, Cond.static yX3_within, Cond.initialized RX3, Cond.code yX3_within cX3_within 3 (some .boolean), Cond.methodLink RX3 118 yX0_settleAll, Cond.instanceMethod yX0_settleAll, Cond.selects RX0 yX0_settleAll yX0_settleAll, Cond.initialized RX0, Cond.code yX0_settleAll cX0_settleAll 4 none, Cond.fieldLink RX0 9 "SnowSlabs$Cover" "size" "I", Cond.fieldLink RX0 25 "SnowSlabs$Cover" "grain" "[I", Cond.fieldLink RX0 18 "SnowSlabs$Cover" "thick" "[I", Cond.fieldLink RX0 22 "SnowSlabs$Cover" "dense" "[I", Cond.methodLink RX0 91 Lib.Math.max.name, Cond.static Lib.Math.max.name, Cond.initialized "java/lang/Math", Cond.code Lib.Math.max.name Lib.Math.max.code 2 (some .int), Cond.methodLink RX0 86 Lib.Math.min.name, Cond.static Lib.Math.min.name, Cond.code Lib.Math.min.name Lib.Math.min.code 2 (some .int), Cond.static yX3_cut, Cond.code yX3_cut cX3_cut 2 (some .int)]
def wsX3_settle_r2 : List Cond := [Cond.methodLink RX3 122 yX0_allThick, Cond.instanceMethod yX0_allThick, Cond.selects RX0 yX0_allThick yX0_allThick, Cond.code yX0_allThick cX0_allThick 1 (some .int), Cond.methodLink RX0 60 yX0_depth, Cond.instanceMethod yX0_depth, Cond.selects RX0 yX0_depth yX0_depth, Cond.code yX0_depth cX0_depth 5 (some .int)]
def wsX3_settle : List Cond := .code yX3_settle cX3_settle 2 (some .int) :: ((wsX3_settle_r1 ++ wsX3_settle_r2) ++ wsX30 ++ wsX00)
def wsX3_melt : List Cond := .code yX3_melt cX3_melt 2 (some .int) :: ([.fieldLink RX3 10 "SnowSlabs" "cover" "LSnowSlabs$Cover;", .fieldLink RX3 31 "SnowSlabs$Cover" "size" "I", .methodLink RX3 27 yX3_within, .static yX3_within, .initialized RX3, .code yX3_within cX3_within 3 (some .boolean), .methodLink RX3 126 yX0_meltAway, .instanceMethod yX0_meltAway, .selects RX0 yX0_meltAway yX0_meltAway, .initialized RX0, .code yX0_meltAway cX0_meltAway 3 none, .fieldLink RX0 9 "SnowSlabs$Cover" "size" "I", .fieldLink RX0 18 "SnowSlabs$Cover" "thick" "[I", .methodLink RX3 129 yX0_wetFromTop, .instanceMethod yX0_wetFromTop, .selects RX0 yX0_wetFromTop yX0_wetFromTop, .code yX0_wetFromTop cX0_wetFromTop 2 none, .fieldLink RX0 25 "SnowSlabs$Cover" "grain" "[I", .fieldLink RX0 31 "SnowSlabs$Cover" "wet" "[Z"] ++ wsX30 ++ wsX00)
def wsX3_freeze : List Cond := .code yX3_freeze cX3_freeze 1 (some .int) :: ([.fieldLink RX3 10 "SnowSlabs" "cover" "LSnowSlabs$Cover;", .methodLink RX3 132 yX0_freezeWet, .instanceMethod yX0_freezeWet, .selects RX0 yX0_freezeWet yX0_freezeWet, .initialized RX0, .code yX0_freezeWet cX0_freezeWet 3 (some .int), .fieldLink RX0 9 "SnowSlabs$Cover" "size" "I", .fieldLink RX0 31 "SnowSlabs$Cover" "wet" "[Z", .fieldLink RX0 25 "SnowSlabs$Cover" "grain" "[I", .fieldLink RX0 28 "SnowSlabs$Cover" "hard" "[I"] ++ wsX30 ++ wsX00)
def wsX3_slide : List Cond := .code yX3_slide cX3_slide 1 (some .int) :: ([.fieldLink RX3 10 "SnowSlabs" "cover" "LSnowSlabs$Cover;", .fieldLink RX3 31 "SnowSlabs$Cover" "size" "I"] ++ wsX30 ++ wsX00)
def wsX3_heat : List Cond := .code yX3_heat cX3_heat 4 (some .int) :: ([.methodLink RX3 27 yX3_within, .static yX3_within, .initialized RX3, .code yX3_within cX3_within 3 (some .boolean), .methodLink RX3 135 yX1_heatIn, .static yX1_heatIn, .initialized RX1, .code yX1_heatIn cX1_heatIn 4 (some .int), .methodLink RX1 13 Lib.Math.abs.name, .static Lib.Math.abs.name, .initialized "java/lang/Math", .code Lib.Math.abs.name Lib.Math.abs.code 1 (some .int), .methodLink RX1 19 Lib.Math.min.name, .static Lib.Math.min.name, .code Lib.Math.min.name Lib.Math.min.code 2 (some .int), .methodLink RX1 23 Lib.Math.max.name, .static Lib.Math.max.name, .code Lib.Math.max.name Lib.Math.max.code 2 (some .int), .methodLink RX3 140 yX1_heatUpTo, .static yX1_heatUpTo, .code yX1_heatUpTo cX1_heatUpTo 4 (some .int), .methodLink RX1 26 yX1_heatIn])
def wsX3_warm : List Cond := .code yX3_warm cX3_warm 3 (some .int) :: ([.methodLink RX3 27 yX3_within, .static yX3_within, .initialized RX3, .code yX3_within cX3_within 3 (some .boolean), .methodLink RX3 143 yX1_warmHour, .static yX1_warmHour, .initialized RX1, .code yX1_warmHour cX1_warmHour 4 (some .int), .methodLink RX1 26 yX1_heatIn, .static yX1_heatIn, .code yX1_heatIn cX1_heatIn 4 (some .int), .methodLink RX1 13 Lib.Math.abs.name, .static Lib.Math.abs.name, .initialized "java/lang/Math", .code Lib.Math.abs.name Lib.Math.abs.code 1 (some .int), .methodLink RX1 19 Lib.Math.min.name, .static Lib.Math.min.name, .code Lib.Math.min.name Lib.Math.min.code 2 (some .int), .methodLink RX1 23 Lib.Math.max.name, .static Lib.Math.max.name, .code Lib.Math.max.name Lib.Math.max.code 2 (some .int)])
def wsX3_order_r1 : List Cond := [Cond.methodLink RX3 27 yX3_within, Cond.static yX3_within, Cond.initialized RX3, Cond.code yX3_within cX3_within 3 (some .boolean), Cond.methodLink RX3 146 yX1_warmSides, Cond.static yX1_warmSides, Cond.initialized RX1, Cond.code yX1_warmSides cX1_warmSides 3 (some .int), Cond.methodLink RX1 31 yX1_warmHour, Cond.static yX1_warmHour, Cond.code yX1_warmHour cX1_warmHour 4 (some .int), Cond.methodLink RX1 26 yX1_heatIn, Cond.static yX1_heatIn, Cond.code yX1_heatIn cX1_heatIn 4 (some .int), Cond.methodLink RX1 13 Lib.Math.abs.name, Cond.static Lib.Math.abs.name, Cond.initialized "java/lang/Math", Cond.code Lib.Math.abs.name Lib.Math.abs.code 1 (some .int), Cond.methodLink RX1 19 Lib.Math.min.name, Cond.static Lib.Math.min.name, Cond.code Lib.Math.min.name Lib.Math.min.code 2 (some .int), Cond.methodLink RX1 23 Lib.Math.max.name, Cond.static Lib.Math.max.name, Cond.code Lib.Math.max.name Lib.Math.max.code 2 (some .int)]
def wsX3_order_r2 : List Cond := [Cond.methodLink RX3 149 yX1_sideAtPlace, Cond.static yX1_sideAtPlace, Cond.code yX1_sideAtPlace cX1_sideAtPlace 5 (some .int)]
def wsX3_order : List Cond := .code yX3_order cX3_order 3 (some .int) :: ((wsX3_order_r1 ++ wsX3_order_r2))
def wsX3_image_r1 : List Cond := [Cond.fieldLink RX3 23 "SnowSlabs" "images" "[LSnowSlabs$Cover;", Cond.classLink RX3 7 RX0, Cond.instantiable RX0 8, Cond.initialized RX0, Cond.fieldLink RX3 10 "SnowSlabs" "cover" "LSnowSlabs$Cover;", Cond.methodLink RX3 27 yX3_within, Cond.static yX3_within, Cond.initialized RX3, Cond.code yX3_within cX3_within 3 (some .boolean), Cond.methodLink RX3 9 yX0_init, Cond.instanceMethod yX0_init, Cond.code yX0_init cX0_init 1 none, Cond.methodLink RX0 3 objectInit, Cond.instanceMethod objectInit, Cond.code objectInit ⟨#[0xb1]⟩ 1 none, Cond.fieldLink RX0 9 "SnowSlabs$Cover" "size" "I", Cond.fieldLink RX0 15 "SnowSlabs$Cover" "blowWeight" "I", Cond.arrayClass .int, Cond.fieldLink RX0 18 "SnowSlabs$Cover" "thick" "[I", Cond.fieldLink RX0 22 "SnowSlabs$Cover" "dense" "[I", Cond.fieldLink RX0 25 "SnowSlabs$Cover" "grain" "[I", Cond.fieldLink RX0 28 "SnowSlabs$Cover" "hard" "[I", Cond.arrayClass .boolean, Cond.fieldLink RX0 31 "SnowSlabs$Cover" "wet" "[Z"]
def wsX3_image_r2 : List Cond := [Cond.methodLink RX0 38 ⟨"[I", "clone", "()Ljava/lang/Object;"⟩, Cond.sameMethod "[I" "java/lang/Object" "clone" "()Ljava/lang/Object;", Cond.native ⟨"java/lang/Object", "clone", "()Ljava/lang/Object;"⟩, Cond.instanceMethod ⟨"java/lang/Object", "clone", "()Ljava/lang/Object;"⟩, Cond.selects "[I" ⟨"[I", "clone", "()Ljava/lang/Object;"⟩ ⟨"java/lang/Object", "clone", "()Ljava/lang/Object;"⟩, Cond.classLink RX0 39 "[I", Cond.fieldLink RX0 43 "SnowSlabs$Cover" "firmness" "[I", Cond.methodLink RX3 152 yX0_takeFrom, Cond.instanceMethod yX0_takeFrom, Cond.selects RX0 yX0_takeFrom yX0_takeFrom, Cond.code yX0_takeFrom cX0_takeFrom 2 none, Cond.methodLink RX0 46 arraycopyName, Cond.native arraycopyName, Cond.static arraycopyName, Cond.initialized "java/lang/System"]
def wsX3_image : List Cond := .code yX3_image cX3_image 2 (some .int) :: ((wsX3_image_r1 ++ wsX3_image_r2) ++ wsX30 ++ wsX00)
def wsX3_restore : List Cond := .code yX3_restore cX3_restore 2 (some .int) :: ([.fieldLink RX3 23 "SnowSlabs" "images" "[LSnowSlabs$Cover;", .fieldLink RX3 10 "SnowSlabs" "cover" "LSnowSlabs$Cover;", .methodLink RX3 27 yX3_within, .static yX3_within, .initialized RX3, .code yX3_within cX3_within 3 (some .boolean), .methodLink RX3 152 yX0_takeFrom, .instanceMethod yX0_takeFrom, .selects RX0 yX0_takeFrom yX0_takeFrom, .initialized RX0, .code yX0_takeFrom cX0_takeFrom 2 none, .fieldLink RX0 9 "SnowSlabs$Cover" "size" "I", .fieldLink RX0 15 "SnowSlabs$Cover" "blowWeight" "I", .fieldLink RX0 18 "SnowSlabs$Cover" "thick" "[I", .methodLink RX0 46 arraycopyName, .native arraycopyName, .static arraycopyName, .initialized "java/lang/System", .fieldLink RX0 22 "SnowSlabs$Cover" "dense" "[I", .fieldLink RX0 25 "SnowSlabs$Cover" "grain" "[I", .fieldLink RX0 28 "SnowSlabs$Cover" "hard" "[I", .fieldLink RX0 31 "SnowSlabs$Cover" "wet" "[Z", .fieldLink RX0 43 "SnowSlabs$Cover" "firmness" "[I"] ++ wsX30 ++ wsX00)
def wsX3_keptSet : List Cond := .code yX3_keptSet cX3_keptSet 3 (some .int) :: ([.fieldLink RX3 23 "SnowSlabs" "images" "[LSnowSlabs$Cover;"] ++ wsX30)
def wsX3_count_r1 : List Cond := [Cond.fieldLink RX3 10 "SnowSlabs" "cover" "LSnowSlabs$Cover;", Cond.fieldLink RX3 39 "SnowSlabs$Cover" "firmness" "[I", Cond.fieldLink RX3 31 "SnowSlabs$Cover" "size" "I", Cond.fieldLink RX3 83 "SnowSlabs$Cover" "blowWeight" "I", Cond.methodLink RX3 27 yX3_within, Cond.static yX3_within, Cond.initialized RX3, Cond.code yX3_within cX3_within 3 (some .boolean), Cond.methodLink RX3 122 yX0_allThick, Cond.instanceMethod yX0_allThick, Cond.selects RX0 yX0_allThick yX0_allThick, Cond.initialized RX0, Cond.code yX0_allThick cX0_allThick 1 (some .int), Cond.fieldLink RX0 9 "SnowSlabs$Cover" "size" "I", Cond.methodLink RX0 60 yX0_depth, Cond.instanceMethod yX0_depth, Cond.selects RX0 yX0_depth yX0_depth, Cond.code yX0_depth cX0_depth 5 (some .int), Cond.fieldLink RX0 18 "SnowSlabs$Cover" "thick" "[I", Cond.methodLink RX3 155 yX0_massAbove, Cond.instanceMethod yX0_massAbove, Cond.selects RX0 yX0_massAbove yX0_massAbove, Cond.code yX0_massAbove cX0_massAbove 5 (some .int), Cond.fieldLink RX0 22 "SnowSlabs$Cover" "dense" "[I"]
def wsX3_count_r2 : List Cond := [Cond.methodLink RX3 158 yX3_keptSet, Cond.instanceMethod yX3_keptSet, Cond.selects RX3 yX3_keptSet yX3_keptSet, Cond.code yX3_keptSet cX3_keptSet 3 (some .int), Cond.fieldLink RX3 23 "SnowSlabs" "images" "[LSnowSlabs$Cover;"]
def wsX3_count : List Cond := .code yX3_count cX3_count 2 (some .int) :: ((wsX3_count_r1 ++ wsX3_count_r2) ++ wsX30 ++ wsX00)
def wsX4_init : List Cond := .code yX4_init cX4_init 1 none :: ([.methodLink RX4 1 objectInit, .instanceMethod objectInit, .code objectInit ⟨#[0xb1]⟩ 1 none, .arrayClass .int, .fieldLink RX4 7 "SnowSlabsModel" "state" "[I", .fieldLink RX4 13 "SnowSlabsModel" "images" "[I", .arrayClass .boolean, .fieldLink RX4 16 "SnowSlabsModel" "isKept" "[Z", .fieldLink RX4 20 "SnowSlabsModel" "breakTap" "[I", .fieldLink RX4 23 "SnowSlabsModel" "breakLayer" "[I"] ++ wsX40)
def wsX4_in : List Cond := .code yX4_in cX4_in 3 (some .boolean) :: ([])
def wsX4_isLayer : List Cond := .code yX4_isLayer cX4_isLayer 2 (some .boolean) :: ([.fieldLink RX4 7 "SnowSlabsModel" "state" "[I", .methodLink RX4 26 yX4_in, .static yX4_in, .initialized RX4, .code yX4_in cX4_in 3 (some .boolean)] ++ wsX40)
def wsX4_at : List Cond := .code yX4_at cX4_at 2 (some .int) :: ([])
def wsX4_top : List Cond := .code yX4_top cX4_top 1 (some .int) :: ([.fieldLink RX4 7 "SnowSlabsModel" "state" "[I"] ++ wsX40)
def wsX4_storm : List Cond := .code yX4_storm cX4_storm 6 (some .int) :: ([.fieldLink RX4 7 "SnowSlabsModel" "state" "[I", .methodLink RX4 26 yX4_in, .static yX4_in, .initialized RX4, .code yX4_in cX4_in 3 (some .boolean), .methodLink RX4 30 yX4_at, .static yX4_at, .code yX4_at cX4_at 2 (some .int)] ++ wsX40)
def wsX4_firm : List Cond := .code yX4_firm cX4_firm 4 (some .int) :: ([.fieldLink RX4 7 "SnowSlabsModel" "state" "[I", .methodLink RX4 26 yX4_in, .static yX4_in, .initialized RX4, .code yX4_in cX4_in 3 (some .boolean)] ++ wsX40)
def wsX4_strength : List Cond := .code yX4_strength cX4_strength 3 (some .int) :: ([.fieldLink RX4 7 "SnowSlabsModel" "state" "[I", .methodLink RX4 30 yX4_at, .static yX4_at, .initialized RX4, .code yX4_at cX4_at 2 (some .int)] ++ wsX40)
def wsX4_depth : List Cond := .code yX4_depth cX4_depth 5 (some .int) :: ([.fieldLink RX4 7 "SnowSlabsModel" "state" "[I", .methodLink RX4 30 yX4_at, .static yX4_at, .initialized RX4, .code yX4_at cX4_at 2 (some .int)] ++ wsX40)
def wsX4_load : List Cond := .code yX4_load cX4_load 5 (some .int) :: ([.fieldLink RX4 7 "SnowSlabsModel" "state" "[I", .methodLink RX4 30 yX4_at, .static yX4_at, .initialized RX4, .code yX4_at cX4_at 2 (some .int)] ++ wsX40)
def wsX4_shear : List Cond := .code yX4_shear cX4_shear 3 (some .int) :: ([.fieldLink RX4 7 "SnowSlabsModel" "state" "[I", .methodLink RX4 34 yX4_load, .instanceMethod yX4_load, .selects RX4 yX4_load yX4_load, .initialized RX4, .code yX4_load cX4_load 5 (some .int), .methodLink RX4 30 yX4_at, .static yX4_at, .code yX4_at cX4_at 2 (some .int)] ++ wsX40)
def wsX4_margin : List Cond := .code yX4_margin cX4_margin 4 (some .int) :: ([.methodLink RX4 37 yX4_shear, .instanceMethod yX4_shear, .selects RX4 yX4_shear yX4_shear, .initialized RX4, .code yX4_shear cX4_shear 3 (some .int), .fieldLink RX4 7 "SnowSlabsModel" "state" "[I", .methodLink RX4 34 yX4_load, .instanceMethod yX4_load, .selects RX4 yX4_load yX4_load, .code yX4_load cX4_load 5 (some .int), .methodLink RX4 30 yX4_at, .static yX4_at, .code yX4_at cX4_at 2 (some .int), .methodLink RX4 40 yX4_strength, .instanceMethod yX4_strength, .selects RX4 yX4_strength yX4_strength, .code yX4_strength cX4_strength 3 (some .int)] ++ wsX40)
def wsX4_press : List Cond := .code yX4_press cX4_press 4 (some .int) :: ([.methodLink RX4 44 yX4_depth, .instanceMethod yX4_depth, .selects RX4 yX4_depth yX4_depth, .initialized RX4, .code yX4_depth cX4_depth 5 (some .int), .fieldLink RX4 7 "SnowSlabsModel" "state" "[I", .methodLink RX4 30 yX4_at, .static yX4_at, .code yX4_at cX4_at 2 (some .int)] ++ wsX40)
def wsX4_layer : List Cond := .code yX4_layer cX4_layer 3 (some .int) :: ([.fieldLink RX4 7 "SnowSlabsModel" "state" "[I", .methodLink RX4 47 yX4_isLayer, .instanceMethod yX4_isLayer, .selects RX4 yX4_isLayer yX4_isLayer, .initialized RX4, .code yX4_isLayer cX4_isLayer 2 (some .boolean), .methodLink RX4 26 yX4_in, .static yX4_in, .code yX4_in cX4_in 3 (some .boolean), .methodLink RX4 30 yX4_at, .static yX4_at, .code yX4_at cX4_at 2 (some .int), .methodLink RX4 40 yX4_strength, .instanceMethod yX4_strength, .selects RX4 yX4_strength yX4_strength, .code yX4_strength cX4_strength 3 (some .int), .methodLink RX4 44 yX4_depth, .instanceMethod yX4_depth, .selects RX4 yX4_depth yX4_depth, .code yX4_depth cX4_depth 5 (some .int), .methodLink RX4 34 yX4_load, .instanceMethod yX4_load, .selects RX4 yX4_load yX4_load, .code yX4_load cX4_load 5 (some .int)] ++ wsX40)
def wsX4_isSteep : List Cond := .code yX4_isSteep cX4_isSteep 1 (some .boolean) :: ([.methodLink RX4 26 yX4_in, .static yX4_in, .initialized RX4, .code yX4_in cX4_in 3 (some .boolean)])
def wsX4_slope_r1 : List Cond := [Cond.methodLink RX4 47 yX4_isLayer, Cond.instanceMethod yX4_isLayer, Cond.selects RX4 yX4_isLayer yX4_isLayer, Cond.initialized RX4, Cond.code yX4_isLayer cX4_isLayer 2 (some .boolean), Cond.fieldLink RX4 7 "SnowSlabsModel" "state" "[I", Cond.methodLink RX4 26 yX4_in, Cond.static yX4_in, Cond.code yX4_in cX4_in 3 (some .boolean), Cond.methodLink RX4 51 yX4_isSteep, Cond.static yX4_isSteep, Cond.code yX4_isSteep cX4_isSteep 1 (some .boolean), Cond.methodLink RX4 37 yX4_shear, Cond.instanceMethod yX4_shear, Cond.selects RX4 yX4_shear yX4_shear, Cond.code yX4_shear cX4_shear 3 (some .int), Cond.methodLink RX4 34 yX4_load, Cond.instanceMethod yX4_load, Cond.selects RX4 yX4_load yX4_load, Cond.code yX4_load cX4_load 5 (some .int), Cond.methodLink RX4 30 yX4_at, Cond.static yX4_at, Cond.code yX4_at cX4_at 2 (some .int), Cond.methodLink RX4 54 yX4_margin]
def wsX4_slope_r2 : List Cond := [Cond.instanceMethod yX4_margin, Cond.selects RX4 yX4_margin yX4_margin, Cond.code yX4_margin cX4_margin 4 (some .int), Cond.methodLink RX4 40 yX4_strength, Cond.instanceMethod yX4_strength, Cond.selects RX4 yX4_strength yX4_strength, Cond.code yX4_strength cX4_strength 3 (some .int)]
def wsX4_slope : List Cond := .code yX4_slope cX4_slope 4 (some .int) :: ((wsX4_slope_r1 ++ wsX4_slope_r2) ++ wsX40)
def wsX4_weakest_r1 : List Cond := [Cond.methodLink RX4 51 yX4_isSteep, Cond.static yX4_isSteep, Cond.initialized RX4, Cond.code yX4_isSteep cX4_isSteep 1 (some .boolean), Cond.methodLink RX4 26 yX4_in, Cond.static yX4_in, Cond.code yX4_in cX4_in 3 (some .boolean), Cond.methodLink RX4 57 yX4_top, Cond.instanceMethod yX4_top, Cond.selects RX4 yX4_top yX4_top, Cond.code yX4_top cX4_top 1 (some .int), Cond.fieldLink RX4 7 "SnowSlabsModel" "state" "[I", Cond.methodLink RX4 54 yX4_margin, Cond.instanceMethod yX4_margin, Cond.selects RX4 yX4_margin yX4_margin, Cond.code yX4_margin cX4_margin 4 (some .int), Cond.methodLink RX4 37 yX4_shear, Cond.instanceMethod yX4_shear, Cond.selects RX4 yX4_shear yX4_shear, Cond.code yX4_shear cX4_shear 3 (some .int), Cond.methodLink RX4 34 yX4_load, Cond.instanceMethod yX4_load, Cond.selects RX4 yX4_load yX4_load, Cond.code yX4_load cX4_load 5 (some .int)]
def wsX4_weakest_r2 : List Cond := [Cond.methodLink RX4 30 yX4_at, Cond.static yX4_at, Cond.code yX4_at cX4_at 2 (some .int), Cond.methodLink RX4 40 yX4_strength, Cond.instanceMethod yX4_strength, Cond.selects RX4 yX4_strength yX4_strength, Cond.code yX4_strength cX4_strength 3 (some .int)]
def wsX4_weakest : List Cond := .code yX4_weakest cX4_weakest 5 (some .int) :: ((wsX4_weakest_r1 ++ wsX4_weakest_r2) ++ wsX40)
def wsX4_blow : List Cond := .code yX4_blow cX4_blow 3 (some .int) :: ([.fieldLink RX4 7 "SnowSlabsModel" "state" "[I", .methodLink RX4 26 yX4_in, .static yX4_in, .initialized RX4, .code yX4_in cX4_in 3 (some .boolean)] ++ wsX40)
def wsX4_weightOf : List Cond := .code yX4_weightOf cX4_weightOf 2 (some .int) :: ([])
def wsX4_broken : List Cond := .code yX4_broken cX4_broken 4 (some .int) :: ([.methodLink RX4 34 yX4_load, .instanceMethod yX4_load, .selects RX4 yX4_load yX4_load, .initialized RX4, .code yX4_load cX4_load 5 (some .int), .fieldLink RX4 7 "SnowSlabsModel" "state" "[I", .methodLink RX4 30 yX4_at, .static yX4_at, .code yX4_at cX4_at 2 (some .int), .methodLink RX4 61 yX4_press, .instanceMethod yX4_press, .selects RX4 yX4_press yX4_press, .code yX4_press cX4_press 4 (some .int), .methodLink RX4 44 yX4_depth, .instanceMethod yX4_depth, .selects RX4 yX4_depth yX4_depth, .code yX4_depth cX4_depth 5 (some .int), .methodLink RX4 40 yX4_strength, .instanceMethod yX4_strength, .selects RX4 yX4_strength yX4_strength, .code yX4_strength cX4_strength 3 (some .int)] ++ wsX40)
def wsX4_tapAll_r1 : List Cond := [Cond.fieldLink RX4 65 "SnowSlabsModel" "breaks" "I", Cond.fieldLink RX4 7 "SnowSlabsModel" "state" "[I", Cond.fieldLink RX4 20 "SnowSlabsModel" "breakTap" "[I", Cond.fieldLink RX4 23 "SnowSlabsModel" "breakLayer" "[I", Cond.methodLink RX4 69 yX4_weightOf, Cond.static yX4_weightOf, Cond.initialized RX4, Cond.code yX4_weightOf cX4_weightOf 2 (some .int), Cond.methodLink RX4 72 yX4_broken, Cond.instanceMethod yX4_broken, Cond.selects RX4 yX4_broken yX4_broken, Cond.code yX4_broken cX4_broken 4 (some .int), Cond.methodLink RX4 34 yX4_load, Cond.instanceMethod yX4_load, Cond.selects RX4 yX4_load yX4_load, Cond.code yX4_load cX4_load 5 (some .int), Cond.methodLink RX4 30 yX4_at, Cond.static yX4_at, Cond.code yX4_at cX4_at 2 (some .int), Cond.methodLink RX4 61 yX4_press, Cond.instanceMethod yX4_press, Cond.selects RX4 yX4_press yX4_press, Cond.code yX4_press cX4_press 4 (some .int), Cond.methodLink RX4 44 yX4_depth]
def wsX4_tapAll_r2 : List Cond := [Cond.instanceMethod yX4_depth, Cond.selects RX4 yX4_depth yX4_depth, Cond.code yX4_depth cX4_depth 5 (some .int), Cond.methodLink RX4 40 yX4_strength, Cond.instanceMethod yX4_strength, Cond.selects RX4 yX4_strength yX4_strength, Cond.code yX4_strength cX4_strength 3 (some .int)]
def wsX4_tapAll : List Cond := .code yX4_tapAll cX4_tapAll 6 none :: ((wsX4_tapAll_r1 ++ wsX4_tapAll_r2) ++ wsX40)
def wsX4_isClean : List Cond := .code yX4_isClean cX4_isClean 3 (some .boolean) :: ([.fieldLink RX4 7 "SnowSlabsModel" "state" "[I", .methodLink RX4 30 yX4_at, .static yX4_at, .initialized RX4, .code yX4_at cX4_at 2 (some .int)] ++ wsX40)
def wsX4_taps_r1 : List Cond := [Cond.fieldLink RX4 7 "SnowSlabsModel" "state" "[I", Cond.fieldLink RX4 65 "SnowSlabsModel" "breaks" "I", Cond.fieldLink RX4 20 "SnowSlabsModel" "breakTap" "[I", Cond.fieldLink RX4 23 "SnowSlabsModel" "breakLayer" "[I", Cond.methodLink RX4 26 yX4_in, Cond.static yX4_in, Cond.initialized RX4, Cond.code yX4_in cX4_in 3 (some .boolean), Cond.methodLink RX4 75 yX4_tapAll, Cond.instanceMethod yX4_tapAll, Cond.selects RX4 yX4_tapAll yX4_tapAll, Cond.code yX4_tapAll cX4_tapAll 6 none, Cond.methodLink RX4 69 yX4_weightOf, Cond.static yX4_weightOf, Cond.code yX4_weightOf cX4_weightOf 2 (some .int), Cond.methodLink RX4 72 yX4_broken, Cond.instanceMethod yX4_broken, Cond.selects RX4 yX4_broken yX4_broken, Cond.code yX4_broken cX4_broken 4 (some .int), Cond.methodLink RX4 34 yX4_load, Cond.instanceMethod yX4_load, Cond.selects RX4 yX4_load yX4_load, Cond.code yX4_load cX4_load 5 (some .int), Cond.methodLink RX4 30 yX4_at]
def wsX4_taps_r2 : List Cond := [Cond.static yX4_at, Cond.code yX4_at cX4_at 2 (some .int), Cond.methodLink RX4 61 yX4_press, Cond.instanceMethod yX4_press, Cond.selects RX4 yX4_press yX4_press, Cond.code yX4_press cX4_press 4 (some .int), Cond.methodLink RX4 44 yX4_depth, Cond.instanceMethod yX4_depth, Cond.selects RX4 yX4_depth yX4_depth, Cond.code yX4_depth cX4_depth 5 (some .int), Cond.methodLink RX4 40 yX4_strength, Cond.instanceMethod yX4_strength, Cond.selects RX4 yX4_strength yX4_strength, Cond.code yX4_strength cX4_strength 3 (some .int), Cond.methodLink RX4 79 yX4_isClean, Cond.instanceMethod yX4_isClean, Cond.selects RX4 yX4_isClean yX4_isClean, Cond.code yX4_isClean cX4_isClean 3 (some .boolean)]
def wsX4_taps : List Cond := .code yX4_taps cX4_taps 3 (some .int) :: ((wsX4_taps_r1 ++ wsX4_taps_r2) ++ wsX40)
def wsX4_need_r1 : List Cond := [Cond.fieldLink RX4 65 "SnowSlabsModel" "breaks" "I", Cond.methodLink RX4 26 yX4_in, Cond.static yX4_in, Cond.initialized RX4, Cond.code yX4_in cX4_in 3 (some .boolean), Cond.methodLink RX4 75 yX4_tapAll, Cond.instanceMethod yX4_tapAll, Cond.selects RX4 yX4_tapAll yX4_tapAll, Cond.code yX4_tapAll cX4_tapAll 6 none, Cond.fieldLink RX4 7 "SnowSlabsModel" "state" "[I", Cond.fieldLink RX4 20 "SnowSlabsModel" "breakTap" "[I", Cond.fieldLink RX4 23 "SnowSlabsModel" "breakLayer" "[I", Cond.methodLink RX4 69 yX4_weightOf, Cond.static yX4_weightOf, Cond.code yX4_weightOf cX4_weightOf 2 (some .int), Cond.methodLink RX4 72 yX4_broken, Cond.instanceMethod yX4_broken, Cond.selects RX4 yX4_broken yX4_broken, Cond.code yX4_broken cX4_broken 4 (some .int), Cond.methodLink RX4 34 yX4_load, Cond.instanceMethod yX4_load, Cond.selects RX4 yX4_load yX4_load, Cond.code yX4_load cX4_load 5 (some .int), Cond.methodLink RX4 30 yX4_at]
def wsX4_need_r2 : List Cond := [Cond.static yX4_at, Cond.code yX4_at cX4_at 2 (some .int), Cond.methodLink RX4 61 yX4_press, Cond.instanceMethod yX4_press, Cond.selects RX4 yX4_press yX4_press, Cond.code yX4_press cX4_press 4 (some .int), Cond.methodLink RX4 44 yX4_depth, Cond.instanceMethod yX4_depth, Cond.selects RX4 yX4_depth yX4_depth, Cond.code yX4_depth cX4_depth 5 (some .int), Cond.methodLink RX4 40 yX4_strength, Cond.instanceMethod yX4_strength, Cond.selects RX4 yX4_strength yX4_strength, Cond.code yX4_strength cX4_strength 3 (some .int)]
def wsX4_need : List Cond := .code yX4_need cX4_need 3 (some .int) :: ((wsX4_need_r1 ++ wsX4_need_r2) ++ wsX40)
def wsX4_doesGo_r1 : List Cond := [Cond.fieldLink RX4 7 "SnowSlabsModel" "state" "[I", Cond.methodLink RX4 37 yX4_shear, Cond.instanceMethod yX4_shear, Cond.selects RX4 yX4_shear yX4_shear, Cond.initialized RX4, Cond.code yX4_shear cX4_shear 3 (some .int), Cond.methodLink RX4 34 yX4_load, Cond.instanceMethod yX4_load, Cond.selects RX4 yX4_load yX4_load, Cond.code yX4_load cX4_load 5 (some .int), Cond.methodLink RX4 30 yX4_at, Cond.static yX4_at, Cond.code yX4_at cX4_at 2 (some .int), Cond.methodLink RX4 61 yX4_press, Cond.instanceMethod yX4_press, Cond.selects RX4 yX4_press yX4_press, Cond.code yX4_press cX4_press 4 (some .int), Cond.methodLink RX4 44 yX4_depth, Cond.instanceMethod yX4_depth, Cond.selects RX4 yX4_depth yX4_depth, Cond.code yX4_depth cX4_depth 5 (some .int), Cond.methodLink RX4 40 yX4_strength, Cond.instanceMethod yX4_strength, Cond.selects RX4 yX4_strength yX4_strength]
def wsX4_doesGo_r2 : List Cond := [Cond.code yX4_strength cX4_strength 3 (some .int)]
def wsX4_doesGo : List Cond := .code yX4_doesGo cX4_doesGo 4 (some .boolean) :: ((wsX4_doesGo_r1 ++ wsX4_doesGo_r2) ++ wsX40)
def wsX4_goes_r1 : List Cond := [Cond.methodLink RX4 47 yX4_isLayer, Cond.instanceMethod yX4_isLayer, Cond.selects RX4 yX4_isLayer yX4_isLayer, Cond.initialized RX4, Cond.code yX4_isLayer cX4_isLayer 2 (some .boolean), Cond.fieldLink RX4 7 "SnowSlabsModel" "state" "[I", Cond.methodLink RX4 26 yX4_in, Cond.static yX4_in, Cond.code yX4_in cX4_in 3 (some .boolean), Cond.methodLink RX4 51 yX4_isSteep, Cond.static yX4_isSteep, Cond.code yX4_isSteep cX4_isSteep 1 (some .boolean), Cond.methodLink RX4 57 yX4_top, Cond.instanceMethod yX4_top, Cond.selects RX4 yX4_top yX4_top, Cond.code yX4_top cX4_top 1 (some .int), Cond.methodLink RX4 82 yX4_doesGo, Cond.instanceMethod yX4_doesGo, Cond.selects RX4 yX4_doesGo yX4_doesGo, Cond.code yX4_doesGo cX4_doesGo 4 (some .boolean), Cond.methodLink RX4 37 yX4_shear, Cond.instanceMethod yX4_shear, Cond.selects RX4 yX4_shear yX4_shear, Cond.code yX4_shear cX4_shear 3 (some .int)]
def wsX4_goes_r2 : List Cond := [Cond.methodLink RX4 34 yX4_load, Cond.instanceMethod yX4_load, Cond.selects RX4 yX4_load yX4_load, Cond.code yX4_load cX4_load 5 (some .int), Cond.methodLink RX4 30 yX4_at, Cond.static yX4_at, Cond.code yX4_at cX4_at 2 (some .int), Cond.methodLink RX4 61 yX4_press, Cond.instanceMethod yX4_press, Cond.selects RX4 yX4_press yX4_press, Cond.code yX4_press cX4_press 4 (some .int), Cond.methodLink RX4 44 yX4_depth, Cond.instanceMethod yX4_depth, Cond.selects RX4 yX4_depth yX4_depth, Cond.code yX4_depth cX4_depth 5 (some .int), Cond.methodLink RX4 40 yX4_strength, Cond.instanceMethod yX4_strength, Cond.selects RX4 yX4_strength yX4_strength, Cond.code yX4_strength cX4_strength 3 (some .int)]
def wsX4_goes : List Cond := .code yX4_goes cX4_goes 4 (some .int) :: ((wsX4_goes_r1 ++ wsX4_goes_r2) ++ wsX40)
def wsX4_steep_r1 : List Cond := [Cond.methodLink RX4 26 yX4_in, Cond.static yX4_in, Cond.initialized RX4, Cond.code yX4_in cX4_in 3 (some .boolean), Cond.methodLink RX4 57 yX4_top, Cond.instanceMethod yX4_top, Cond.selects RX4 yX4_top yX4_top, Cond.code yX4_top cX4_top 1 (some .int), Cond.fieldLink RX4 7 "SnowSlabsModel" "state" "[I", Cond.methodLink RX4 82 yX4_doesGo, Cond.instanceMethod yX4_doesGo, Cond.selects RX4 yX4_doesGo yX4_doesGo, Cond.code yX4_doesGo cX4_doesGo 4 (some .boolean), Cond.methodLink RX4 37 yX4_shear, Cond.instanceMethod yX4_shear, Cond.selects RX4 yX4_shear yX4_shear, Cond.code yX4_shear cX4_shear 3 (some .int), Cond.methodLink RX4 34 yX4_load, Cond.instanceMethod yX4_load, Cond.selects RX4 yX4_load yX4_load, Cond.code yX4_load cX4_load 5 (some .int), Cond.methodLink RX4 30 yX4_at, Cond.static yX4_at, Cond.code yX4_at cX4_at 2 (some .int)]
def wsX4_steep_r2 : List Cond := [Cond.methodLink RX4 61 yX4_press, Cond.instanceMethod yX4_press, Cond.selects RX4 yX4_press yX4_press, Cond.code yX4_press cX4_press 4 (some .int), Cond.methodLink RX4 44 yX4_depth, Cond.instanceMethod yX4_depth, Cond.selects RX4 yX4_depth yX4_depth, Cond.code yX4_depth cX4_depth 5 (some .int), Cond.methodLink RX4 40 yX4_strength, Cond.instanceMethod yX4_strength, Cond.selects RX4 yX4_strength yX4_strength, Cond.code yX4_strength cX4_strength 3 (some .int)]
def wsX4_steep : List Cond := .code yX4_steep cX4_steep 5 (some .int) :: ((wsX4_steep_r1 ++ wsX4_steep_r2) ++ wsX40)
def wsX4_pack : List Cond := .code yX4_pack cX4_pack 5 (some .int) :: ([.fieldLink RX4 7 "SnowSlabsModel" "state" "[I", .methodLink RX4 26 yX4_in, .static yX4_in, .initialized RX4, .code yX4_in cX4_in 3 (some .boolean), .methodLink RX4 57 yX4_top, .instanceMethod yX4_top, .selects RX4 yX4_top yX4_top, .code yX4_top cX4_top 1 (some .int), .methodLink RX4 30 yX4_at, .static yX4_at, .code yX4_at cX4_at 2 (some .int)] ++ wsX40)
def wsX4_allThick : List Cond := .code yX4_allThick cX4_allThick 1 (some .int) :: ([.fieldLink RX4 7 "SnowSlabsModel" "state" "[I", .methodLink RX4 44 yX4_depth, .instanceMethod yX4_depth, .selects RX4 yX4_depth yX4_depth, .initialized RX4, .code yX4_depth cX4_depth 5 (some .int), .methodLink RX4 30 yX4_at, .static yX4_at, .code yX4_at cX4_at 2 (some .int)] ++ wsX40)
def wsX4_settleOne : List Cond := .code yX4_settleOne cX4_settleOne 6 none :: ([.fieldLink RX4 7 "SnowSlabsModel" "state" "[I", .methodLink RX4 30 yX4_at, .static yX4_at, .initialized RX4, .code yX4_at cX4_at 2 (some .int)] ++ wsX40)
def wsX4_settle : List Cond := .code yX4_settle cX4_settle 3 (some .int) :: ([.fieldLink RX4 7 "SnowSlabsModel" "state" "[I", .methodLink RX4 26 yX4_in, .static yX4_in, .initialized RX4, .code yX4_in cX4_in 3 (some .boolean), .methodLink RX4 30 yX4_at, .static yX4_at, .code yX4_at cX4_at 2 (some .int), .methodLink RX4 85 yX4_settleOne, .instanceMethod yX4_settleOne, .selects RX4 yX4_settleOne yX4_settleOne, .code yX4_settleOne cX4_settleOne 6 none, .methodLink RX4 88 yX4_allThick, .instanceMethod yX4_allThick, .selects RX4 yX4_allThick yX4_allThick, .code yX4_allThick cX4_allThick 1 (some .int), .methodLink RX4 44 yX4_depth, .instanceMethod yX4_depth, .selects RX4 yX4_depth yX4_depth, .code yX4_depth cX4_depth 5 (some .int)] ++ wsX40)
def wsX4_melt : List Cond := .code yX4_melt cX4_melt 4 (some .int) :: ([.fieldLink RX4 7 "SnowSlabsModel" "state" "[I", .methodLink RX4 26 yX4_in, .static yX4_in, .initialized RX4, .code yX4_in cX4_in 3 (some .boolean), .methodLink RX4 57 yX4_top, .instanceMethod yX4_top, .selects RX4 yX4_top yX4_top, .code yX4_top cX4_top 1 (some .int), .methodLink RX4 30 yX4_at, .static yX4_at, .code yX4_at cX4_at 2 (some .int)] ++ wsX40)
def wsX4_freeze : List Cond := .code yX4_freeze cX4_freeze 3 (some .int) :: ([.fieldLink RX4 7 "SnowSlabsModel" "state" "[I", .methodLink RX4 30 yX4_at, .static yX4_at, .initialized RX4, .code yX4_at cX4_at 2 (some .int)] ++ wsX40)
def wsX4_slide : List Cond := .code yX4_slide cX4_slide 1 (some .int) :: ([.fieldLink RX4 7 "SnowSlabsModel" "state" "[I"] ++ wsX40)
def wsX4_heatIn : List Cond := .code yX4_heatIn cX4_heatIn 3 (some .int) :: ([.methodLink RX4 26 yX4_in, .static yX4_in, .initialized RX4, .code yX4_in cX4_in 3 (some .boolean)])
def wsX4_heatTill : List Cond := .code yX4_heatTill cX4_heatTill 4 (some .int) :: ([.methodLink RX4 91 yX4_heatIn, .static yX4_heatIn, .initialized RX4, .code yX4_heatIn cX4_heatIn 3 (some .int), .methodLink RX4 26 yX4_in, .static yX4_in, .code yX4_in cX4_in 3 (some .boolean)])
def wsX4_isSide : List Cond := .code yX4_isSide cX4_isSide 1 (some .boolean) :: ([.methodLink RX4 26 yX4_in, .static yX4_in, .initialized RX4, .code yX4_in cX4_in 3 (some .boolean)])
def wsX4_heat : List Cond := .code yX4_heat cX4_heat 4 (some .int) :: ([.methodLink RX4 94 yX4_isSide, .static yX4_isSide, .initialized RX4, .code yX4_isSide cX4_isSide 1 (some .boolean), .methodLink RX4 26 yX4_in, .static yX4_in, .code yX4_in cX4_in 3 (some .boolean), .methodLink RX4 91 yX4_heatIn, .static yX4_heatIn, .code yX4_heatIn cX4_heatIn 3 (some .int), .methodLink RX4 97 yX4_heatTill, .static yX4_heatTill, .code yX4_heatTill cX4_heatTill 4 (some .int)])
def wsX4_warmHour : List Cond := .code yX4_warmHour cX4_warmHour 3 (some .int) :: ([.methodLink RX4 97 yX4_heatTill, .static yX4_heatTill, .initialized RX4, .code yX4_heatTill cX4_heatTill 4 (some .int), .methodLink RX4 91 yX4_heatIn, .static yX4_heatIn, .code yX4_heatIn cX4_heatIn 3 (some .int), .methodLink RX4 26 yX4_in, .static yX4_in, .code yX4_in cX4_in 3 (some .boolean)])
def wsX4_warm : List Cond := .code yX4_warm cX4_warm 3 (some .int) :: ([.methodLink RX4 94 yX4_isSide, .static yX4_isSide, .initialized RX4, .code yX4_isSide cX4_isSide 1 (some .boolean), .methodLink RX4 26 yX4_in, .static yX4_in, .code yX4_in cX4_in 3 (some .boolean), .methodLink RX4 100 yX4_warmHour, .static yX4_warmHour, .code yX4_warmHour cX4_warmHour 3 (some .int), .methodLink RX4 97 yX4_heatTill, .static yX4_heatTill, .code yX4_heatTill cX4_heatTill 4 (some .int), .methodLink RX4 91 yX4_heatIn, .static yX4_heatIn, .code yX4_heatIn cX4_heatIn 3 (some .int)])
def wsX4_order : List Cond := .code yX4_order cX4_order 6 (some .int) :: ([.methodLink RX4 26 yX4_in, .static yX4_in, .initialized RX4, .code yX4_in cX4_in 3 (some .boolean), .methodLink RX4 100 yX4_warmHour, .static yX4_warmHour, .code yX4_warmHour cX4_warmHour 3 (some .int), .methodLink RX4 97 yX4_heatTill, .static yX4_heatTill, .code yX4_heatTill cX4_heatTill 4 (some .int), .methodLink RX4 91 yX4_heatIn, .static yX4_heatIn, .code yX4_heatIn cX4_heatIn 3 (some .int)])
def wsX4_image : List Cond := .code yX4_image cX4_image 3 (some .int) :: ([.fieldLink RX4 13 "SnowSlabsModel" "images" "[I", .fieldLink RX4 7 "SnowSlabsModel" "state" "[I", .fieldLink RX4 16 "SnowSlabsModel" "isKept" "[Z", .methodLink RX4 26 yX4_in, .static yX4_in, .initialized RX4, .code yX4_in cX4_in 3 (some .boolean)] ++ wsX40)
def wsX4_restore : List Cond := .code yX4_restore cX4_restore 3 (some .int) :: ([.fieldLink RX4 16 "SnowSlabsModel" "isKept" "[Z", .fieldLink RX4 7 "SnowSlabsModel" "state" "[I", .fieldLink RX4 13 "SnowSlabsModel" "images" "[I", .methodLink RX4 26 yX4_in, .static yX4_in, .initialized RX4, .code yX4_in cX4_in 3 (some .boolean)] ++ wsX40)
def wsX4_allWeight : List Cond := .code yX4_allWeight cX4_allWeight 3 (some .int) :: ([.fieldLink RX4 7 "SnowSlabsModel" "state" "[I", .methodLink RX4 30 yX4_at, .static yX4_at, .initialized RX4, .code yX4_at cX4_at 2 (some .int)] ++ wsX40)
def wsX4_count : List Cond := .code yX4_count cX4_count 2 (some .int) :: ([.fieldLink RX4 7 "SnowSlabsModel" "state" "[I", .fieldLink RX4 16 "SnowSlabsModel" "isKept" "[Z", .methodLink RX4 26 yX4_in, .static yX4_in, .initialized RX4, .code yX4_in cX4_in 3 (some .boolean), .methodLink RX4 88 yX4_allThick, .instanceMethod yX4_allThick, .selects RX4 yX4_allThick yX4_allThick, .code yX4_allThick cX4_allThick 1 (some .int), .methodLink RX4 44 yX4_depth, .instanceMethod yX4_depth, .selects RX4 yX4_depth yX4_depth, .code yX4_depth cX4_depth 5 (some .int), .methodLink RX4 30 yX4_at, .static yX4_at, .code yX4_at cX4_at 2 (some .int), .methodLink RX4 103 yX4_allWeight, .instanceMethod yX4_allWeight, .selects RX4 yX4_allWeight yX4_allWeight, .code yX4_allWeight cX4_allWeight 3 (some .int)] ++ wsX40)
def wsJ9_abs_0f7a4 : List Cond := .code yJ9_abs_0f7a4 cJ9_abs_0f7a4 1 (some .int) :: ([])
def wsJ9_max_7cf53 : List Cond := .code yJ9_max_7cf53 cJ9_max_7cf53 2 (some .int) :: ([])
def wsJ9_min_7cf53 : List Cond := .code yJ9_min_7cf53 cJ9_min_7cf53 2 (some .int) :: ([])
def wsL_law_r1 : List Cond := [Cond.classLink RL 7 RX3, Cond.instantiable RX3 3, Cond.initialized RX3, Cond.classLink RL 10 RX4, Cond.instantiable RX4 6, Cond.initialized RX4, Cond.methodLink RL 9 yX3_init, Cond.instanceMethod yX3_init, Cond.code yX3_init cX3_init 1 none, Cond.methodLink RX3 1 objectInit, Cond.instanceMethod objectInit, Cond.code objectInit ⟨#[0xb1]⟩ 1 none, Cond.classLink RX3 7 RX0, Cond.instantiable RX0 8, Cond.initialized RX0, Cond.fieldLink RX3 10 "SnowSlabs" "cover" "LSnowSlabs$Cover;", Cond.classLink RX3 16 RX2, Cond.instantiable RX2 3, Cond.initialized RX2, Cond.fieldLink RX3 19 "SnowSlabs" "tapTest" "LSnowSlabs$TapTest;", Cond.fieldLink RX3 23 "SnowSlabs" "images" "[LSnowSlabs$Cover;", Cond.methodLink RX3 9 yX0_init, Cond.instanceMethod yX0_init, Cond.code yX0_init cX0_init 1 none]
def wsL_law_r2 : List Cond := [Cond.methodLink RX0 3 objectInit, Cond.fieldLink RX0 9 "SnowSlabs$Cover" "size" "I", Cond.fieldLink RX0 15 "SnowSlabs$Cover" "blowWeight" "I", Cond.arrayClass .int, Cond.fieldLink RX0 18 "SnowSlabs$Cover" "thick" "[I", Cond.fieldLink RX0 22 "SnowSlabs$Cover" "dense" "[I", Cond.fieldLink RX0 25 "SnowSlabs$Cover" "grain" "[I", Cond.fieldLink RX0 28 "SnowSlabs$Cover" "hard" "[I", Cond.arrayClass .boolean, Cond.fieldLink RX0 31 "SnowSlabs$Cover" "wet" "[Z", Cond.methodLink RX0 38 ⟨"[I", "clone", "()Ljava/lang/Object;"⟩, Cond.sameMethod "[I" "java/lang/Object" "clone" "()Ljava/lang/Object;", Cond.native ⟨"java/lang/Object", "clone", "()Ljava/lang/Object;"⟩, Cond.instanceMethod ⟨"java/lang/Object", "clone", "()Ljava/lang/Object;"⟩, Cond.selects "[I" ⟨"[I", "clone", "()Ljava/lang/Object;"⟩ ⟨"java/lang/Object", "clone", "()Ljava/lang/Object;"⟩, Cond.classLink RX0 39 "[I", Cond.fieldLink RX0 43 "SnowSlabs$Cover" "firmness" "[I", Cond.methodLink RX3 18 yX2_init, Cond.instanceMethod yX2_init, Cond.code yX2_init cX2_init 1 none, Cond.methodLink RX2 3 objectInit, Cond.fieldLink RX2 9 "SnowSlabs$TapTest" "breaks" "I", Cond.fieldLink RX2 15 "SnowSlabs$TapTest" "tapOf" "[I", Cond.fieldLink RX2 19 "SnowSlabs$TapTest" "layerOf" "[I"]
def wsL_law_r3 : List Cond := [Cond.methodLink RL 12 yX4_init, Cond.instanceMethod yX4_init, Cond.code yX4_init cX4_init 1 none, Cond.methodLink RX4 1 objectInit, Cond.fieldLink RX4 7 "SnowSlabsModel" "state" "[I", Cond.fieldLink RX4 13 "SnowSlabsModel" "images" "[I", Cond.fieldLink RX4 16 "SnowSlabsModel" "isKept" "[Z", Cond.fieldLink RX4 20 "SnowSlabsModel" "breakTap" "[I", Cond.fieldLink RX4 23 "SnowSlabsModel" "breakLayer" "[I", Cond.methodLink RL 13 yX3_storm, Cond.instanceMethod yX3_storm, Cond.selects RX3 yX3_storm yX3_storm, Cond.code yX3_storm cX3_storm 5 (some .int), Cond.fieldLink RX3 31 "SnowSlabs$Cover" "size" "I", Cond.methodLink RX3 27 yX3_within, Cond.static yX3_within, Cond.code yX3_within cX3_within 3 (some .boolean), Cond.methodLink RX3 35 yX0_addTop, Cond.instanceMethod yX0_addTop, Cond.selects RX0 yX0_addTop yX0_addTop, Cond.code yX0_addTop cX0_addTop 6 (some .int), Cond.methodLink RL 17 yX4_storm, Cond.instanceMethod yX4_storm, Cond.selects RX4 yX4_storm yX4_storm]
def wsL_law_r4 : List Cond := [Cond.code yX4_storm cX4_storm 6 (some .int), Cond.methodLink RX4 26 yX4_in, Cond.static yX4_in, Cond.code yX4_in cX4_in 3 (some .boolean), Cond.methodLink RX4 30 yX4_at, Cond.static yX4_at, Cond.code yX4_at cX4_at 2 (some .int), Cond.methodLink RL 18 yX3_firm, Cond.instanceMethod yX3_firm, Cond.selects RX3 yX3_firm yX3_firm, Cond.code yX3_firm cX3_firm 4 (some .int), Cond.fieldLink RX3 39 "SnowSlabs$Cover" "firmness" "[I", Cond.methodLink RL 22 yX4_firm, Cond.instanceMethod yX4_firm, Cond.selects RX4 yX4_firm yX4_firm, Cond.code yX4_firm cX4_firm 4 (some .int), Cond.methodLink RL 23 yX3_layer, Cond.instanceMethod yX3_layer, Cond.selects RX3 yX3_layer yX3_layer, Cond.code yX3_layer cX3_layer 3 (some .int), Cond.fieldLink RX3 47 "SnowSlabs$Cover" "thick" "[I", Cond.fieldLink RX3 50 "SnowSlabs$Cover" "dense" "[I", Cond.fieldLink RX3 53 "SnowSlabs$Cover" "grain" "[I", Cond.fieldLink RX3 56 "SnowSlabs$Cover" "hard" "[I"]
def wsL_law_r5 : List Cond := [Cond.fieldLink RX3 59 "SnowSlabs$Cover" "wet" "[Z", Cond.methodLink RX3 43 yX0_has, Cond.instanceMethod yX0_has, Cond.selects RX0 yX0_has yX0_has, Cond.code yX0_has cX0_has 2 (some .boolean), Cond.methodLink RX3 63 yX0_strength, Cond.instanceMethod yX0_strength, Cond.selects RX0 yX0_strength yX0_strength, Cond.code yX0_strength cX0_strength 3 (some .int), Cond.methodLink RX3 67 yX0_depth, Cond.instanceMethod yX0_depth, Cond.selects RX0 yX0_depth yX0_depth, Cond.code yX0_depth cX0_depth 5 (some .int), Cond.methodLink RX3 71 yX0_load, Cond.instanceMethod yX0_load, Cond.selects RX0 yX0_load yX0_load, Cond.code yX0_load cX0_load 3 (some .int), Cond.methodLink RX0 56 yX0_massAbove, Cond.instanceMethod yX0_massAbove, Cond.selects RX0 yX0_massAbove yX0_massAbove, Cond.code yX0_massAbove cX0_massAbove 5 (some .int), Cond.methodLink RL 26 yX4_layer, Cond.instanceMethod yX4_layer, Cond.selects RX4 yX4_layer yX4_layer]
def wsL_law_r6 : List Cond := [Cond.code yX4_layer cX4_layer 3 (some .int), Cond.methodLink RX4 47 yX4_isLayer, Cond.instanceMethod yX4_isLayer, Cond.selects RX4 yX4_isLayer yX4_isLayer, Cond.code yX4_isLayer cX4_isLayer 2 (some .boolean), Cond.methodLink RX4 40 yX4_strength, Cond.instanceMethod yX4_strength, Cond.selects RX4 yX4_strength yX4_strength, Cond.code yX4_strength cX4_strength 3 (some .int), Cond.methodLink RX4 44 yX4_depth, Cond.instanceMethod yX4_depth, Cond.selects RX4 yX4_depth yX4_depth, Cond.code yX4_depth cX4_depth 5 (some .int), Cond.methodLink RX4 34 yX4_load, Cond.instanceMethod yX4_load, Cond.selects RX4 yX4_load yX4_load, Cond.code yX4_load cX4_load 5 (some .int), Cond.methodLink RL 27 yX3_slope, Cond.instanceMethod yX3_slope, Cond.selects RX3 yX3_slope yX3_slope, Cond.code yX3_slope cX3_slope 4 (some .int), Cond.methodLink RX3 74 yX0_shear, Cond.instanceMethod yX0_shear, Cond.selects RX0 yX0_shear yX0_shear]
def wsL_law_r7 : List Cond := [Cond.code yX0_shear cX0_shear 3 (some .int), Cond.methodLink RX0 66 yX0_load, Cond.methodLink RX3 77 yX0_margin, Cond.instanceMethod yX0_margin, Cond.selects RX0 yX0_margin yX0_margin, Cond.code yX0_margin cX0_margin 4 (some .int), Cond.methodLink RX0 69 yX0_shear, Cond.methodLink RX0 72 yX0_strength, Cond.methodLink RL 31 yX4_slope, Cond.instanceMethod yX4_slope, Cond.selects RX4 yX4_slope yX4_slope, Cond.code yX4_slope cX4_slope 4 (some .int), Cond.methodLink RX4 51 yX4_isSteep, Cond.static yX4_isSteep, Cond.code yX4_isSteep cX4_isSteep 1 (some .boolean), Cond.methodLink RX4 37 yX4_shear, Cond.instanceMethod yX4_shear, Cond.selects RX4 yX4_shear yX4_shear, Cond.code yX4_shear cX4_shear 3 (some .int), Cond.methodLink RX4 54 yX4_margin, Cond.instanceMethod yX4_margin, Cond.selects RX4 yX4_margin yX4_margin, Cond.code yX4_margin cX4_margin 4 (some .int), Cond.methodLink RL 32 yX3_weakest]
def wsL_law_r8 : List Cond := [Cond.instanceMethod yX3_weakest, Cond.selects RX3 yX3_weakest yX3_weakest, Cond.code yX3_weakest cX3_weakest 4 (some .int), Cond.methodLink RX3 80 yX0_leastMargin, Cond.instanceMethod yX0_leastMargin, Cond.selects RX0 yX0_leastMargin yX0_leastMargin, Cond.code yX0_leastMargin cX0_leastMargin 6 (some .int), Cond.methodLink RX0 76 yX0_margin, Cond.methodLink RL 35 yX4_weakest, Cond.instanceMethod yX4_weakest, Cond.selects RX4 yX4_weakest yX4_weakest, Cond.code yX4_weakest cX4_weakest 5 (some .int), Cond.methodLink RX4 57 yX4_top, Cond.instanceMethod yX4_top, Cond.selects RX4 yX4_top yX4_top, Cond.code yX4_top cX4_top 1 (some .int), Cond.methodLink RL 36 yX3_blow, Cond.instanceMethod yX3_blow, Cond.selects RX3 yX3_blow yX3_blow, Cond.code yX3_blow cX3_blow 3 (some .int), Cond.fieldLink RX3 83 "SnowSlabs$Cover" "blowWeight" "I", Cond.methodLink RL 40 yX4_blow, Cond.instanceMethod yX4_blow, Cond.selects RX4 yX4_blow yX4_blow]
def wsL_law_r9 : List Cond := [Cond.code yX4_blow cX4_blow 3 (some .int), Cond.methodLink RL 41 yX3_taps, Cond.instanceMethod yX3_taps, Cond.selects RX3 yX3_taps yX3_taps, Cond.code yX3_taps cX3_taps 3 (some .int), Cond.fieldLink RX3 90 "SnowSlabs$TapTest" "breaks" "I", Cond.fieldLink RX3 93 "SnowSlabs$TapTest" "tapOf" "[I", Cond.fieldLink RX3 96 "SnowSlabs$TapTest" "layerOf" "[I", Cond.methodLink RX3 86 yX2_run, Cond.instanceMethod yX2_run, Cond.selects RX2 yX2_run yX2_run, Cond.code yX2_run cX2_run 5 none, Cond.fieldLink RX2 22 "SnowSlabs$Cover" "size" "I", Cond.fieldLink RX2 27 "SnowSlabs$Cover" "blowWeight" "I", Cond.methodLink RX2 30 yX2_weightOf, Cond.static yX2_weightOf, Cond.code yX2_weightOf cX2_weightOf 2 (some .int), Cond.methodLink RX2 34 yX0_breaking, Cond.instanceMethod yX0_breaking, Cond.selects RX0 yX0_breaking yX0_breaking, Cond.code yX0_breaking cX0_breaking 4 (some .int), Cond.methodLink RX0 79 yX0_press, Cond.instanceMethod yX0_press, Cond.selects RX0 yX0_press yX0_press]
def wsL_law_r10 : List Cond := [Cond.code yX0_press cX0_press 4 (some .int), Cond.methodLink RX0 60 yX0_depth, Cond.static yX3_cut, Cond.code yX3_cut cX3_cut 2 (some .int), Cond.methodLink RX3 99 yX2_isClean, Cond.instanceMethod yX2_isClean, Cond.selects RX2 yX2_isClean yX2_isClean, Cond.code yX2_isClean cX2_isClean 4 (some .boolean), Cond.fieldLink RX2 37 "SnowSlabs$Cover" "hard" "[I", Cond.methodLink RX2 40 Lib.Math.abs.name, Cond.static Lib.Math.abs.name, Cond.initialized "java/lang/Math", Cond.code Lib.Math.abs.name Lib.Math.abs.code 1 (some .int), Cond.methodLink RL 44 yX4_taps, Cond.instanceMethod yX4_taps, Cond.selects RX4 yX4_taps yX4_taps, Cond.code yX4_taps cX4_taps 3 (some .int), Cond.fieldLink RX4 65 "SnowSlabsModel" "breaks" "I", Cond.methodLink RX4 75 yX4_tapAll, Cond.instanceMethod yX4_tapAll, Cond.selects RX4 yX4_tapAll yX4_tapAll, Cond.code yX4_tapAll cX4_tapAll 6 none, Cond.methodLink RX4 69 yX4_weightOf, Cond.static yX4_weightOf]
def wsL_law_r11 : List Cond := [Cond.code yX4_weightOf cX4_weightOf 2 (some .int), Cond.methodLink RX4 72 yX4_broken, Cond.instanceMethod yX4_broken, Cond.selects RX4 yX4_broken yX4_broken, Cond.code yX4_broken cX4_broken 4 (some .int), Cond.methodLink RX4 61 yX4_press, Cond.instanceMethod yX4_press, Cond.selects RX4 yX4_press yX4_press, Cond.code yX4_press cX4_press 4 (some .int), Cond.methodLink RX4 79 yX4_isClean, Cond.instanceMethod yX4_isClean, Cond.selects RX4 yX4_isClean yX4_isClean, Cond.code yX4_isClean cX4_isClean 3 (some .boolean), Cond.methodLink RL 45 yX3_need, Cond.instanceMethod yX3_need, Cond.selects RX3 yX3_need yX3_need, Cond.code yX3_need cX3_need 3 (some .int), Cond.methodLink RX3 103 yX2_weightOf, Cond.methodLink RX3 106 yX0_breaking, Cond.methodLink RL 48 yX4_need, Cond.instanceMethod yX4_need, Cond.selects RX4 yX4_need yX4_need, Cond.code yX4_need cX4_need 3 (some .int), Cond.methodLink RL 49 yX3_goes]
def wsL_law_r12 : List Cond := [Cond.instanceMethod yX3_goes, Cond.selects RX3 yX3_goes yX3_goes, Cond.code yX3_goes cX3_goes 4 (some .int), Cond.methodLink RX3 109 yX0_slabGoes, Cond.instanceMethod yX0_slabGoes, Cond.selects RX0 yX0_slabGoes yX0_slabGoes, Cond.code yX0_slabGoes cX0_slabGoes 4 (some .boolean), Cond.methodLink RL 52 yX4_goes, Cond.instanceMethod yX4_goes, Cond.selects RX4 yX4_goes yX4_goes, Cond.code yX4_goes cX4_goes 4 (some .int), Cond.methodLink RX4 82 yX4_doesGo, Cond.instanceMethod yX4_doesGo, Cond.selects RX4 yX4_doesGo yX4_doesGo, Cond.code yX4_doesGo cX4_doesGo 4 (some .boolean), Cond.methodLink RL 53 yX3_steep, Cond.instanceMethod yX3_steep, Cond.selects RX3 yX3_steep yX3_steep, Cond.code yX3_steep cX3_steep 5 (some .int), Cond.methodLink RX3 112 yX0_going, Cond.instanceMethod yX0_going, Cond.selects RX0 yX0_going yX0_going, Cond.code yX0_going cX0_going 4 (some .int), Cond.methodLink RX0 83 yX0_slabGoes]
def wsL_law_r13 : List Cond := [Cond.methodLink RL 56 yX4_steep, Cond.instanceMethod yX4_steep, Cond.selects RX4 yX4_steep yX4_steep, Cond.code yX4_steep cX4_steep 5 (some .int), Cond.methodLink RL 57 yX3_pack, Cond.instanceMethod yX3_pack, Cond.selects RX3 yX3_pack yX3_pack, Cond.code yX3_pack cX3_pack 2 (some .int), Cond.methodLink RX3 115 yX0_packTop, Cond.instanceMethod yX0_packTop, Cond.selects RX0 yX0_packTop yX0_packTop, Cond.code yX0_packTop cX0_packTop 4 (some .int), Cond.methodLink RX0 86 Lib.Math.min.name, Cond.static Lib.Math.min.name, Cond.code Lib.Math.min.name Lib.Math.min.code 2 (some .int), Cond.methodLink RX0 91 Lib.Math.max.name, Cond.static Lib.Math.max.name, Cond.code Lib.Math.max.name Lib.Math.max.code 2 (some .int), Cond.methodLink RL 60 yX4_pack, Cond.instanceMethod yX4_pack, Cond.selects RX4 yX4_pack yX4_pack, Cond.code yX4_pack cX4_pack 5 (some .int), Cond.methodLink RL 61 yX3_settle, Cond.instanceMethod yX3_settle]
def wsL_law_r14 : List Cond := [Cond.selects RX3 yX3_settle yX3_settle, Cond.code yX3_settle cX3_settle 2 (some .int), Cond.methodLink RX3 118 yX0_settleAll, Cond.instanceMethod yX0_settleAll, Cond.selects RX0 yX0_settleAll yX0_settleAll, Cond.code yX0_settleAll cX0_settleAll 4 none, Cond.methodLink RX3 122 yX0_allThick, Cond.instanceMethod yX0_allThick, Cond.selects RX0 yX0_allThick yX0_allThick, Cond.code yX0_allThick cX0_allThick 1 (some .int), Cond.methodLink RL 64 yX4_settle, Cond.instanceMethod yX4_settle, Cond.selects RX4 yX4_settle yX4_settle, Cond.code yX4_settle cX4_settle 3 (some .int), Cond.methodLink RX4 85 yX4_settleOne, Cond.instanceMethod yX4_settleOne, Cond.selects RX4 yX4_settleOne yX4_settleOne, Cond.code yX4_settleOne cX4_settleOne 6 none, Cond.methodLink RX4 88 yX4_allThick, Cond.instanceMethod yX4_allThick, Cond.selects RX4 yX4_allThick yX4_allThick, Cond.code yX4_allThick cX4_allThick 1 (some .int), Cond.methodLink RL 65 yX3_melt, Cond.instanceMethod yX3_melt]
def wsL_law_r15 : List Cond := [Cond.selects RX3 yX3_melt yX3_melt, Cond.code yX3_melt cX3_melt 2 (some .int), Cond.methodLink RX3 126 yX0_meltAway, Cond.instanceMethod yX0_meltAway, Cond.selects RX0 yX0_meltAway yX0_meltAway, Cond.code yX0_meltAway cX0_meltAway 3 none, Cond.methodLink RX3 129 yX0_wetFromTop, Cond.instanceMethod yX0_wetFromTop, Cond.selects RX0 yX0_wetFromTop yX0_wetFromTop, Cond.code yX0_wetFromTop cX0_wetFromTop 2 none, Cond.methodLink RL 68 yX4_melt, Cond.instanceMethod yX4_melt, Cond.selects RX4 yX4_melt yX4_melt, Cond.code yX4_melt cX4_melt 4 (some .int), Cond.methodLink RL 69 yX3_freeze, Cond.instanceMethod yX3_freeze, Cond.selects RX3 yX3_freeze yX3_freeze, Cond.code yX3_freeze cX3_freeze 1 (some .int), Cond.methodLink RX3 132 yX0_freezeWet, Cond.instanceMethod yX0_freezeWet, Cond.selects RX0 yX0_freezeWet yX0_freezeWet, Cond.code yX0_freezeWet cX0_freezeWet 3 (some .int), Cond.methodLink RL 73 yX4_freeze, Cond.instanceMethod yX4_freeze]
def wsL_law_r16 : List Cond := [Cond.selects RX4 yX4_freeze yX4_freeze, Cond.code yX4_freeze cX4_freeze 3 (some .int), Cond.methodLink RL 74 yX3_slide, Cond.instanceMethod yX3_slide, Cond.selects RX3 yX3_slide yX3_slide, Cond.code yX3_slide cX3_slide 1 (some .int), Cond.methodLink RL 77 yX4_slide, Cond.instanceMethod yX4_slide, Cond.selects RX4 yX4_slide yX4_slide, Cond.code yX4_slide cX4_slide 1 (some .int), Cond.methodLink RL 78 yX3_heat, Cond.instanceMethod yX3_heat, Cond.selects RX3 yX3_heat yX3_heat, Cond.code yX3_heat cX3_heat 4 (some .int), Cond.methodLink RX3 135 yX1_heatIn, Cond.static yX1_heatIn, Cond.initialized RX1, Cond.code yX1_heatIn cX1_heatIn 4 (some .int), Cond.methodLink RX1 13 Lib.Math.abs.name, Cond.methodLink RX1 19 Lib.Math.min.name, Cond.methodLink RX1 23 Lib.Math.max.name, Cond.methodLink RX3 140 yX1_heatUpTo, Cond.static yX1_heatUpTo, Cond.code yX1_heatUpTo cX1_heatUpTo 4 (some .int)]
def wsL_law_r17 : List Cond := [Cond.methodLink RX1 26 yX1_heatIn, Cond.methodLink RL 81 yX4_heat, Cond.instanceMethod yX4_heat, Cond.selects RX4 yX4_heat yX4_heat, Cond.code yX4_heat cX4_heat 4 (some .int), Cond.methodLink RX4 94 yX4_isSide, Cond.static yX4_isSide, Cond.code yX4_isSide cX4_isSide 1 (some .boolean), Cond.methodLink RX4 91 yX4_heatIn, Cond.static yX4_heatIn, Cond.code yX4_heatIn cX4_heatIn 3 (some .int), Cond.methodLink RX4 97 yX4_heatTill, Cond.static yX4_heatTill, Cond.code yX4_heatTill cX4_heatTill 4 (some .int), Cond.methodLink RL 82 yX3_warm, Cond.instanceMethod yX3_warm, Cond.selects RX3 yX3_warm yX3_warm, Cond.code yX3_warm cX3_warm 3 (some .int), Cond.methodLink RX3 143 yX1_warmHour, Cond.static yX1_warmHour, Cond.code yX1_warmHour cX1_warmHour 4 (some .int), Cond.methodLink RL 85 yX4_warm, Cond.instanceMethod yX4_warm, Cond.selects RX4 yX4_warm yX4_warm]
def wsL_law_r18 : List Cond := [Cond.code yX4_warm cX4_warm 3 (some .int), Cond.methodLink RX4 100 yX4_warmHour, Cond.static yX4_warmHour, Cond.code yX4_warmHour cX4_warmHour 3 (some .int), Cond.methodLink RL 86 yX3_order, Cond.instanceMethod yX3_order, Cond.selects RX3 yX3_order yX3_order, Cond.code yX3_order cX3_order 3 (some .int), Cond.methodLink RX3 146 yX1_warmSides, Cond.static yX1_warmSides, Cond.code yX1_warmSides cX1_warmSides 3 (some .int), Cond.methodLink RX1 31 yX1_warmHour, Cond.methodLink RX3 149 yX1_sideAtPlace, Cond.static yX1_sideAtPlace, Cond.code yX1_sideAtPlace cX1_sideAtPlace 5 (some .int), Cond.methodLink RL 89 yX4_order, Cond.instanceMethod yX4_order, Cond.selects RX4 yX4_order yX4_order, Cond.code yX4_order cX4_order 6 (some .int), Cond.methodLink RL 90 yX3_image, Cond.instanceMethod yX3_image, Cond.selects RX3 yX3_image yX3_image, Cond.code yX3_image cX3_image 2 (some .int), Cond.methodLink RX3 152 yX0_takeFrom]
def wsL_law_r19 : List Cond := [Cond.instanceMethod yX0_takeFrom, Cond.selects RX0 yX0_takeFrom yX0_takeFrom, Cond.code yX0_takeFrom cX0_takeFrom 2 none, Cond.methodLink RX0 46 arraycopyName, Cond.native arraycopyName, Cond.static arraycopyName, Cond.initialized "java/lang/System", Cond.methodLink RL 93 yX4_image, Cond.instanceMethod yX4_image, Cond.selects RX4 yX4_image yX4_image, Cond.code yX4_image cX4_image 3 (some .int), Cond.methodLink RL 94 yX3_restore, Cond.instanceMethod yX3_restore, Cond.selects RX3 yX3_restore yX3_restore, Cond.code yX3_restore cX3_restore 2 (some .int), Cond.methodLink RL 97 yX4_restore, Cond.instanceMethod yX4_restore, Cond.selects RX4 yX4_restore yX4_restore, Cond.code yX4_restore cX4_restore 3 (some .int), Cond.methodLink RL 98 yX3_count, Cond.instanceMethod yX3_count, Cond.selects RX3 yX3_count yX3_count, Cond.code yX3_count cX3_count 2 (some .int), Cond.methodLink RX3 155 yX0_massAbove]
def wsL_law_r20 : List Cond := [Cond.methodLink RX3 158 yX3_keptSet, Cond.instanceMethod yX3_keptSet, Cond.selects RX3 yX3_keptSet yX3_keptSet, Cond.code yX3_keptSet cX3_keptSet 3 (some .int), Cond.methodLink RL 101 yX4_count, Cond.instanceMethod yX4_count, Cond.selects RX4 yX4_count yX4_count, Cond.code yX4_count cX4_count 2 (some .int), Cond.methodLink RX4 103 yX4_allWeight, Cond.instanceMethod yX4_allWeight, Cond.selects RX4 yX4_allWeight yX4_allWeight, Cond.code yX4_allWeight cX4_allWeight 3 (some .int)]
def wsL_law : List Cond := (wsL_law_r1 ++ (wsL_law_r2 ++ (wsL_law_r3 ++ (wsL_law_r4 ++ (wsL_law_r5 ++ (wsL_law_r6 ++ (wsL_law_r7 ++ (wsL_law_r8 ++ (wsL_law_r9 ++ (wsL_law_r10 ++ (wsL_law_r11 ++ (wsL_law_r12 ++ (wsL_law_r13 ++ (wsL_law_r14 ++ (wsL_law_r15 ++ (wsL_law_r16 ++ (wsL_law_r17 ++ (wsL_law_r18 ++ (wsL_law_r19 ++ wsL_law_r20))))))))))))))))))) ++ wsX30 ++ wsX40 ++ wsX00 ++ wsX20 ++ ([] : List Cond)
theorem sn_mem_r {big : List Cond} (ws : List Cond) (ps : List Nat) (hp : ws = ps.filterMap (fun i => big[i]?)) : ∀ w ∈ ws, w ∈ big := by
  intro w hw
  rw [hp] at hw
  obtain ⟨i, -, hi⟩ := List.mem_filterMap.mp hw
  exact List.mem_of_getElem? hi
set_option maxRecDepth 20000 in
theorem sn_wl_r1 : ∀ w ∈ wsL_law_r1, w ∈ lw_tbl := sn_mem_r _ [24, 25, 17, 343, 344, 20, 26, 27, 28, 29, 30, 31, 32, 33, 18, 105, 85, 86, 19, 106, 107, 34, 35, 36] (by decide +kernel)
set_option maxRecDepth 20000 in
theorem sn_wl_r2 : ∀ w ∈ wsL_law_r2, w ∈ lw_tbl := sn_mem_r _ [37, 47, 50, 83, 53, 55, 57, 59, 84, 62, 40, 41, 42, 43, 44, 46, 64, 87, 88, 89, 90, 91, 93, 95] (by decide +kernel)
set_option maxRecDepth 20000 in
theorem sn_wl_r3 : ∀ w ∈ wsL_law_r3, w ∈ lw_tbl := sn_mem_r _ [345, 346, 347, 348, 349, 350, 351, 352, 353, 115, 116, 117, 118, 48, 119, 120, 121, 122, 123, 124, 125, 368, 369, 370] (by decide +kernel)
set_option maxRecDepth 20000 in
theorem sn_wl_r4 : ∀ w ∈ wsL_law_r4, w ∈ lw_tbl := sn_mem_r _ [371, 372, 373, 374, 375, 376, 377, 126, 127, 128, 129, 65, 378, 379, 380, 381, 130, 131, 132, 133, 54, 56, 58, 61] (by decide +kernel)
set_option maxRecDepth 20000 in
theorem sn_wl_r5 : ∀ w ∈ wsL_law_r5, w ∈ lw_tbl := sn_mem_r _ [63, 134, 135, 136, 137, 139, 140, 141, 142, 143, 144, 145, 146, 147, 148, 149, 150, 151, 152, 153, 154, 382, 383, 384] (by decide +kernel)
set_option maxRecDepth 20000 in
theorem sn_wl_r6 : ∀ w ∈ wsL_law_r6, w ∈ lw_tbl := sn_mem_r _ [385, 386, 388, 1, 389, 390, 392, 2, 393, 394, 396, 3, 397, 398, 400, 4, 401, 155, 156, 157, 158, 159, 160, 161] (by decide +kernel)
set_option maxRecDepth 20000 in
theorem sn_wl_r7 : ∀ w ∈ wsL_law_r7, w ∈ lw_tbl := sn_mem_r _ [162, 163, 164, 165, 166, 167, 168, 169, 402, 403, 404, 405, 406, 407, 408, 409, 411, 5, 412, 413, 415, 6, 416, 170] (by decide +kernel)
set_option maxRecDepth 20000 in
theorem sn_wl_r8 : ∀ w ∈ wsL_law_r8, w ∈ lw_tbl := sn_mem_r _ [171, 172, 173, 174, 175, 176, 177, 178, 417, 418, 419, 420, 421, 423, 7, 424, 179, 180, 181, 182, 52, 425, 426, 427] (by decide +kernel)
set_option maxRecDepth 20000 in
theorem sn_wl_r9 : ∀ w ∈ wsL_law_r9, w ∈ lw_tbl := sn_mem_r _ [428, 183, 184, 185, 186, 92, 94, 96, 187, 188, 189, 190, 49, 51, 191, 192, 193, 194, 195, 196, 197, 198, 199, 200] (by decide +kernel)
set_option maxRecDepth 20000 in
theorem sn_wl_r10 : ∀ w ∈ wsL_law_r10, w ∈ lw_tbl := sn_mem_r _ [201, 202, 204, 205, 206, 207, 208, 209, 60, 210, 211, 21, 212, 429, 430, 431, 432, 354, 433, 435, 8, 436, 437, 438] (by decide +kernel)
set_option maxRecDepth 20000 in
theorem sn_wl_r11 : ∀ w ∈ wsL_law_r11, w ∈ lw_tbl := sn_mem_r _ [439, 440, 442, 9, 443, 444, 446, 10, 447, 448, 450, 11, 451, 213, 214, 215, 216, 217, 218, 452, 453, 454, 455, 219] (by decide +kernel)
set_option maxRecDepth 20000 in
theorem sn_wl_r12 : ∀ w ∈ wsL_law_r12, w ∈ lw_tbl := sn_mem_r _ [220, 221, 222, 223, 224, 225, 226, 456, 457, 458, 459, 460, 462, 12, 463, 227, 228, 229, 230, 231, 232, 233, 234, 235] (by decide +kernel)
set_option maxRecDepth 20000 in
theorem sn_wl_r13 : ∀ w ∈ wsL_law_r13, w ∈ lw_tbl := sn_mem_r _ [464, 465, 466, 467, 236, 237, 238, 239, 240, 241, 242, 243, 244, 245, 246, 247, 248, 249, 468, 469, 470, 471, 250, 251] (by decide +kernel)
set_option maxRecDepth 20000 in
theorem sn_wl_r14 : ∀ w ∈ wsL_law_r14, w ∈ lw_tbl := sn_mem_r _ [252, 253, 254, 255, 256, 257, 258, 259, 260, 261, 472, 473, 474, 475, 476, 478, 13, 479, 480, 482, 14, 483, 262, 263] (by decide +kernel)
set_option maxRecDepth 20000 in
theorem sn_wl_r15 : ∀ w ∈ wsL_law_r15, w ∈ lw_tbl := sn_mem_r _ [264, 265, 266, 267, 268, 269, 270, 271, 272, 273, 484, 485, 486, 487, 274, 275, 276, 277, 278, 279, 280, 281, 488, 489] (by decide +kernel)
set_option maxRecDepth 20000 in
theorem sn_wl_r16 : ∀ w ∈ wsL_law_r16, w ∈ lw_tbl := sn_mem_r _ [490, 491, 282, 283, 284, 285, 492, 493, 494, 495, 286, 287, 288, 289, 290, 291, 22, 292, 294, 295, 296, 297, 298, 299] (by decide +kernel)
set_option maxRecDepth 20000 in
theorem sn_wl_r17 : ∀ w ∈ wsL_law_r17, w ∈ lw_tbl := sn_mem_r _ [300, 496, 497, 498, 499, 500, 501, 502, 503, 504, 505, 506, 507, 508, 301, 302, 303, 304, 305, 306, 307, 509, 510, 511] (by decide +kernel)
set_option maxRecDepth 20000 in
theorem sn_wl_r18 : ∀ w ∈ wsL_law_r18, w ∈ lw_tbl := sn_mem_r _ [512, 513, 514, 515, 308, 309, 310, 311, 312, 313, 314, 315, 316, 317, 318, 516, 517, 518, 519, 319, 320, 321, 322, 323] (by decide +kernel)
set_option maxRecDepth 20000 in
theorem sn_wl_r19 : ∀ w ∈ wsL_law_r19, w ∈ lw_tbl := sn_mem_r _ [324, 325, 326, 327, 329, 328, 23, 520, 521, 522, 523, 330, 331, 332, 333, 524, 525, 526, 527, 334, 335, 336, 337, 338] (by decide +kernel)
set_option maxRecDepth 20000 in
theorem sn_wl_r20 : ∀ w ∈ wsL_law_r20, w ∈ lw_tbl := sn_mem_r _ [339, 341, 0, 342, 528, 529, 530, 531, 532, 534, 15, 535] (by decide +kernel)
set_option maxRecDepth 20000 in
theorem sn_wl_X3 : ∀ w ∈ wsX30, w ∈ lw_tbl := sn_mem_r _ [108, 110, 112] (by decide +kernel)
set_option maxRecDepth 20000 in
theorem sn_wl_X4 : ∀ w ∈ wsX40, w ∈ lw_tbl := sn_mem_r _ [355, 357, 359, 361, 363, 365] (by decide +kernel)
set_option maxRecDepth 20000 in
theorem sn_wl_X0 : ∀ w ∈ wsX00, w ∈ lw_tbl := sn_mem_r _ [66, 68, 70, 72, 74, 76, 78, 80] (by decide +kernel)
set_option maxRecDepth 20000 in
theorem sn_wl_X2 : ∀ w ∈ wsX20, w ∈ lw_tbl := sn_mem_r _ [97, 99, 101] (by decide +kernel)
theorem sn_app {a b c : List Cond} (h1 : ∀ w ∈ a, w ∈ c) (h2 : ∀ w ∈ b, w ∈ c) : ∀ w ∈ a ++ b, w ∈ c := fun w h => (List.mem_append.mp h).elim (h1 w) (h2 w)
theorem wsL_law_in : ∀ w ∈ wsL_law, w ∈ lw_tbl := (sn_app (sn_app (sn_app (sn_app (sn_app (sn_app sn_wl_r1 (sn_app sn_wl_r2 (sn_app sn_wl_r3 (sn_app sn_wl_r4 (sn_app sn_wl_r5 (sn_app sn_wl_r6 (sn_app sn_wl_r7 (sn_app sn_wl_r8 (sn_app sn_wl_r9 (sn_app sn_wl_r10 (sn_app sn_wl_r11 (sn_app sn_wl_r12 (sn_app sn_wl_r13 (sn_app sn_wl_r14 (sn_app sn_wl_r15 (sn_app sn_wl_r16 (sn_app sn_wl_r17 (sn_app sn_wl_r18 (sn_app sn_wl_r19 sn_wl_r20))))))))))))))))))) sn_wl_X3) sn_wl_X4) sn_wl_X0) sn_wl_X2) (fun _ h => absurd h List.not_mem_nil))
theorem inlX0 : ∀ w ∈ wsX00, w ∈ wsL_law := fun _ h => List.mem_append_left _ (List.mem_append_left _ (List.mem_append_right _ h))
theorem inX0 : ∀ w ∈ wsX00, w ∈ lw_tbl := fun w h => wsL_law_in w (inlX0 w h)
theorem inX1 : ∀ w ∈ wsX10, w ∈ lw_tbl := by decide +kernel
theorem inlX2 : ∀ w ∈ wsX20, w ∈ wsL_law := fun _ h => List.mem_append_left _ (List.mem_append_right _ h)
theorem inX2 : ∀ w ∈ wsX20, w ∈ lw_tbl := fun w h => wsL_law_in w (inlX2 w h)
theorem inlX3 : ∀ w ∈ wsX30, w ∈ wsL_law := fun _ h => List.mem_append_left _ (List.mem_append_left _ (List.mem_append_left _ (List.mem_append_left _ (List.mem_append_right _ h))))
theorem inX3 : ∀ w ∈ wsX30, w ∈ lw_tbl := fun w h => wsL_law_in w (inlX3 w h)
theorem inlX4 : ∀ w ∈ wsX40, w ∈ wsL_law := fun _ h => List.mem_append_left _ (List.mem_append_left _ (List.mem_append_left _ (List.mem_append_right _ h)))
theorem inX4 : ∀ w ∈ wsX40, w ∈ lw_tbl := fun w h => wsL_law_in w (inlX4 w h)
theorem inJx8e188 : ∀ w ∈ wsJx8e1880, w ∈ lw_tbl := by decide +kernel
theorem inJ9 : ∀ w ∈ wsJ90, w ∈ lw_tbl := by decide +kernel
theorem inJ10 : ∀ w ∈ wsJ100, w ∈ lw_tbl := by decide +kernel
end
section
theorem dX0_init_0 : decode cX0_init 0 = .ok (.aload_n 0, 1) := by decide +kernel
theorem dX0_init_1 : decode cX0_init 1 = .ok (.invokespecial 3, 3) := by decide +kernel
theorem dX0_init_4 : decode cX0_init 4 = .ok (.aload_n 0, 1) := by decide +kernel
theorem dX0_init_5 : decode cX0_init 5 = .ok (.iconst 0, 1) := by decide +kernel
theorem dX0_init_6 : decode cX0_init 6 = .ok (.putfield 9, 3) := by decide +kernel
theorem dX0_init_9 : decode cX0_init 9 = .ok (.aload_n 0, 1) := by decide +kernel
theorem dX0_init_10 : decode cX0_init 10 = .ok (.bipush 10, 2) := by decide +kernel
theorem dX0_init_12 : decode cX0_init 12 = .ok (.putfield 15, 3) := by decide +kernel
theorem dX0_init_15 : decode cX0_init 15 = .ok (.aload_n 0, 1) := by decide +kernel
theorem dX0_init_16 : decode cX0_init 16 = .ok (.bipush 10, 2) := by decide +kernel
theorem dX0_init_18 : decode cX0_init 18 = .ok (.newarray .int, 2) := by decide +kernel
theorem dX0_init_20 : decode cX0_init 20 = .ok (.putfield 18, 3) := by decide +kernel
theorem dX0_init_23 : decode cX0_init 23 = .ok (.aload_n 0, 1) := by decide +kernel
theorem dX0_init_24 : decode cX0_init 24 = .ok (.bipush 10, 2) := by decide +kernel
theorem dX0_init_26 : decode cX0_init 26 = .ok (.newarray .int, 2) := by decide +kernel
theorem dX0_init_28 : decode cX0_init 28 = .ok (.putfield 22, 3) := by decide +kernel
theorem dX0_init_31 : decode cX0_init 31 = .ok (.aload_n 0, 1) := by decide +kernel
theorem dX0_init_32 : decode cX0_init 32 = .ok (.bipush 10, 2) := by decide +kernel
theorem dX0_init_34 : decode cX0_init 34 = .ok (.newarray .int, 2) := by decide +kernel
theorem dX0_init_36 : decode cX0_init 36 = .ok (.putfield 25, 3) := by decide +kernel
theorem dX0_init_39 : decode cX0_init 39 = .ok (.aload_n 0, 1) := by decide +kernel
theorem dX0_init_40 : decode cX0_init 40 = .ok (.bipush 10, 2) := by decide +kernel
theorem dX0_init_42 : decode cX0_init 42 = .ok (.newarray .int, 2) := by decide +kernel
theorem dX0_init_44 : decode cX0_init 44 = .ok (.putfield 28, 3) := by decide +kernel
theorem dX0_init_47 : decode cX0_init 47 = .ok (.aload_n 0, 1) := by decide +kernel
theorem dX0_init_48 : decode cX0_init 48 = .ok (.bipush 10, 2) := by decide +kernel
theorem dX0_init_50 : decode cX0_init 50 = .ok (.newarray .boolean, 2) := by decide +kernel
theorem dX0_init_52 : decode cX0_init 52 = .ok (.putfield 31, 3) := by decide +kernel
theorem dX0_init_55 : decode cX0_init 55 = .ok (.aload_n 0, 1) := by decide +kernel
theorem dX0_init_56 : decode cX0_init 56 = .ok (.getstatic 35, 3) := by decide +kernel
theorem dX0_init_59 : decode cX0_init 59 = .ok (.invokevirtual 38, 3) := by decide +kernel
theorem dX0_init_62 : decode cX0_init 62 = .ok (.checkcast 39, 3) := by decide +kernel
theorem dX0_init_65 : decode cX0_init 65 = .ok (.putfield 43, 3) := by decide +kernel
theorem dX0_init_68 : decode cX0_init 68 = .ok (.return_, 1) := by decide +kernel
theorem dX0_takeFrom_0 : decode cX0_takeFrom 0 = .ok (.aload_n 0, 1) := by decide +kernel
theorem dX0_takeFrom_1 : decode cX0_takeFrom 1 = .ok (.aload_n 1, 1) := by decide +kernel
theorem dX0_takeFrom_2 : decode cX0_takeFrom 2 = .ok (.getfield 9, 3) := by decide +kernel
theorem dX0_takeFrom_5 : decode cX0_takeFrom 5 = .ok (.putfield 9, 3) := by decide +kernel
theorem dX0_takeFrom_8 : decode cX0_takeFrom 8 = .ok (.aload_n 0, 1) := by decide +kernel
theorem dX0_takeFrom_9 : decode cX0_takeFrom 9 = .ok (.aload_n 1, 1) := by decide +kernel
theorem dX0_takeFrom_10 : decode cX0_takeFrom 10 = .ok (.getfield 15, 3) := by decide +kernel
theorem dX0_takeFrom_13 : decode cX0_takeFrom 13 = .ok (.putfield 15, 3) := by decide +kernel
theorem dX0_takeFrom_16 : decode cX0_takeFrom 16 = .ok (.aload_n 1, 1) := by decide +kernel
theorem dX0_takeFrom_17 : decode cX0_takeFrom 17 = .ok (.getfield 18, 3) := by decide +kernel
theorem dX0_takeFrom_20 : decode cX0_takeFrom 20 = .ok (.iconst 0, 1) := by decide +kernel
theorem dX0_takeFrom_21 : decode cX0_takeFrom 21 = .ok (.aload_n 0, 1) := by decide +kernel
theorem dX0_takeFrom_22 : decode cX0_takeFrom 22 = .ok (.getfield 18, 3) := by decide +kernel
theorem dX0_takeFrom_25 : decode cX0_takeFrom 25 = .ok (.iconst 0, 1) := by decide +kernel
theorem dX0_takeFrom_26 : decode cX0_takeFrom 26 = .ok (.bipush 10, 2) := by decide +kernel
theorem dX0_takeFrom_28 : decode cX0_takeFrom 28 = .ok (.invokestatic 46, 3) := by decide +kernel
theorem dX0_takeFrom_31 : decode cX0_takeFrom 31 = .ok (.aload_n 1, 1) := by decide +kernel
theorem dX0_takeFrom_32 : decode cX0_takeFrom 32 = .ok (.getfield 22, 3) := by decide +kernel
theorem dX0_takeFrom_35 : decode cX0_takeFrom 35 = .ok (.iconst 0, 1) := by decide +kernel
theorem dX0_takeFrom_36 : decode cX0_takeFrom 36 = .ok (.aload_n 0, 1) := by decide +kernel
theorem dX0_takeFrom_37 : decode cX0_takeFrom 37 = .ok (.getfield 22, 3) := by decide +kernel
theorem dX0_takeFrom_40 : decode cX0_takeFrom 40 = .ok (.iconst 0, 1) := by decide +kernel
theorem dX0_takeFrom_41 : decode cX0_takeFrom 41 = .ok (.bipush 10, 2) := by decide +kernel
theorem dX0_takeFrom_43 : decode cX0_takeFrom 43 = .ok (.invokestatic 46, 3) := by decide +kernel
theorem dX0_takeFrom_46 : decode cX0_takeFrom 46 = .ok (.aload_n 1, 1) := by decide +kernel
theorem dX0_takeFrom_47 : decode cX0_takeFrom 47 = .ok (.getfield 25, 3) := by decide +kernel
theorem dX0_takeFrom_50 : decode cX0_takeFrom 50 = .ok (.iconst 0, 1) := by decide +kernel
theorem dX0_takeFrom_51 : decode cX0_takeFrom 51 = .ok (.aload_n 0, 1) := by decide +kernel
theorem dX0_takeFrom_52 : decode cX0_takeFrom 52 = .ok (.getfield 25, 3) := by decide +kernel
theorem dX0_takeFrom_55 : decode cX0_takeFrom 55 = .ok (.iconst 0, 1) := by decide +kernel
theorem dX0_takeFrom_56 : decode cX0_takeFrom 56 = .ok (.bipush 10, 2) := by decide +kernel
theorem dX0_takeFrom_58 : decode cX0_takeFrom 58 = .ok (.invokestatic 46, 3) := by decide +kernel
theorem dX0_takeFrom_61 : decode cX0_takeFrom 61 = .ok (.aload_n 1, 1) := by decide +kernel
theorem dX0_takeFrom_62 : decode cX0_takeFrom 62 = .ok (.getfield 28, 3) := by decide +kernel
theorem dX0_takeFrom_65 : decode cX0_takeFrom 65 = .ok (.iconst 0, 1) := by decide +kernel
theorem dX0_takeFrom_66 : decode cX0_takeFrom 66 = .ok (.aload_n 0, 1) := by decide +kernel
theorem dX0_takeFrom_67 : decode cX0_takeFrom 67 = .ok (.getfield 28, 3) := by decide +kernel
theorem dX0_takeFrom_70 : decode cX0_takeFrom 70 = .ok (.iconst 0, 1) := by decide +kernel
theorem dX0_takeFrom_71 : decode cX0_takeFrom 71 = .ok (.bipush 10, 2) := by decide +kernel
theorem dX0_takeFrom_73 : decode cX0_takeFrom 73 = .ok (.invokestatic 46, 3) := by decide +kernel
theorem dX0_takeFrom_76 : decode cX0_takeFrom 76 = .ok (.aload_n 1, 1) := by decide +kernel
theorem dX0_takeFrom_77 : decode cX0_takeFrom 77 = .ok (.getfield 31, 3) := by decide +kernel
theorem dX0_takeFrom_80 : decode cX0_takeFrom 80 = .ok (.iconst 0, 1) := by decide +kernel
theorem dX0_takeFrom_81 : decode cX0_takeFrom 81 = .ok (.aload_n 0, 1) := by decide +kernel
theorem dX0_takeFrom_82 : decode cX0_takeFrom 82 = .ok (.getfield 31, 3) := by decide +kernel
theorem dX0_takeFrom_85 : decode cX0_takeFrom 85 = .ok (.iconst 0, 1) := by decide +kernel
theorem dX0_takeFrom_86 : decode cX0_takeFrom 86 = .ok (.bipush 10, 2) := by decide +kernel
theorem dX0_takeFrom_88 : decode cX0_takeFrom 88 = .ok (.invokestatic 46, 3) := by decide +kernel
theorem dX0_takeFrom_91 : decode cX0_takeFrom 91 = .ok (.aload_n 1, 1) := by decide +kernel
theorem dX0_takeFrom_92 : decode cX0_takeFrom 92 = .ok (.getfield 43, 3) := by decide +kernel
theorem dX0_takeFrom_95 : decode cX0_takeFrom 95 = .ok (.iconst 0, 1) := by decide +kernel
theorem dX0_takeFrom_96 : decode cX0_takeFrom 96 = .ok (.aload_n 0, 1) := by decide +kernel
theorem dX0_takeFrom_97 : decode cX0_takeFrom 97 = .ok (.getfield 43, 3) := by decide +kernel
theorem dX0_takeFrom_100 : decode cX0_takeFrom 100 = .ok (.iconst 0, 1) := by decide +kernel
theorem dX0_takeFrom_101 : decode cX0_takeFrom 101 = .ok (.iconst 5, 1) := by decide +kernel
theorem dX0_takeFrom_102 : decode cX0_takeFrom 102 = .ok (.invokestatic 46, 3) := by decide +kernel
theorem dX0_takeFrom_105 : decode cX0_takeFrom 105 = .ok (.return_, 1) := by decide +kernel
set_option maxRecDepth 20000 in
theorem ggX0_has_X3_within : GoodIn wsX0_has wsX3_within := goodIn_r _ [4] (by decide +kernel) (by decide +kernel)
set_option maxRecDepth 20000 in
theorem gX0_has_X3_within_n52 : GoodIn wsX0_has (wsX3_within) := ggX0_has_X3_within
theorem dX0_has_0 : decode cX0_has 0 = .ok (.iload_n 1, 1) := by decide +kernel
theorem dX0_has_1 : decode cX0_has 1 = .ok (.iconst 0, 1) := by decide +kernel
theorem dX0_has_2 : decode cX0_has 2 = .ok (.aload_n 0, 1) := by decide +kernel
theorem dX0_has_3 : decode cX0_has 3 = .ok (.getfield 9, 3) := by decide +kernel
theorem dX0_has_6 : decode cX0_has 6 = .ok (.iconst 1, 1) := by decide +kernel
theorem dX0_has_7 : decode cX0_has 7 = .ok (.isub, 1) := by decide +kernel
theorem dX0_has_8 : decode cX0_has 8 = .ok (.invokestatic 52, 3) := by decide +kernel
theorem dX0_has_11 : decode cX0_has 11 = .ok (.ireturn, 1) := by decide +kernel
theorem dX0_addTop_0 : decode cX0_addTop 0 = .ok (.aload_n 0, 1) := by decide +kernel
theorem dX0_addTop_1 : decode cX0_addTop 1 = .ok (.getfield 9, 3) := by decide +kernel
theorem dX0_addTop_4 : decode cX0_addTop 4 = .ok (.istore 5, 2) := by decide +kernel
theorem dX0_addTop_6 : decode cX0_addTop 6 = .ok (.aload_n 0, 1) := by decide +kernel
theorem dX0_addTop_7 : decode cX0_addTop 7 = .ok (.getfield 18, 3) := by decide +kernel
theorem dX0_addTop_10 : decode cX0_addTop 10 = .ok (.iload 5, 2) := by decide +kernel
theorem dX0_addTop_12 : decode cX0_addTop 12 = .ok (.iload_n 1, 1) := by decide +kernel
theorem dX0_addTop_13 : decode cX0_addTop 13 = .ok (.iastore, 1) := by decide +kernel
theorem dX0_addTop_14 : decode cX0_addTop 14 = .ok (.aload_n 0, 1) := by decide +kernel
theorem dX0_addTop_15 : decode cX0_addTop 15 = .ok (.getfield 22, 3) := by decide +kernel
theorem dX0_addTop_18 : decode cX0_addTop 18 = .ok (.iload 5, 2) := by decide +kernel
theorem dX0_addTop_20 : decode cX0_addTop 20 = .ok (.iload_n 2, 1) := by decide +kernel
theorem dX0_addTop_21 : decode cX0_addTop 21 = .ok (.iastore, 1) := by decide +kernel
theorem dX0_addTop_22 : decode cX0_addTop 22 = .ok (.aload_n 0, 1) := by decide +kernel
theorem dX0_addTop_23 : decode cX0_addTop 23 = .ok (.getfield 25, 3) := by decide +kernel
theorem dX0_addTop_26 : decode cX0_addTop 26 = .ok (.iload 5, 2) := by decide +kernel
theorem dX0_addTop_28 : decode cX0_addTop 28 = .ok (.iload_n 3, 1) := by decide +kernel
theorem dX0_addTop_29 : decode cX0_addTop 29 = .ok (.iastore, 1) := by decide +kernel
theorem dX0_addTop_30 : decode cX0_addTop 30 = .ok (.aload_n 0, 1) := by decide +kernel
theorem dX0_addTop_31 : decode cX0_addTop 31 = .ok (.getfield 28, 3) := by decide +kernel
theorem dX0_addTop_34 : decode cX0_addTop 34 = .ok (.iload 5, 2) := by decide +kernel
theorem dX0_addTop_36 : decode cX0_addTop 36 = .ok (.iload 4, 2) := by decide +kernel
theorem dX0_addTop_38 : decode cX0_addTop 38 = .ok (.iastore, 1) := by decide +kernel
theorem dX0_addTop_39 : decode cX0_addTop 39 = .ok (.aload_n 0, 1) := by decide +kernel
theorem dX0_addTop_40 : decode cX0_addTop 40 = .ok (.getfield 31, 3) := by decide +kernel
theorem dX0_addTop_43 : decode cX0_addTop 43 = .ok (.iload 5, 2) := by decide +kernel
theorem dX0_addTop_45 : decode cX0_addTop 45 = .ok (.iconst 0, 1) := by decide +kernel
theorem dX0_addTop_46 : decode cX0_addTop 46 = .ok (.bastore, 1) := by decide +kernel
theorem dX0_addTop_47 : decode cX0_addTop 47 = .ok (.aload_n 0, 1) := by decide +kernel
theorem dX0_addTop_48 : decode cX0_addTop 48 = .ok (.iload 5, 2) := by decide +kernel
theorem dX0_addTop_50 : decode cX0_addTop 50 = .ok (.iconst 1, 1) := by decide +kernel
theorem dX0_addTop_51 : decode cX0_addTop 51 = .ok (.iadd, 1) := by decide +kernel
theorem dX0_addTop_52 : decode cX0_addTop 52 = .ok (.putfield 9, 3) := by decide +kernel
theorem dX0_addTop_55 : decode cX0_addTop 55 = .ok (.iload 5, 2) := by decide +kernel
theorem dX0_addTop_57 : decode cX0_addTop 57 = .ok (.ireturn, 1) := by decide +kernel
theorem dX0_strength_0 : decode cX0_strength 0 = .ok (.aload_n 0, 1) := by decide +kernel
theorem dX0_strength_1 : decode cX0_strength 1 = .ok (.getfield 43, 3) := by decide +kernel
theorem dX0_strength_4 : decode cX0_strength 4 = .ok (.aload_n 0, 1) := by decide +kernel
theorem dX0_strength_5 : decode cX0_strength 5 = .ok (.getfield 25, 3) := by decide +kernel
theorem dX0_strength_8 : decode cX0_strength 8 = .ok (.iload_n 1, 1) := by decide +kernel
theorem dX0_strength_9 : decode cX0_strength 9 = .ok (.iaload, 1) := by decide +kernel
theorem dX0_strength_10 : decode cX0_strength 10 = .ok (.iaload, 1) := by decide +kernel
theorem dX0_strength_11 : decode cX0_strength 11 = .ok (.aload_n 0, 1) := by decide +kernel
theorem dX0_strength_12 : decode cX0_strength 12 = .ok (.getfield 28, 3) := by decide +kernel
theorem dX0_strength_15 : decode cX0_strength 15 = .ok (.iload_n 1, 1) := by decide +kernel
theorem dX0_strength_16 : decode cX0_strength 16 = .ok (.iaload, 1) := by decide +kernel
theorem dX0_strength_17 : decode cX0_strength 17 = .ok (.imul, 1) := by decide +kernel
theorem dX0_strength_18 : decode cX0_strength 18 = .ok (.aload_n 0, 1) := by decide +kernel
theorem dX0_strength_19 : decode cX0_strength 19 = .ok (.getfield 22, 3) := by decide +kernel
theorem dX0_strength_22 : decode cX0_strength 22 = .ok (.iload_n 1, 1) := by decide +kernel
theorem dX0_strength_23 : decode cX0_strength 23 = .ok (.iaload, 1) := by decide +kernel
theorem dX0_strength_24 : decode cX0_strength 24 = .ok (.imul, 1) := by decide +kernel
theorem dX0_strength_25 : decode cX0_strength 25 = .ok (.bipush 100, 2) := by decide +kernel
theorem dX0_strength_27 : decode cX0_strength 27 = .ok (.idiv, 1) := by decide +kernel
theorem dX0_strength_28 : decode cX0_strength 28 = .ok (.istore_n 2, 1) := by decide +kernel
theorem dX0_strength_29 : decode cX0_strength 29 = .ok (.aload_n 0, 1) := by decide +kernel
theorem dX0_strength_30 : decode cX0_strength 30 = .ok (.getfield 31, 3) := by decide +kernel
theorem dX0_strength_33 : decode cX0_strength 33 = .ok (.iload_n 1, 1) := by decide +kernel
theorem dX0_strength_34 : decode cX0_strength 34 = .ok (.baload, 1) := by decide +kernel
theorem dX0_strength_35 : decode cX0_strength 35 = .ok (.ifCond .eq 9, 3) := by decide +kernel
theorem dX0_strength_38 : decode cX0_strength 38 = .ok (.iload_n 2, 1) := by decide +kernel
theorem dX0_strength_39 : decode cX0_strength 39 = .ok (.iconst 2, 1) := by decide +kernel
theorem dX0_strength_40 : decode cX0_strength 40 = .ok (.idiv, 1) := by decide +kernel
theorem dX0_strength_41 : decode cX0_strength 41 = .ok (.goto 4, 3) := by decide +kernel
theorem dX0_strength_44 : decode cX0_strength 44 = .ok (.iload_n 2, 1) := by decide +kernel
theorem dX0_strength_45 : decode cX0_strength 45 = .ok (.ireturn, 1) := by decide +kernel
theorem dX0_depth_0 : decode cX0_depth 0 = .ok (.iconst 0, 1) := by decide +kernel
theorem dX0_depth_1 : decode cX0_depth 1 = .ok (.istore_n 3, 1) := by decide +kernel
theorem dX0_depth_2 : decode cX0_depth 2 = .ok (.iload_n 1, 1) := by decide +kernel
theorem dX0_depth_3 : decode cX0_depth 3 = .ok (.iconst 1, 1) := by decide +kernel
theorem dX0_depth_4 : decode cX0_depth 4 = .ok (.iadd, 1) := by decide +kernel
theorem dX0_depth_5 : decode cX0_depth 5 = .ok (.istore 4, 2) := by decide +kernel
theorem dX0_depth_7 : decode cX0_depth 7 = .ok (.iload 4, 2) := by decide +kernel
theorem dX0_depth_9 : decode cX0_depth 9 = .ok (.iload_n 2, 1) := by decide +kernel
theorem dX0_depth_10 : decode cX0_depth 10 = .ok (.if_icmp .ge 19, 3) := by decide +kernel
theorem dX0_depth_13 : decode cX0_depth 13 = .ok (.iload_n 3, 1) := by decide +kernel
theorem dX0_depth_14 : decode cX0_depth 14 = .ok (.aload_n 0, 1) := by decide +kernel
theorem dX0_depth_15 : decode cX0_depth 15 = .ok (.getfield 18, 3) := by decide +kernel
theorem dX0_depth_18 : decode cX0_depth 18 = .ok (.iload 4, 2) := by decide +kernel
theorem dX0_depth_20 : decode cX0_depth 20 = .ok (.iaload, 1) := by decide +kernel
theorem dX0_depth_21 : decode cX0_depth 21 = .ok (.iadd, 1) := by decide +kernel
theorem dX0_depth_22 : decode cX0_depth 22 = .ok (.istore_n 3, 1) := by decide +kernel
theorem dX0_depth_23 : decode cX0_depth 23 = .ok (.iinc 4 1, 3) := by decide +kernel
theorem dX0_depth_26 : decode cX0_depth 26 = .ok (.goto (-19), 3) := by decide +kernel
theorem dX0_depth_29 : decode cX0_depth 29 = .ok (.iload_n 3, 1) := by decide +kernel
theorem dX0_depth_30 : decode cX0_depth 30 = .ok (.ireturn, 1) := by decide +kernel
theorem dX0_massAbove_0 : decode cX0_massAbove 0 = .ok (.iconst 0, 1) := by decide +kernel
theorem dX0_massAbove_1 : decode cX0_massAbove 1 = .ok (.istore_n 3, 1) := by decide +kernel
theorem dX0_massAbove_2 : decode cX0_massAbove 2 = .ok (.iload_n 1, 1) := by decide +kernel
theorem dX0_massAbove_3 : decode cX0_massAbove 3 = .ok (.iconst 1, 1) := by decide +kernel
theorem dX0_massAbove_4 : decode cX0_massAbove 4 = .ok (.iadd, 1) := by decide +kernel
theorem dX0_massAbove_5 : decode cX0_massAbove 5 = .ok (.istore 4, 2) := by decide +kernel
theorem dX0_massAbove_7 : decode cX0_massAbove 7 = .ok (.iload 4, 2) := by decide +kernel
theorem dX0_massAbove_9 : decode cX0_massAbove 9 = .ok (.iload_n 2, 1) := by decide +kernel
theorem dX0_massAbove_10 : decode cX0_massAbove 10 = .ok (.if_icmp .ge 27, 3) := by decide +kernel
theorem dX0_massAbove_13 : decode cX0_massAbove 13 = .ok (.iload_n 3, 1) := by decide +kernel
theorem dX0_massAbove_14 : decode cX0_massAbove 14 = .ok (.aload_n 0, 1) := by decide +kernel
theorem dX0_massAbove_15 : decode cX0_massAbove 15 = .ok (.getfield 18, 3) := by decide +kernel
theorem dX0_massAbove_18 : decode cX0_massAbove 18 = .ok (.iload 4, 2) := by decide +kernel
theorem dX0_massAbove_20 : decode cX0_massAbove 20 = .ok (.iaload, 1) := by decide +kernel
theorem dX0_massAbove_21 : decode cX0_massAbove 21 = .ok (.aload_n 0, 1) := by decide +kernel
theorem dX0_massAbove_22 : decode cX0_massAbove 22 = .ok (.getfield 22, 3) := by decide +kernel
theorem dX0_massAbove_25 : decode cX0_massAbove 25 = .ok (.iload 4, 2) := by decide +kernel
theorem dX0_massAbove_27 : decode cX0_massAbove 27 = .ok (.iaload, 1) := by decide +kernel
theorem dX0_massAbove_28 : decode cX0_massAbove 28 = .ok (.imul, 1) := by decide +kernel
theorem dX0_massAbove_29 : decode cX0_massAbove 29 = .ok (.iadd, 1) := by decide +kernel
theorem dX0_massAbove_30 : decode cX0_massAbove 30 = .ok (.istore_n 3, 1) := by decide +kernel
theorem dX0_massAbove_31 : decode cX0_massAbove 31 = .ok (.iinc 4 1, 3) := by decide +kernel
theorem dX0_massAbove_34 : decode cX0_massAbove 34 = .ok (.goto (-27), 3) := by decide +kernel
theorem dX0_massAbove_37 : decode cX0_massAbove 37 = .ok (.iload_n 3, 1) := by decide +kernel
theorem dX0_massAbove_38 : decode cX0_massAbove 38 = .ok (.ireturn, 1) := by decide +kernel
set_option maxRecDepth 20000 in
theorem ggX0_load_X0_massAbove : GoodIn wsX0_load wsX0_massAbove := goodIn_r _ [5, 6, 7, 8, 9, 10, 11, 12, 13, 14, 15] (by decide +kernel) (by decide +kernel)
set_option maxRecDepth 20000 in
theorem gX0_load_X0_massAbove : GoodIn wsX0_load (wsV RX0 56 RX0 yX0_massAbove wsX0_massAbove) := goodIn_app (goodIn_of _ (by decide +kernel)) ggX0_load_X0_massAbove
theorem dX0_load_0 : decode cX0_load 0 = .ok (.aload_n 0, 1) := by decide +kernel
theorem dX0_load_1 : decode cX0_load 1 = .ok (.iload_n 1, 1) := by decide +kernel
theorem dX0_load_2 : decode cX0_load 2 = .ok (.iload_n 2, 1) := by decide +kernel
theorem dX0_load_3 : decode cX0_load 3 = .ok (.invokevirtual 56, 3) := by decide +kernel
theorem dX0_load_6 : decode cX0_load 6 = .ok (.bipush 100, 2) := by decide +kernel
theorem dX0_load_8 : decode cX0_load 8 = .ok (.idiv, 1) := by decide +kernel
theorem dX0_load_9 : decode cX0_load 9 = .ok (.ireturn, 1) := by decide +kernel
set_option maxRecDepth 20000 in
theorem ggX0_press_X0_depth : GoodIn wsX0_press wsX0_depth := goodIn_r _ [5, 6, 10, 11, 12, 13, 14, 15, 16, 17] (by decide +kernel) (by decide +kernel)
set_option maxRecDepth 20000 in
theorem gX0_press_X0_depth : GoodIn wsX0_press (wsV RX0 60 RX0 yX0_depth wsX0_depth) := goodIn_app (goodIn_of _ (by decide +kernel)) ggX0_press_X0_depth
set_option maxRecDepth 20000 in
theorem ggX0_press_X3_cut : GoodIn wsX0_press wsX3_cut := goodIn_r _ [9] (by decide +kernel) (by decide +kernel)
set_option maxRecDepth 20000 in
theorem gX0_press_X3_cut_n63 : GoodIn wsX0_press (wsX3_cut) := ggX0_press_X3_cut
theorem dX0_press_0 : decode cX0_press 0 = .ok (.bipush 100, 2) := by decide +kernel
theorem dX0_press_2 : decode cX0_press 2 = .ok (.iload_n 3, 1) := by decide +kernel
theorem dX0_press_3 : decode cX0_press 3 = .ok (.imul, 1) := by decide +kernel
theorem dX0_press_4 : decode cX0_press 4 = .ok (.aload_n 0, 1) := by decide +kernel
theorem dX0_press_5 : decode cX0_press 5 = .ok (.iload_n 1, 1) := by decide +kernel
theorem dX0_press_6 : decode cX0_press 6 = .ok (.iload_n 2, 1) := by decide +kernel
theorem dX0_press_7 : decode cX0_press 7 = .ok (.invokevirtual 60, 3) := by decide +kernel
theorem dX0_press_10 : decode cX0_press 10 = .ok (.bipush 10, 2) := by decide +kernel
theorem dX0_press_12 : decode cX0_press 12 = .ok (.iadd, 1) := by decide +kernel
theorem dX0_press_13 : decode cX0_press 13 = .ok (.invokestatic 63, 3) := by decide +kernel
theorem dX0_press_16 : decode cX0_press 16 = .ok (.ireturn, 1) := by decide +kernel
set_option maxRecDepth 20000 in
theorem ggX0_shear_X0_load : GoodIn wsX0_shear wsX0_load := goodIn_r _ [6, 7, 8, 9, 5, 10, 11, 12, 13, 14, 15, 16, 17, 18, 19, 20] (by decide +kernel) (by decide +kernel)
set_option maxRecDepth 20000 in
theorem gX0_shear_X0_load : GoodIn wsX0_shear (wsV RX0 66 RX0 yX0_load wsX0_load) := goodIn_app (goodIn_of _ (by decide +kernel)) ggX0_shear_X0_load
theorem dX0_shear_0 : decode cX0_shear 0 = .ok (.aload_n 0, 1) := by decide +kernel
theorem dX0_shear_1 : decode cX0_shear 1 = .ok (.iload_n 1, 1) := by decide +kernel
theorem dX0_shear_2 : decode cX0_shear 2 = .ok (.aload_n 0, 1) := by decide +kernel
theorem dX0_shear_3 : decode cX0_shear 3 = .ok (.getfield 9, 3) := by decide +kernel
theorem dX0_shear_6 : decode cX0_shear 6 = .ok (.invokevirtual 66, 3) := by decide +kernel
theorem dX0_shear_9 : decode cX0_shear 9 = .ok (.iload_n 2, 1) := by decide +kernel
theorem dX0_shear_10 : decode cX0_shear 10 = .ok (.imul, 1) := by decide +kernel
theorem dX0_shear_11 : decode cX0_shear 11 = .ok (.bipush 100, 2) := by decide +kernel
theorem dX0_shear_13 : decode cX0_shear 13 = .ok (.idiv, 1) := by decide +kernel
theorem dX0_shear_14 : decode cX0_shear 14 = .ok (.ireturn, 1) := by decide +kernel
set_option maxRecDepth 20000 in
theorem ggX0_margin_X0_shear : GoodIn wsX0_margin wsX0_shear := goodIn_r _ [5, 6, 7, 8, 9, 4, 10, 11, 12, 13, 14, 15, 16, 25, 26, 27, 28, 29, 30, 31, 32] (by decide +kernel) (by decide +kernel)
set_option maxRecDepth 20000 in
theorem gX0_margin_X0_shear : GoodIn wsX0_margin (wsV RX0 69 RX0 yX0_shear wsX0_shear) := goodIn_app (goodIn_of _ (by decide +kernel)) ggX0_margin_X0_shear
set_option maxRecDepth 20000 in
theorem ggX0_margin_X0_strength : GoodIn wsX0_margin wsX0_strength := goodIn_r _ [20, 21, 22, 23, 16, 24, 25, 26, 27, 28, 29, 30, 31, 32] (by decide +kernel) (by decide +kernel)
set_option maxRecDepth 20000 in
theorem gX0_margin_X0_strength : GoodIn wsX0_margin (wsV RX0 72 RX0 yX0_strength wsX0_strength) := goodIn_app (goodIn_of _ (by decide +kernel)) ggX0_margin_X0_strength
theorem dX0_margin_0 : decode cX0_margin 0 = .ok (.aload_n 0, 1) := by decide +kernel
theorem dX0_margin_1 : decode cX0_margin 1 = .ok (.iload_n 1, 1) := by decide +kernel
theorem dX0_margin_2 : decode cX0_margin 2 = .ok (.iload_n 2, 1) := by decide +kernel
theorem dX0_margin_3 : decode cX0_margin 3 = .ok (.invokevirtual 69, 3) := by decide +kernel
theorem dX0_margin_6 : decode cX0_margin 6 = .ok (.istore_n 3, 1) := by decide +kernel
theorem dX0_margin_7 : decode cX0_margin 7 = .ok (.iload_n 3, 1) := by decide +kernel
theorem dX0_margin_8 : decode cX0_margin 8 = .ok (.ifCond .ne 9, 3) := by decide +kernel
theorem dX0_margin_11 : decode cX0_margin 11 = .ok (.sipush 9999, 3) := by decide +kernel
theorem dX0_margin_14 : decode cX0_margin 14 = .ok (.goto 13, 3) := by decide +kernel
theorem dX0_margin_17 : decode cX0_margin 17 = .ok (.bipush 100, 2) := by decide +kernel
theorem dX0_margin_19 : decode cX0_margin 19 = .ok (.aload_n 0, 1) := by decide +kernel
theorem dX0_margin_20 : decode cX0_margin 20 = .ok (.iload_n 1, 1) := by decide +kernel
theorem dX0_margin_21 : decode cX0_margin 21 = .ok (.invokevirtual 72, 3) := by decide +kernel
theorem dX0_margin_24 : decode cX0_margin 24 = .ok (.imul, 1) := by decide +kernel
theorem dX0_margin_25 : decode cX0_margin 25 = .ok (.iload_n 3, 1) := by decide +kernel
theorem dX0_margin_26 : decode cX0_margin 26 = .ok (.idiv, 1) := by decide +kernel
theorem dX0_margin_27 : decode cX0_margin 27 = .ok (.ireturn, 1) := by decide +kernel
set_option maxRecDepth 20000 in
theorem ggX0_allThick_X0_depth : GoodIn wsX0_allThick wsX0_depth := goodIn_r _ [6, 7, 8, 9, 10, 11, 12, 13, 14, 15] (by decide +kernel) (by decide +kernel)
set_option maxRecDepth 20000 in
theorem gX0_allThick_X0_depth : GoodIn wsX0_allThick (wsV RX0 60 RX0 yX0_depth wsX0_depth) := goodIn_app (goodIn_of _ (by decide +kernel)) ggX0_allThick_X0_depth
theorem dX0_allThick_0 : decode cX0_allThick 0 = .ok (.aload_n 0, 1) := by decide +kernel
theorem dX0_allThick_1 : decode cX0_allThick 1 = .ok (.iconst (-1), 1) := by decide +kernel
theorem dX0_allThick_2 : decode cX0_allThick 2 = .ok (.aload_n 0, 1) := by decide +kernel
theorem dX0_allThick_3 : decode cX0_allThick 3 = .ok (.getfield 9, 3) := by decide +kernel
theorem dX0_allThick_6 : decode cX0_allThick 6 = .ok (.invokevirtual 60, 3) := by decide +kernel
theorem dX0_allThick_9 : decode cX0_allThick 9 = .ok (.ireturn, 1) := by decide +kernel
set_option maxRecDepth 20000 in
theorem ggX0_leastMargin_X0_margin : GoodIn wsX0_leastMargin wsX0_margin := goodIn_r _ [6, 7, 8, 9, 5, 10, 1, 11, 12, 13, 14, 15, 16, 17, 18, 19, 20, 21, 22, 23, 24, 25, 26, 27, 28, 29, 30, 31, 32, 33, 34, 35, 36] (by decide +kernel) (by decide +kernel)
set_option maxRecDepth 20000 in
theorem gX0_leastMargin_X0_margin : GoodIn wsX0_leastMargin (wsV RX0 76 RX0 yX0_margin wsX0_margin) := goodIn_app (goodIn_of _ (by decide +kernel)) ggX0_leastMargin_X0_margin
theorem dX0_leastMargin_0 : decode cX0_leastMargin 0 = .ok (.bipush (-6), 2) := by decide +kernel
theorem dX0_leastMargin_2 : decode cX0_leastMargin 2 = .ok (.istore_n 2, 1) := by decide +kernel
theorem dX0_leastMargin_3 : decode cX0_leastMargin 3 = .ok (.iconst 0, 1) := by decide +kernel
theorem dX0_leastMargin_4 : decode cX0_leastMargin 4 = .ok (.istore_n 3, 1) := by decide +kernel
theorem dX0_leastMargin_5 : decode cX0_leastMargin 5 = .ok (.aload_n 0, 1) := by decide +kernel
theorem dX0_leastMargin_6 : decode cX0_leastMargin 6 = .ok (.getfield 9, 3) := by decide +kernel
theorem dX0_leastMargin_9 : decode cX0_leastMargin 9 = .ok (.iconst 2, 1) := by decide +kernel
theorem dX0_leastMargin_10 : decode cX0_leastMargin 10 = .ok (.isub, 1) := by decide +kernel
theorem dX0_leastMargin_11 : decode cX0_leastMargin 11 = .ok (.istore 4, 2) := by decide +kernel
theorem dX0_leastMargin_13 : decode cX0_leastMargin 13 = .ok (.iload 4, 2) := by decide +kernel
theorem dX0_leastMargin_15 : decode cX0_leastMargin 15 = .ok (.ifCond .lt 36, 3) := by decide +kernel
theorem dX0_leastMargin_18 : decode cX0_leastMargin 18 = .ok (.aload_n 0, 1) := by decide +kernel
theorem dX0_leastMargin_19 : decode cX0_leastMargin 19 = .ok (.iload 4, 2) := by decide +kernel
theorem dX0_leastMargin_21 : decode cX0_leastMargin 21 = .ok (.iload_n 1, 1) := by decide +kernel
theorem dX0_leastMargin_22 : decode cX0_leastMargin 22 = .ok (.invokevirtual 76, 3) := by decide +kernel
theorem dX0_leastMargin_25 : decode cX0_leastMargin 25 = .ok (.istore 5, 2) := by decide +kernel
theorem dX0_leastMargin_27 : decode cX0_leastMargin 27 = .ok (.iload_n 2, 1) := by decide +kernel
theorem dX0_leastMargin_28 : decode cX0_leastMargin 28 = .ok (.bipush (-6), 2) := by decide +kernel
theorem dX0_leastMargin_30 : decode cX0_leastMargin 30 = .ok (.if_icmp .eq 9, 3) := by decide +kernel
theorem dX0_leastMargin_33 : decode cX0_leastMargin 33 = .ok (.iload 5, 2) := by decide +kernel
theorem dX0_leastMargin_35 : decode cX0_leastMargin 35 = .ok (.iload_n 3, 1) := by decide +kernel
theorem dX0_leastMargin_36 : decode cX0_leastMargin 36 = .ok (.if_icmp .ge 9, 3) := by decide +kernel
theorem dX0_leastMargin_39 : decode cX0_leastMargin 39 = .ok (.iload 4, 2) := by decide +kernel
theorem dX0_leastMargin_41 : decode cX0_leastMargin 41 = .ok (.istore_n 2, 1) := by decide +kernel
theorem dX0_leastMargin_42 : decode cX0_leastMargin 42 = .ok (.iload 5, 2) := by decide +kernel
theorem dX0_leastMargin_44 : decode cX0_leastMargin 44 = .ok (.istore_n 3, 1) := by decide +kernel
theorem dX0_leastMargin_45 : decode cX0_leastMargin 45 = .ok (.iinc 4 (-1), 3) := by decide +kernel
theorem dX0_leastMargin_48 : decode cX0_leastMargin 48 = .ok (.goto (-35), 3) := by decide +kernel
theorem dX0_leastMargin_51 : decode cX0_leastMargin 51 = .ok (.iload_n 2, 1) := by decide +kernel
theorem dX0_leastMargin_52 : decode cX0_leastMargin 52 = .ok (.ireturn, 1) := by decide +kernel
set_option maxRecDepth 20000 in
theorem ggX0_breaking_X0_load : GoodIn wsX0_breaking wsX0_load := goodIn_r _ [5, 6, 7, 8, 4, 9, 10, 11, 31, 32, 33, 34, 35, 36, 37, 38] (by decide +kernel) (by decide +kernel)
set_option maxRecDepth 20000 in
theorem gX0_breaking_X0_load : GoodIn wsX0_breaking (wsV RX0 66 RX0 yX0_load wsX0_load) := goodIn_app (goodIn_of _ (by decide +kernel)) ggX0_breaking_X0_load
set_option maxRecDepth 20000 in
theorem ggX0_breaking_X0_press : GoodIn wsX0_breaking wsX0_press := goodIn_r _ [15, 16, 17, 18, 4, 19, 10, 20, 21, 22, 31, 32, 33, 34, 35, 36, 37, 38] (by decide +kernel) (by decide +kernel)
set_option maxRecDepth 20000 in
theorem gX0_breaking_X0_press : GoodIn wsX0_breaking (wsV RX0 79 RX0 yX0_press wsX0_press) := goodIn_app (goodIn_of _ (by decide +kernel)) ggX0_breaking_X0_press
set_option maxRecDepth 20000 in
theorem ggX0_breaking_X0_strength : GoodIn wsX0_breaking wsX0_strength := goodIn_r _ [26, 27, 28, 29, 11, 30, 31, 32, 33, 34, 35, 36, 37, 38] (by decide +kernel) (by decide +kernel)
set_option maxRecDepth 20000 in
theorem gX0_breaking_X0_strength : GoodIn wsX0_breaking (wsV RX0 72 RX0 yX0_strength wsX0_strength) := goodIn_app (goodIn_of _ (by decide +kernel)) ggX0_breaking_X0_strength
theorem dX0_breaking_0 : decode cX0_breaking 0 = .ok (.iload_n 1, 1) := by decide +kernel
theorem dX0_breaking_1 : decode cX0_breaking 1 = .ok (.iconst 2, 1) := by decide +kernel
theorem dX0_breaking_2 : decode cX0_breaking 2 = .ok (.isub, 1) := by decide +kernel
theorem dX0_breaking_3 : decode cX0_breaking 3 = .ok (.istore_n 3, 1) := by decide +kernel
theorem dX0_breaking_4 : decode cX0_breaking 4 = .ok (.iload_n 3, 1) := by decide +kernel
theorem dX0_breaking_5 : decode cX0_breaking 5 = .ok (.ifCond .lt 33, 3) := by decide +kernel
theorem dX0_breaking_8 : decode cX0_breaking 8 = .ok (.aload_n 0, 1) := by decide +kernel
theorem dX0_breaking_9 : decode cX0_breaking 9 = .ok (.iload_n 3, 1) := by decide +kernel
theorem dX0_breaking_10 : decode cX0_breaking 10 = .ok (.iload_n 1, 1) := by decide +kernel
theorem dX0_breaking_11 : decode cX0_breaking 11 = .ok (.invokevirtual 66, 3) := by decide +kernel
theorem dX0_breaking_14 : decode cX0_breaking 14 = .ok (.aload_n 0, 1) := by decide +kernel
theorem dX0_breaking_15 : decode cX0_breaking 15 = .ok (.iload_n 3, 1) := by decide +kernel
theorem dX0_breaking_16 : decode cX0_breaking 16 = .ok (.iload_n 1, 1) := by decide +kernel
theorem dX0_breaking_17 : decode cX0_breaking 17 = .ok (.iload_n 2, 1) := by decide +kernel
theorem dX0_breaking_18 : decode cX0_breaking 18 = .ok (.invokevirtual 79, 3) := by decide +kernel
theorem dX0_breaking_21 : decode cX0_breaking 21 = .ok (.iadd, 1) := by decide +kernel
theorem dX0_breaking_22 : decode cX0_breaking 22 = .ok (.aload_n 0, 1) := by decide +kernel
theorem dX0_breaking_23 : decode cX0_breaking 23 = .ok (.iload_n 3, 1) := by decide +kernel
theorem dX0_breaking_24 : decode cX0_breaking 24 = .ok (.invokevirtual 72, 3) := by decide +kernel
theorem dX0_breaking_27 : decode cX0_breaking 27 = .ok (.if_icmp .lt 5, 3) := by decide +kernel
theorem dX0_breaking_30 : decode cX0_breaking 30 = .ok (.iload_n 3, 1) := by decide +kernel
theorem dX0_breaking_31 : decode cX0_breaking 31 = .ok (.ireturn, 1) := by decide +kernel
theorem dX0_breaking_32 : decode cX0_breaking 32 = .ok (.iinc 3 (-1), 3) := by decide +kernel
theorem dX0_breaking_35 : decode cX0_breaking 35 = .ok (.goto (-31), 3) := by decide +kernel
theorem dX0_breaking_38 : decode cX0_breaking 38 = .ok (.bipush (-6), 2) := by decide +kernel
theorem dX0_breaking_40 : decode cX0_breaking 40 = .ok (.ireturn, 1) := by decide +kernel
set_option maxRecDepth 20000 in
theorem ggX0_slabGoes_X0_shear : GoodIn wsX0_slabGoes wsX0_shear := goodIn_r _ [6, 1, 7, 8, 9, 5, 10, 11, 12, 13, 14, 15, 16, 36, 37, 38, 39, 40, 41, 42, 43] (by decide +kernel) (by decide +kernel)
set_option maxRecDepth 20000 in
theorem gX0_slabGoes_X0_shear : GoodIn wsX0_slabGoes (wsV RX0 69 RX0 yX0_shear wsX0_shear) := goodIn_app (goodIn_of _ (by decide +kernel)) ggX0_slabGoes_X0_shear
set_option maxRecDepth 20000 in
theorem ggX0_slabGoes_X0_press : GoodIn wsX0_slabGoes wsX0_press := goodIn_r _ [20, 21, 22, 23, 5, 24, 15, 25, 26, 27, 36, 37, 38, 39, 40, 41, 42, 43] (by decide +kernel) (by decide +kernel)
set_option maxRecDepth 20000 in
theorem gX0_slabGoes_X0_press : GoodIn wsX0_slabGoes (wsV RX0 79 RX0 yX0_press wsX0_press) := goodIn_app (goodIn_of _ (by decide +kernel)) ggX0_slabGoes_X0_press
set_option maxRecDepth 20000 in
theorem ggX0_slabGoes_X0_strength : GoodIn wsX0_slabGoes wsX0_strength := goodIn_r _ [31, 32, 33, 34, 16, 35, 36, 37, 38, 39, 40, 41, 42, 43] (by decide +kernel) (by decide +kernel)
set_option maxRecDepth 20000 in
theorem gX0_slabGoes_X0_strength : GoodIn wsX0_slabGoes (wsV RX0 72 RX0 yX0_strength wsX0_strength) := goodIn_app (goodIn_of _ (by decide +kernel)) ggX0_slabGoes_X0_strength
theorem dX0_slabGoes_0 : decode cX0_slabGoes 0 = .ok (.aload_n 0, 1) := by decide +kernel
theorem dX0_slabGoes_1 : decode cX0_slabGoes 1 = .ok (.iload_n 1, 1) := by decide +kernel
theorem dX0_slabGoes_2 : decode cX0_slabGoes 2 = .ok (.iload_n 2, 1) := by decide +kernel
theorem dX0_slabGoes_3 : decode cX0_slabGoes 3 = .ok (.invokevirtual 69, 3) := by decide +kernel
theorem dX0_slabGoes_6 : decode cX0_slabGoes 6 = .ok (.aload_n 0, 1) := by decide +kernel
theorem dX0_slabGoes_7 : decode cX0_slabGoes 7 = .ok (.iload_n 1, 1) := by decide +kernel
theorem dX0_slabGoes_8 : decode cX0_slabGoes 8 = .ok (.aload_n 0, 1) := by decide +kernel
theorem dX0_slabGoes_9 : decode cX0_slabGoes 9 = .ok (.getfield 9, 3) := by decide +kernel
theorem dX0_slabGoes_12 : decode cX0_slabGoes 12 = .ok (.iload_n 3, 1) := by decide +kernel
theorem dX0_slabGoes_13 : decode cX0_slabGoes 13 = .ok (.invokevirtual 79, 3) := by decide +kernel
theorem dX0_slabGoes_16 : decode cX0_slabGoes 16 = .ok (.iadd, 1) := by decide +kernel
theorem dX0_slabGoes_17 : decode cX0_slabGoes 17 = .ok (.aload_n 0, 1) := by decide +kernel
theorem dX0_slabGoes_18 : decode cX0_slabGoes 18 = .ok (.iload_n 1, 1) := by decide +kernel
theorem dX0_slabGoes_19 : decode cX0_slabGoes 19 = .ok (.invokevirtual 72, 3) := by decide +kernel
theorem dX0_slabGoes_22 : decode cX0_slabGoes 22 = .ok (.if_icmp .lt 7, 3) := by decide +kernel
theorem dX0_slabGoes_25 : decode cX0_slabGoes 25 = .ok (.iconst 1, 1) := by decide +kernel
theorem dX0_slabGoes_26 : decode cX0_slabGoes 26 = .ok (.goto 4, 3) := by decide +kernel
theorem dX0_slabGoes_29 : decode cX0_slabGoes 29 = .ok (.iconst 0, 1) := by decide +kernel
theorem dX0_slabGoes_30 : decode cX0_slabGoes 30 = .ok (.ireturn, 1) := by decide +kernel
set_option maxRecDepth 20000 in
theorem ggX0_going_X0_slabGoes : GoodIn wsX0_going wsX0_slabGoes := goodIn_r _ [6, 1, 7, 8, 9, 5, 10, 11, 12, 13, 14, 15, 16, 17, 18, 19, 20, 21, 22, 23, 24, 25, 26, 27, 28, 29, 30, 31, 32, 33, 34, 35, 36, 37, 38, 39, 40, 41, 42, 43, 44, 45, 46, 47] (by decide +kernel) (by decide +kernel)
set_option maxRecDepth 20000 in
theorem gX0_going_X0_slabGoes : GoodIn wsX0_going (wsV RX0 83 RX0 yX0_slabGoes wsX0_slabGoes) := goodIn_app (goodIn_of _ (by decide +kernel)) ggX0_going_X0_slabGoes
theorem dX0_going_0 : decode cX0_going 0 = .ok (.aload_n 0, 1) := by decide +kernel
theorem dX0_going_1 : decode cX0_going 1 = .ok (.getfield 9, 3) := by decide +kernel
theorem dX0_going_4 : decode cX0_going 4 = .ok (.iconst 2, 1) := by decide +kernel
theorem dX0_going_5 : decode cX0_going 5 = .ok (.isub, 1) := by decide +kernel
theorem dX0_going_6 : decode cX0_going 6 = .ok (.istore_n 3, 1) := by decide +kernel
theorem dX0_going_7 : decode cX0_going 7 = .ok (.iload_n 3, 1) := by decide +kernel
theorem dX0_going_8 : decode cX0_going 8 = .ok (.ifCond .lt 21, 3) := by decide +kernel
theorem dX0_going_11 : decode cX0_going 11 = .ok (.aload_n 0, 1) := by decide +kernel
theorem dX0_going_12 : decode cX0_going 12 = .ok (.iload_n 3, 1) := by decide +kernel
theorem dX0_going_13 : decode cX0_going 13 = .ok (.iload_n 1, 1) := by decide +kernel
theorem dX0_going_14 : decode cX0_going 14 = .ok (.iload_n 2, 1) := by decide +kernel
theorem dX0_going_15 : decode cX0_going 15 = .ok (.invokevirtual 83, 3) := by decide +kernel
theorem dX0_going_18 : decode cX0_going 18 = .ok (.ifCond .eq 5, 3) := by decide +kernel
theorem dX0_going_21 : decode cX0_going 21 = .ok (.iload_n 3, 1) := by decide +kernel
theorem dX0_going_22 : decode cX0_going 22 = .ok (.ireturn, 1) := by decide +kernel
theorem dX0_going_23 : decode cX0_going 23 = .ok (.iinc 3 (-1), 3) := by decide +kernel
theorem dX0_going_26 : decode cX0_going 26 = .ok (.goto (-19), 3) := by decide +kernel
theorem dX0_going_29 : decode cX0_going 29 = .ok (.bipush (-6), 2) := by decide +kernel
theorem dX0_going_31 : decode cX0_going 31 = .ok (.ireturn, 1) := by decide +kernel
set_option maxRecDepth 20000 in
theorem ggX0_packTop_X3_cut : GoodIn wsX0_packTop wsX3_cut := goodIn_r _ [14] (by decide +kernel) (by decide +kernel)
set_option maxRecDepth 20000 in
theorem gX0_packTop_X3_cut_n63 : GoodIn wsX0_packTop (wsX3_cut) := ggX0_packTop_X3_cut
theorem dX0_packTop_0 : decode cX0_packTop 0 = .ok (.aload_n 0, 1) := by decide +kernel
theorem dX0_packTop_1 : decode cX0_packTop 1 = .ok (.getfield 9, 3) := by decide +kernel
theorem dX0_packTop_4 : decode cX0_packTop 4 = .ok (.iconst 1, 1) := by decide +kernel
theorem dX0_packTop_5 : decode cX0_packTop 5 = .ok (.isub, 1) := by decide +kernel
theorem dX0_packTop_6 : decode cX0_packTop 6 = .ok (.istore_n 2, 1) := by decide +kernel
theorem dX0_packTop_7 : decode cX0_packTop 7 = .ok (.aload_n 0, 1) := by decide +kernel
theorem dX0_packTop_8 : decode cX0_packTop 8 = .ok (.getfield 22, 3) := by decide +kernel
theorem dX0_packTop_11 : decode cX0_packTop 11 = .ok (.iload_n 2, 1) := by decide +kernel
theorem dX0_packTop_12 : decode cX0_packTop 12 = .ok (.iaload, 1) := by decide +kernel
theorem dX0_packTop_13 : decode cX0_packTop 13 = .ok (.istore_n 3, 1) := by decide +kernel
theorem dX0_packTop_14 : decode cX0_packTop 14 = .ok (.aload_n 0, 1) := by decide +kernel
theorem dX0_packTop_15 : decode cX0_packTop 15 = .ok (.getfield 22, 3) := by decide +kernel
theorem dX0_packTop_18 : decode cX0_packTop 18 = .ok (.iload_n 2, 1) := by decide +kernel
theorem dX0_packTop_19 : decode cX0_packTop 19 = .ok (.sipush 600, 3) := by decide +kernel
theorem dX0_packTop_22 : decode cX0_packTop 22 = .ok (.iload_n 3, 1) := by decide +kernel
theorem dX0_packTop_23 : decode cX0_packTop 23 = .ok (.iload_n 1, 1) := by decide +kernel
theorem dX0_packTop_24 : decode cX0_packTop 24 = .ok (.iadd, 1) := by decide +kernel
theorem dX0_packTop_25 : decode cX0_packTop 25 = .ok (.invokestatic 86, 3) := by decide +kernel
theorem dX0_packTop_28 : decode cX0_packTop 28 = .ok (.iastore, 1) := by decide +kernel
theorem dX0_packTop_29 : decode cX0_packTop 29 = .ok (.aload_n 0, 1) := by decide +kernel
theorem dX0_packTop_30 : decode cX0_packTop 30 = .ok (.getfield 18, 3) := by decide +kernel
theorem dX0_packTop_33 : decode cX0_packTop 33 = .ok (.iload_n 2, 1) := by decide +kernel
theorem dX0_packTop_34 : decode cX0_packTop 34 = .ok (.iconst 1, 1) := by decide +kernel
theorem dX0_packTop_35 : decode cX0_packTop 35 = .ok (.aload_n 0, 1) := by decide +kernel
theorem dX0_packTop_36 : decode cX0_packTop 36 = .ok (.getfield 18, 3) := by decide +kernel
theorem dX0_packTop_39 : decode cX0_packTop 39 = .ok (.iload_n 2, 1) := by decide +kernel
theorem dX0_packTop_40 : decode cX0_packTop 40 = .ok (.iaload, 1) := by decide +kernel
theorem dX0_packTop_41 : decode cX0_packTop 41 = .ok (.iload_n 3, 1) := by decide +kernel
theorem dX0_packTop_42 : decode cX0_packTop 42 = .ok (.imul, 1) := by decide +kernel
theorem dX0_packTop_43 : decode cX0_packTop 43 = .ok (.aload_n 0, 1) := by decide +kernel
theorem dX0_packTop_44 : decode cX0_packTop 44 = .ok (.getfield 22, 3) := by decide +kernel
theorem dX0_packTop_47 : decode cX0_packTop 47 = .ok (.iload_n 2, 1) := by decide +kernel
theorem dX0_packTop_48 : decode cX0_packTop 48 = .ok (.iaload, 1) := by decide +kernel
theorem dX0_packTop_49 : decode cX0_packTop 49 = .ok (.invokestatic 63, 3) := by decide +kernel
theorem dX0_packTop_52 : decode cX0_packTop 52 = .ok (.invokestatic 91, 3) := by decide +kernel
theorem dX0_packTop_55 : decode cX0_packTop 55 = .ok (.iastore, 1) := by decide +kernel
theorem dX0_packTop_56 : decode cX0_packTop 56 = .ok (.aload_n 0, 1) := by decide +kernel
theorem dX0_packTop_57 : decode cX0_packTop 57 = .ok (.getfield 28, 3) := by decide +kernel
theorem dX0_packTop_60 : decode cX0_packTop 60 = .ok (.iload_n 2, 1) := by decide +kernel
theorem dX0_packTop_61 : decode cX0_packTop 61 = .ok (.iconst 5, 1) := by decide +kernel
theorem dX0_packTop_62 : decode cX0_packTop 62 = .ok (.aload_n 0, 1) := by decide +kernel
theorem dX0_packTop_63 : decode cX0_packTop 63 = .ok (.getfield 28, 3) := by decide +kernel
theorem dX0_packTop_66 : decode cX0_packTop 66 = .ok (.iload_n 2, 1) := by decide +kernel
theorem dX0_packTop_67 : decode cX0_packTop 67 = .ok (.iaload, 1) := by decide +kernel
theorem dX0_packTop_68 : decode cX0_packTop 68 = .ok (.iconst 1, 1) := by decide +kernel
theorem dX0_packTop_69 : decode cX0_packTop 69 = .ok (.iadd, 1) := by decide +kernel
theorem dX0_packTop_70 : decode cX0_packTop 70 = .ok (.invokestatic 86, 3) := by decide +kernel
theorem dX0_packTop_73 : decode cX0_packTop 73 = .ok (.iastore, 1) := by decide +kernel
theorem dX0_packTop_74 : decode cX0_packTop 74 = .ok (.aload_n 0, 1) := by decide +kernel
theorem dX0_packTop_75 : decode cX0_packTop 75 = .ok (.getfield 28, 3) := by decide +kernel
theorem dX0_packTop_78 : decode cX0_packTop 78 = .ok (.iload_n 2, 1) := by decide +kernel
theorem dX0_packTop_79 : decode cX0_packTop 79 = .ok (.iaload, 1) := by decide +kernel
theorem dX0_packTop_80 : decode cX0_packTop 80 = .ok (.ireturn, 1) := by decide +kernel
set_option maxRecDepth 20000 in
theorem ggX0_settleAll_X3_cut : GoodIn wsX0_settleAll wsX3_cut := goodIn_r _ [14] (by decide +kernel) (by decide +kernel)
set_option maxRecDepth 20000 in
theorem gX0_settleAll_X3_cut_n63 : GoodIn wsX0_settleAll (wsX3_cut) := ggX0_settleAll_X3_cut
theorem dX0_settleAll_0 : decode cX0_settleAll 0 = .ok (.iconst 0, 1) := by decide +kernel
theorem dX0_settleAll_1 : decode cX0_settleAll 1 = .ok (.istore_n 2, 1) := by decide +kernel
theorem dX0_settleAll_2 : decode cX0_settleAll 2 = .ok (.iload_n 2, 1) := by decide +kernel
theorem dX0_settleAll_3 : decode cX0_settleAll 3 = .ok (.aload_n 0, 1) := by decide +kernel
theorem dX0_settleAll_4 : decode cX0_settleAll 4 = .ok (.getfield 9, 3) := by decide +kernel
theorem dX0_settleAll_7 : decode cX0_settleAll 7 = .ok (.if_icmp .ge 79, 3) := by decide +kernel
theorem dX0_settleAll_10 : decode cX0_settleAll 10 = .ok (.aload_n 0, 1) := by decide +kernel
theorem dX0_settleAll_11 : decode cX0_settleAll 11 = .ok (.getfield 25, 3) := by decide +kernel
theorem dX0_settleAll_14 : decode cX0_settleAll 14 = .ok (.iload_n 2, 1) := by decide +kernel
theorem dX0_settleAll_15 : decode cX0_settleAll 15 = .ok (.iaload, 1) := by decide +kernel
theorem dX0_settleAll_16 : decode cX0_settleAll 16 = .ok (.iconst 4, 1) := by decide +kernel
theorem dX0_settleAll_17 : decode cX0_settleAll 17 = .ok (.if_icmp .eq 63, 3) := by decide +kernel
theorem dX0_settleAll_20 : decode cX0_settleAll 20 = .ok (.aload_n 0, 1) := by decide +kernel
theorem dX0_settleAll_21 : decode cX0_settleAll 21 = .ok (.getfield 18, 3) := by decide +kernel
theorem dX0_settleAll_24 : decode cX0_settleAll 24 = .ok (.iload_n 2, 1) := by decide +kernel
theorem dX0_settleAll_25 : decode cX0_settleAll 25 = .ok (.iaload, 1) := by decide +kernel
theorem dX0_settleAll_26 : decode cX0_settleAll 26 = .ok (.aload_n 0, 1) := by decide +kernel
theorem dX0_settleAll_27 : decode cX0_settleAll 27 = .ok (.getfield 22, 3) := by decide +kernel
theorem dX0_settleAll_30 : decode cX0_settleAll 30 = .ok (.iload_n 2, 1) := by decide +kernel
theorem dX0_settleAll_31 : decode cX0_settleAll 31 = .ok (.iaload, 1) := by decide +kernel
theorem dX0_settleAll_32 : decode cX0_settleAll 32 = .ok (.imul, 1) := by decide +kernel
theorem dX0_settleAll_33 : decode cX0_settleAll 33 = .ok (.istore_n 3, 1) := by decide +kernel
theorem dX0_settleAll_34 : decode cX0_settleAll 34 = .ok (.aload_n 0, 1) := by decide +kernel
theorem dX0_settleAll_35 : decode cX0_settleAll 35 = .ok (.getfield 18, 3) := by decide +kernel
theorem dX0_settleAll_38 : decode cX0_settleAll 38 = .ok (.iload_n 2, 1) := by decide +kernel
theorem dX0_settleAll_39 : decode cX0_settleAll 39 = .ok (.iconst 1, 1) := by decide +kernel
theorem dX0_settleAll_40 : decode cX0_settleAll 40 = .ok (.aload_n 0, 1) := by decide +kernel
theorem dX0_settleAll_41 : decode cX0_settleAll 41 = .ok (.getfield 18, 3) := by decide +kernel
theorem dX0_settleAll_44 : decode cX0_settleAll 44 = .ok (.iload_n 2, 1) := by decide +kernel
theorem dX0_settleAll_45 : decode cX0_settleAll 45 = .ok (.iaload, 1) := by decide +kernel
theorem dX0_settleAll_46 : decode cX0_settleAll 46 = .ok (.bipush 100, 2) := by decide +kernel
theorem dX0_settleAll_48 : decode cX0_settleAll 48 = .ok (.iload_n 1, 1) := by decide +kernel
theorem dX0_settleAll_49 : decode cX0_settleAll 49 = .ok (.isub, 1) := by decide +kernel
theorem dX0_settleAll_50 : decode cX0_settleAll 50 = .ok (.imul, 1) := by decide +kernel
theorem dX0_settleAll_51 : decode cX0_settleAll 51 = .ok (.bipush 100, 2) := by decide +kernel
theorem dX0_settleAll_53 : decode cX0_settleAll 53 = .ok (.idiv, 1) := by decide +kernel
theorem dX0_settleAll_54 : decode cX0_settleAll 54 = .ok (.invokestatic 91, 3) := by decide +kernel
theorem dX0_settleAll_57 : decode cX0_settleAll 57 = .ok (.iastore, 1) := by decide +kernel
theorem dX0_settleAll_58 : decode cX0_settleAll 58 = .ok (.aload_n 0, 1) := by decide +kernel
theorem dX0_settleAll_59 : decode cX0_settleAll 59 = .ok (.getfield 22, 3) := by decide +kernel
theorem dX0_settleAll_62 : decode cX0_settleAll 62 = .ok (.iload_n 2, 1) := by decide +kernel
theorem dX0_settleAll_63 : decode cX0_settleAll 63 = .ok (.sipush 600, 3) := by decide +kernel
theorem dX0_settleAll_66 : decode cX0_settleAll 66 = .ok (.iload_n 3, 1) := by decide +kernel
theorem dX0_settleAll_67 : decode cX0_settleAll 67 = .ok (.aload_n 0, 1) := by decide +kernel
theorem dX0_settleAll_68 : decode cX0_settleAll 68 = .ok (.getfield 18, 3) := by decide +kernel
theorem dX0_settleAll_71 : decode cX0_settleAll 71 = .ok (.iload_n 2, 1) := by decide +kernel
theorem dX0_settleAll_72 : decode cX0_settleAll 72 = .ok (.iaload, 1) := by decide +kernel
theorem dX0_settleAll_73 : decode cX0_settleAll 73 = .ok (.invokestatic 63, 3) := by decide +kernel
theorem dX0_settleAll_76 : decode cX0_settleAll 76 = .ok (.invokestatic 86, 3) := by decide +kernel
theorem dX0_settleAll_79 : decode cX0_settleAll 79 = .ok (.iastore, 1) := by decide +kernel
theorem dX0_settleAll_80 : decode cX0_settleAll 80 = .ok (.iinc 2 1, 3) := by decide +kernel
theorem dX0_settleAll_83 : decode cX0_settleAll 83 = .ok (.goto (-81), 3) := by decide +kernel
theorem dX0_settleAll_86 : decode cX0_settleAll 86 = .ok (.return_, 1) := by decide +kernel
theorem dX0_meltAway_0 : decode cX0_meltAway 0 = .ok (.iload_n 1, 1) := by decide +kernel
theorem dX0_meltAway_1 : decode cX0_meltAway 1 = .ok (.istore_n 2, 1) := by decide +kernel
theorem dX0_meltAway_2 : decode cX0_meltAway 2 = .ok (.aload_n 0, 1) := by decide +kernel
theorem dX0_meltAway_3 : decode cX0_meltAway 3 = .ok (.getfield 9, 3) := by decide +kernel
theorem dX0_meltAway_6 : decode cX0_meltAway 6 = .ok (.ifCond .le 45, 3) := by decide +kernel
theorem dX0_meltAway_9 : decode cX0_meltAway 9 = .ok (.iload_n 2, 1) := by decide +kernel
theorem dX0_meltAway_10 : decode cX0_meltAway 10 = .ok (.aload_n 0, 1) := by decide +kernel
theorem dX0_meltAway_11 : decode cX0_meltAway 11 = .ok (.getfield 18, 3) := by decide +kernel
theorem dX0_meltAway_14 : decode cX0_meltAway 14 = .ok (.aload_n 0, 1) := by decide +kernel
theorem dX0_meltAway_15 : decode cX0_meltAway 15 = .ok (.getfield 9, 3) := by decide +kernel
theorem dX0_meltAway_18 : decode cX0_meltAway 18 = .ok (.iconst 1, 1) := by decide +kernel
theorem dX0_meltAway_19 : decode cX0_meltAway 19 = .ok (.isub, 1) := by decide +kernel
theorem dX0_meltAway_20 : decode cX0_meltAway 20 = .ok (.iaload, 1) := by decide +kernel
theorem dX0_meltAway_21 : decode cX0_meltAway 21 = .ok (.if_icmp .lt 30, 3) := by decide +kernel
theorem dX0_meltAway_24 : decode cX0_meltAway 24 = .ok (.iload_n 2, 1) := by decide +kernel
theorem dX0_meltAway_25 : decode cX0_meltAway 25 = .ok (.aload_n 0, 1) := by decide +kernel
theorem dX0_meltAway_26 : decode cX0_meltAway 26 = .ok (.getfield 18, 3) := by decide +kernel
theorem dX0_meltAway_29 : decode cX0_meltAway 29 = .ok (.aload_n 0, 1) := by decide +kernel
theorem dX0_meltAway_30 : decode cX0_meltAway 30 = .ok (.getfield 9, 3) := by decide +kernel
theorem dX0_meltAway_33 : decode cX0_meltAway 33 = .ok (.iconst 1, 1) := by decide +kernel
theorem dX0_meltAway_34 : decode cX0_meltAway 34 = .ok (.isub, 1) := by decide +kernel
theorem dX0_meltAway_35 : decode cX0_meltAway 35 = .ok (.iaload, 1) := by decide +kernel
theorem dX0_meltAway_36 : decode cX0_meltAway 36 = .ok (.isub, 1) := by decide +kernel
theorem dX0_meltAway_37 : decode cX0_meltAway 37 = .ok (.istore_n 2, 1) := by decide +kernel
theorem dX0_meltAway_38 : decode cX0_meltAway 38 = .ok (.aload_n 0, 1) := by decide +kernel
theorem dX0_meltAway_39 : decode cX0_meltAway 39 = .ok (.dup, 1) := by decide +kernel
theorem dX0_meltAway_40 : decode cX0_meltAway 40 = .ok (.getfield 9, 3) := by decide +kernel
theorem dX0_meltAway_43 : decode cX0_meltAway 43 = .ok (.iconst 1, 1) := by decide +kernel
theorem dX0_meltAway_44 : decode cX0_meltAway 44 = .ok (.isub, 1) := by decide +kernel
theorem dX0_meltAway_45 : decode cX0_meltAway 45 = .ok (.putfield 9, 3) := by decide +kernel
theorem dX0_meltAway_48 : decode cX0_meltAway 48 = .ok (.goto (-46), 3) := by decide +kernel
theorem dX0_meltAway_51 : decode cX0_meltAway 51 = .ok (.aload_n 0, 1) := by decide +kernel
theorem dX0_meltAway_52 : decode cX0_meltAway 52 = .ok (.getfield 9, 3) := by decide +kernel
theorem dX0_meltAway_55 : decode cX0_meltAway 55 = .ok (.ifCond .le 18, 3) := by decide +kernel
theorem dX0_meltAway_58 : decode cX0_meltAway 58 = .ok (.aload_n 0, 1) := by decide +kernel
theorem dX0_meltAway_59 : decode cX0_meltAway 59 = .ok (.getfield 18, 3) := by decide +kernel
theorem dX0_meltAway_62 : decode cX0_meltAway 62 = .ok (.aload_n 0, 1) := by decide +kernel
theorem dX0_meltAway_63 : decode cX0_meltAway 63 = .ok (.getfield 9, 3) := by decide +kernel
theorem dX0_meltAway_66 : decode cX0_meltAway 66 = .ok (.iconst 1, 1) := by decide +kernel
theorem dX0_meltAway_67 : decode cX0_meltAway 67 = .ok (.isub, 1) := by decide +kernel
theorem dX0_meltAway_68 : decode cX0_meltAway 68 = .ok (.dup2, 1) := by decide +kernel
theorem dX0_meltAway_69 : decode cX0_meltAway 69 = .ok (.iaload, 1) := by decide +kernel
theorem dX0_meltAway_70 : decode cX0_meltAway 70 = .ok (.iload_n 2, 1) := by decide +kernel
theorem dX0_meltAway_71 : decode cX0_meltAway 71 = .ok (.isub, 1) := by decide +kernel
theorem dX0_meltAway_72 : decode cX0_meltAway 72 = .ok (.iastore, 1) := by decide +kernel
theorem dX0_meltAway_73 : decode cX0_meltAway 73 = .ok (.return_, 1) := by decide +kernel
theorem dX0_wetFromTop_0 : decode cX0_wetFromTop 0 = .ok (.aload_n 0, 1) := by decide +kernel
theorem dX0_wetFromTop_1 : decode cX0_wetFromTop 1 = .ok (.getfield 9, 3) := by decide +kernel
theorem dX0_wetFromTop_4 : decode cX0_wetFromTop 4 = .ok (.iconst 1, 1) := by decide +kernel
theorem dX0_wetFromTop_5 : decode cX0_wetFromTop 5 = .ok (.isub, 1) := by decide +kernel
theorem dX0_wetFromTop_6 : decode cX0_wetFromTop 6 = .ok (.istore_n 1, 1) := by decide +kernel
theorem dX0_wetFromTop_7 : decode cX0_wetFromTop 7 = .ok (.iload_n 1, 1) := by decide +kernel
theorem dX0_wetFromTop_8 : decode cX0_wetFromTop 8 = .ok (.ifCond .lt 26, 3) := by decide +kernel
theorem dX0_wetFromTop_11 : decode cX0_wetFromTop 11 = .ok (.aload_n 0, 1) := by decide +kernel
theorem dX0_wetFromTop_12 : decode cX0_wetFromTop 12 = .ok (.getfield 25, 3) := by decide +kernel
theorem dX0_wetFromTop_15 : decode cX0_wetFromTop 15 = .ok (.iload_n 1, 1) := by decide +kernel
theorem dX0_wetFromTop_16 : decode cX0_wetFromTop 16 = .ok (.iaload, 1) := by decide +kernel
theorem dX0_wetFromTop_17 : decode cX0_wetFromTop 17 = .ok (.iconst 4, 1) := by decide +kernel
theorem dX0_wetFromTop_18 : decode cX0_wetFromTop 18 = .ok (.if_icmp .eq 16, 3) := by decide +kernel
theorem dX0_wetFromTop_21 : decode cX0_wetFromTop 21 = .ok (.aload_n 0, 1) := by decide +kernel
theorem dX0_wetFromTop_22 : decode cX0_wetFromTop 22 = .ok (.getfield 31, 3) := by decide +kernel
theorem dX0_wetFromTop_25 : decode cX0_wetFromTop 25 = .ok (.iload_n 1, 1) := by decide +kernel
theorem dX0_wetFromTop_26 : decode cX0_wetFromTop 26 = .ok (.iconst 1, 1) := by decide +kernel
theorem dX0_wetFromTop_27 : decode cX0_wetFromTop 27 = .ok (.bastore, 1) := by decide +kernel
theorem dX0_wetFromTop_28 : decode cX0_wetFromTop 28 = .ok (.iinc 1 (-1), 3) := by decide +kernel
theorem dX0_wetFromTop_31 : decode cX0_wetFromTop 31 = .ok (.goto (-24), 3) := by decide +kernel
theorem dX0_wetFromTop_34 : decode cX0_wetFromTop 34 = .ok (.return_, 1) := by decide +kernel
theorem dX0_freezeWet_0 : decode cX0_freezeWet 0 = .ok (.iconst 0, 1) := by decide +kernel
theorem dX0_freezeWet_1 : decode cX0_freezeWet 1 = .ok (.istore_n 1, 1) := by decide +kernel
theorem dX0_freezeWet_2 : decode cX0_freezeWet 2 = .ok (.iconst 0, 1) := by decide +kernel
theorem dX0_freezeWet_3 : decode cX0_freezeWet 3 = .ok (.istore_n 2, 1) := by decide +kernel
theorem dX0_freezeWet_4 : decode cX0_freezeWet 4 = .ok (.iload_n 2, 1) := by decide +kernel
theorem dX0_freezeWet_5 : decode cX0_freezeWet 5 = .ok (.aload_n 0, 1) := by decide +kernel
theorem dX0_freezeWet_6 : decode cX0_freezeWet 6 = .ok (.getfield 9, 3) := by decide +kernel
theorem dX0_freezeWet_9 : decode cX0_freezeWet 9 = .ok (.if_icmp .ge 42, 3) := by decide +kernel
theorem dX0_freezeWet_12 : decode cX0_freezeWet 12 = .ok (.aload_n 0, 1) := by decide +kernel
theorem dX0_freezeWet_13 : decode cX0_freezeWet 13 = .ok (.getfield 31, 3) := by decide +kernel
theorem dX0_freezeWet_16 : decode cX0_freezeWet 16 = .ok (.iload_n 2, 1) := by decide +kernel
theorem dX0_freezeWet_17 : decode cX0_freezeWet 17 = .ok (.baload, 1) := by decide +kernel
theorem dX0_freezeWet_18 : decode cX0_freezeWet 18 = .ok (.ifCond .eq 27, 3) := by decide +kernel
theorem dX0_freezeWet_21 : decode cX0_freezeWet 21 = .ok (.aload_n 0, 1) := by decide +kernel
theorem dX0_freezeWet_22 : decode cX0_freezeWet 22 = .ok (.getfield 25, 3) := by decide +kernel
theorem dX0_freezeWet_25 : decode cX0_freezeWet 25 = .ok (.iload_n 2, 1) := by decide +kernel
theorem dX0_freezeWet_26 : decode cX0_freezeWet 26 = .ok (.iconst 4, 1) := by decide +kernel
theorem dX0_freezeWet_27 : decode cX0_freezeWet 27 = .ok (.iastore, 1) := by decide +kernel
theorem dX0_freezeWet_28 : decode cX0_freezeWet 28 = .ok (.aload_n 0, 1) := by decide +kernel
theorem dX0_freezeWet_29 : decode cX0_freezeWet 29 = .ok (.getfield 28, 3) := by decide +kernel
theorem dX0_freezeWet_32 : decode cX0_freezeWet 32 = .ok (.iload_n 2, 1) := by decide +kernel
theorem dX0_freezeWet_33 : decode cX0_freezeWet 33 = .ok (.iconst 5, 1) := by decide +kernel
theorem dX0_freezeWet_34 : decode cX0_freezeWet 34 = .ok (.iastore, 1) := by decide +kernel
theorem dX0_freezeWet_35 : decode cX0_freezeWet 35 = .ok (.aload_n 0, 1) := by decide +kernel
theorem dX0_freezeWet_36 : decode cX0_freezeWet 36 = .ok (.getfield 31, 3) := by decide +kernel
theorem dX0_freezeWet_39 : decode cX0_freezeWet 39 = .ok (.iload_n 2, 1) := by decide +kernel
theorem dX0_freezeWet_40 : decode cX0_freezeWet 40 = .ok (.iconst 0, 1) := by decide +kernel
theorem dX0_freezeWet_41 : decode cX0_freezeWet 41 = .ok (.bastore, 1) := by decide +kernel
theorem dX0_freezeWet_42 : decode cX0_freezeWet 42 = .ok (.iinc 1 1, 3) := by decide +kernel
theorem dX0_freezeWet_45 : decode cX0_freezeWet 45 = .ok (.iinc 2 1, 3) := by decide +kernel
theorem dX0_freezeWet_48 : decode cX0_freezeWet 48 = .ok (.goto (-44), 3) := by decide +kernel
theorem dX0_freezeWet_51 : decode cX0_freezeWet 51 = .ok (.iload_n 1, 1) := by decide +kernel
theorem dX0_freezeWet_52 : decode cX0_freezeWet 52 = .ok (.ireturn, 1) := by decide +kernel
set_option maxRecDepth 20000 in
theorem ggX1_heatIn_X3_within : GoodIn wsX1_heatIn wsX3_within := goodIn_r _ [13] (by decide +kernel) (by decide +kernel)
set_option maxRecDepth 20000 in
theorem gX1_heatIn_X3_within_n9 : GoodIn wsX1_heatIn (wsX3_within) := ggX1_heatIn_X3_within
theorem dX1_heatIn_0 : decode cX1_heatIn 0 = .ok (.iload_n 1, 1) := by decide +kernel
theorem dX1_heatIn_1 : decode cX1_heatIn 1 = .ok (.bipush 6, 2) := by decide +kernel
theorem dX1_heatIn_3 : decode cX1_heatIn 3 = .ok (.bipush 18, 2) := by decide +kernel
theorem dX1_heatIn_5 : decode cX1_heatIn 5 = .ok (.invokestatic 9, 3) := by decide +kernel
theorem dX1_heatIn_8 : decode cX1_heatIn 8 = .ok (.ifCond .ne 5, 3) := by decide +kernel
theorem dX1_heatIn_11 : decode cX1_heatIn 11 = .ok (.iconst 0, 1) := by decide +kernel
theorem dX1_heatIn_12 : decode cX1_heatIn 12 = .ok (.ireturn, 1) := by decide +kernel
theorem dX1_heatIn_13 : decode cX1_heatIn 13 = .ok (.bipush 45, 2) := by decide +kernel
theorem dX1_heatIn_15 : decode cX1_heatIn 15 = .ok (.iload_n 0, 1) := by decide +kernel
theorem dX1_heatIn_16 : decode cX1_heatIn 16 = .ok (.imul, 1) := by decide +kernel
theorem dX1_heatIn_17 : decode cX1_heatIn 17 = .ok (.bipush 15, 2) := by decide +kernel
theorem dX1_heatIn_19 : decode cX1_heatIn 19 = .ok (.iload_n 1, 1) := by decide +kernel
theorem dX1_heatIn_20 : decode cX1_heatIn 20 = .ok (.imul, 1) := by decide +kernel
theorem dX1_heatIn_21 : decode cX1_heatIn 21 = .ok (.isub, 1) := by decide +kernel
theorem dX1_heatIn_22 : decode cX1_heatIn 22 = .ok (.invokestatic 13, 3) := by decide +kernel
theorem dX1_heatIn_25 : decode cX1_heatIn 25 = .ok (.istore_n 2, 1) := by decide +kernel
theorem dX1_heatIn_26 : decode cX1_heatIn 26 = .ok (.iload_n 2, 1) := by decide +kernel
theorem dX1_heatIn_27 : decode cX1_heatIn 27 = .ok (.sipush 360, 3) := by decide +kernel
theorem dX1_heatIn_30 : decode cX1_heatIn 30 = .ok (.iload_n 2, 1) := by decide +kernel
theorem dX1_heatIn_31 : decode cX1_heatIn 31 = .ok (.isub, 1) := by decide +kernel
theorem dX1_heatIn_32 : decode cX1_heatIn 32 = .ok (.invokestatic 19, 3) := by decide +kernel
theorem dX1_heatIn_35 : decode cX1_heatIn 35 = .ok (.istore_n 3, 1) := by decide +kernel
theorem dX1_heatIn_36 : decode cX1_heatIn 36 = .ok (.iconst 0, 1) := by decide +kernel
theorem dX1_heatIn_37 : decode cX1_heatIn 37 = .ok (.bipush 90, 2) := by decide +kernel
theorem dX1_heatIn_39 : decode cX1_heatIn 39 = .ok (.iload_n 3, 1) := by decide +kernel
theorem dX1_heatIn_40 : decode cX1_heatIn 40 = .ok (.isub, 1) := by decide +kernel
theorem dX1_heatIn_41 : decode cX1_heatIn 41 = .ok (.invokestatic 23, 3) := by decide +kernel
theorem dX1_heatIn_44 : decode cX1_heatIn 44 = .ok (.ireturn, 1) := by decide +kernel
set_option maxRecDepth 20000 in
theorem ggX1_heatUpTo_X1_heatIn : GoodIn wsX1_heatUpTo wsX1_heatIn := goodIn_r _ [4, 5, 6, 7, 8, 9, 10, 11, 12, 13, 14, 15, 16, 17] (by decide +kernel) (by decide +kernel)
set_option maxRecDepth 20000 in
theorem gX1_heatUpTo_X1_heatIn : GoodIn wsX1_heatUpTo (va_wsS RX1 26 yX1_heatIn wsX1_heatIn) := goodIn_app (goodIn_of _ (by decide +kernel)) ggX1_heatUpTo_X1_heatIn
theorem dX1_heatUpTo_0 : decode cX1_heatUpTo 0 = .ok (.iconst 0, 1) := by decide +kernel
theorem dX1_heatUpTo_1 : decode cX1_heatUpTo 1 = .ok (.istore_n 2, 1) := by decide +kernel
theorem dX1_heatUpTo_2 : decode cX1_heatUpTo 2 = .ok (.iconst 0, 1) := by decide +kernel
theorem dX1_heatUpTo_3 : decode cX1_heatUpTo 3 = .ok (.istore_n 3, 1) := by decide +kernel
theorem dX1_heatUpTo_4 : decode cX1_heatUpTo 4 = .ok (.iload_n 3, 1) := by decide +kernel
theorem dX1_heatUpTo_5 : decode cX1_heatUpTo 5 = .ok (.iload_n 1, 1) := by decide +kernel
theorem dX1_heatUpTo_6 : decode cX1_heatUpTo 6 = .ok (.if_icmp .gt 17, 3) := by decide +kernel
theorem dX1_heatUpTo_9 : decode cX1_heatUpTo 9 = .ok (.iload_n 2, 1) := by decide +kernel
theorem dX1_heatUpTo_10 : decode cX1_heatUpTo 10 = .ok (.iload_n 0, 1) := by decide +kernel
theorem dX1_heatUpTo_11 : decode cX1_heatUpTo 11 = .ok (.iload_n 3, 1) := by decide +kernel
theorem dX1_heatUpTo_12 : decode cX1_heatUpTo 12 = .ok (.invokestatic 26, 3) := by decide +kernel
theorem dX1_heatUpTo_15 : decode cX1_heatUpTo 15 = .ok (.iadd, 1) := by decide +kernel
theorem dX1_heatUpTo_16 : decode cX1_heatUpTo 16 = .ok (.istore_n 2, 1) := by decide +kernel
theorem dX1_heatUpTo_17 : decode cX1_heatUpTo 17 = .ok (.iinc 3 1, 3) := by decide +kernel
theorem dX1_heatUpTo_20 : decode cX1_heatUpTo 20 = .ok (.goto (-16), 3) := by decide +kernel
theorem dX1_heatUpTo_23 : decode cX1_heatUpTo 23 = .ok (.iload_n 2, 1) := by decide +kernel
theorem dX1_heatUpTo_24 : decode cX1_heatUpTo 24 = .ok (.ireturn, 1) := by decide +kernel
set_option maxRecDepth 20000 in
theorem ggX1_warmHour_X1_heatIn : GoodIn wsX1_warmHour wsX1_heatIn := goodIn_r _ [4, 5, 6, 7, 8, 9, 10, 11, 12, 13, 14, 15, 16, 17] (by decide +kernel) (by decide +kernel)
set_option maxRecDepth 20000 in
theorem gX1_warmHour_X1_heatIn : GoodIn wsX1_warmHour (va_wsS RX1 26 yX1_heatIn wsX1_heatIn) := goodIn_app (goodIn_of _ (by decide +kernel)) ggX1_warmHour_X1_heatIn
theorem dX1_warmHour_0 : decode cX1_warmHour 0 = .ok (.iconst 0, 1) := by decide +kernel
theorem dX1_warmHour_1 : decode cX1_warmHour 1 = .ok (.istore_n 2, 1) := by decide +kernel
theorem dX1_warmHour_2 : decode cX1_warmHour 2 = .ok (.iconst 0, 1) := by decide +kernel
theorem dX1_warmHour_3 : decode cX1_warmHour 3 = .ok (.istore_n 3, 1) := by decide +kernel
theorem dX1_warmHour_4 : decode cX1_warmHour 4 = .ok (.iload_n 3, 1) := by decide +kernel
theorem dX1_warmHour_5 : decode cX1_warmHour 5 = .ok (.bipush 24, 2) := by decide +kernel
theorem dX1_warmHour_7 : decode cX1_warmHour 7 = .ok (.if_icmp .ge 24, 3) := by decide +kernel
theorem dX1_warmHour_10 : decode cX1_warmHour 10 = .ok (.iload_n 2, 1) := by decide +kernel
theorem dX1_warmHour_11 : decode cX1_warmHour 11 = .ok (.iload_n 0, 1) := by decide +kernel
theorem dX1_warmHour_12 : decode cX1_warmHour 12 = .ok (.iload_n 3, 1) := by decide +kernel
theorem dX1_warmHour_13 : decode cX1_warmHour 13 = .ok (.invokestatic 26, 3) := by decide +kernel
theorem dX1_warmHour_16 : decode cX1_warmHour 16 = .ok (.iadd, 1) := by decide +kernel
theorem dX1_warmHour_17 : decode cX1_warmHour 17 = .ok (.istore_n 2, 1) := by decide +kernel
theorem dX1_warmHour_18 : decode cX1_warmHour 18 = .ok (.iload_n 2, 1) := by decide +kernel
theorem dX1_warmHour_19 : decode cX1_warmHour 19 = .ok (.iload_n 1, 1) := by decide +kernel
theorem dX1_warmHour_20 : decode cX1_warmHour 20 = .ok (.if_icmp .lt 5, 3) := by decide +kernel
theorem dX1_warmHour_23 : decode cX1_warmHour 23 = .ok (.iload_n 3, 1) := by decide +kernel
theorem dX1_warmHour_24 : decode cX1_warmHour 24 = .ok (.ireturn, 1) := by decide +kernel
theorem dX1_warmHour_25 : decode cX1_warmHour 25 = .ok (.iinc 3 1, 3) := by decide +kernel
theorem dX1_warmHour_28 : decode cX1_warmHour 28 = .ok (.goto (-24), 3) := by decide +kernel
theorem dX1_warmHour_31 : decode cX1_warmHour 31 = .ok (.bipush (-6), 2) := by decide +kernel
theorem dX1_warmHour_33 : decode cX1_warmHour 33 = .ok (.ireturn, 1) := by decide +kernel
set_option maxRecDepth 20000 in
theorem ggX1_warmSides_X1_warmHour : GoodIn wsX1_warmSides wsX1_warmHour := goodIn_r _ [4, 5, 6, 3, 7, 8, 9, 10, 11, 12, 13, 14, 15, 16, 17, 18, 19, 20] (by decide +kernel) (by decide +kernel)
set_option maxRecDepth 20000 in
theorem gX1_warmSides_X1_warmHour : GoodIn wsX1_warmSides (va_wsS RX1 31 yX1_warmHour wsX1_warmHour) := goodIn_app (goodIn_of _ (by decide +kernel)) ggX1_warmSides_X1_warmHour
theorem dX1_warmSides_0 : decode cX1_warmSides 0 = .ok (.iconst 0, 1) := by decide +kernel
theorem dX1_warmSides_1 : decode cX1_warmSides 1 = .ok (.istore_n 1, 1) := by decide +kernel
theorem dX1_warmSides_2 : decode cX1_warmSides 2 = .ok (.iconst 0, 1) := by decide +kernel
theorem dX1_warmSides_3 : decode cX1_warmSides 3 = .ok (.istore_n 2, 1) := by decide +kernel
theorem dX1_warmSides_4 : decode cX1_warmSides 4 = .ok (.iload_n 2, 1) := by decide +kernel
theorem dX1_warmSides_5 : decode cX1_warmSides 5 = .ok (.bipush 8, 2) := by decide +kernel
theorem dX1_warmSides_7 : decode cX1_warmSides 7 = .ok (.if_icmp .ge 22, 3) := by decide +kernel
theorem dX1_warmSides_10 : decode cX1_warmSides 10 = .ok (.iload_n 2, 1) := by decide +kernel
theorem dX1_warmSides_11 : decode cX1_warmSides 11 = .ok (.iload_n 0, 1) := by decide +kernel
theorem dX1_warmSides_12 : decode cX1_warmSides 12 = .ok (.invokestatic 31, 3) := by decide +kernel
theorem dX1_warmSides_15 : decode cX1_warmSides 15 = .ok (.bipush (-6), 2) := by decide +kernel
theorem dX1_warmSides_17 : decode cX1_warmSides 17 = .ok (.if_icmp .eq 6, 3) := by decide +kernel
theorem dX1_warmSides_20 : decode cX1_warmSides 20 = .ok (.iinc 1 1, 3) := by decide +kernel
theorem dX1_warmSides_23 : decode cX1_warmSides 23 = .ok (.iinc 2 1, 3) := by decide +kernel
theorem dX1_warmSides_26 : decode cX1_warmSides 26 = .ok (.goto (-22), 3) := by decide +kernel
theorem dX1_warmSides_29 : decode cX1_warmSides 29 = .ok (.iload_n 1, 1) := by decide +kernel
theorem dX1_warmSides_30 : decode cX1_warmSides 30 = .ok (.ireturn, 1) := by decide +kernel
set_option maxRecDepth 20000 in
theorem ggX1_sideAtPlace_X1_warmHour : GoodIn wsX1_sideAtPlace wsX1_warmHour := goodIn_r _ [4, 5, 6, 3, 7, 8, 9, 10, 11, 12, 13, 14, 15, 16, 17, 18, 19, 20] (by decide +kernel) (by decide +kernel)
set_option maxRecDepth 20000 in
theorem gX1_sideAtPlace_X1_warmHour : GoodIn wsX1_sideAtPlace (va_wsS RX1 31 yX1_warmHour wsX1_warmHour) := goodIn_app (goodIn_of _ (by decide +kernel)) ggX1_sideAtPlace_X1_warmHour
theorem dX1_sideAtPlace_0 : decode cX1_sideAtPlace 0 = .ok (.iconst 0, 1) := by decide +kernel
theorem dX1_sideAtPlace_1 : decode cX1_sideAtPlace 1 = .ok (.istore_n 2, 1) := by decide +kernel
theorem dX1_sideAtPlace_2 : decode cX1_sideAtPlace 2 = .ok (.iconst 0, 1) := by decide +kernel
theorem dX1_sideAtPlace_3 : decode cX1_sideAtPlace 3 = .ok (.istore_n 3, 1) := by decide +kernel
theorem dX1_sideAtPlace_4 : decode cX1_sideAtPlace 4 = .ok (.iload_n 3, 1) := by decide +kernel
theorem dX1_sideAtPlace_5 : decode cX1_sideAtPlace 5 = .ok (.bipush 24, 2) := by decide +kernel
theorem dX1_sideAtPlace_7 : decode cX1_sideAtPlace 7 = .ok (.if_icmp .ge 46, 3) := by decide +kernel
theorem dX1_sideAtPlace_10 : decode cX1_sideAtPlace 10 = .ok (.iconst 0, 1) := by decide +kernel
theorem dX1_sideAtPlace_11 : decode cX1_sideAtPlace 11 = .ok (.istore 4, 2) := by decide +kernel
theorem dX1_sideAtPlace_13 : decode cX1_sideAtPlace 13 = .ok (.iload 4, 2) := by decide +kernel
theorem dX1_sideAtPlace_15 : decode cX1_sideAtPlace 15 = .ok (.bipush 8, 2) := by decide +kernel
theorem dX1_sideAtPlace_17 : decode cX1_sideAtPlace 17 = .ok (.if_icmp .ge 30, 3) := by decide +kernel
theorem dX1_sideAtPlace_20 : decode cX1_sideAtPlace 20 = .ok (.iload 4, 2) := by decide +kernel
theorem dX1_sideAtPlace_22 : decode cX1_sideAtPlace 22 = .ok (.iload_n 0, 1) := by decide +kernel
theorem dX1_sideAtPlace_23 : decode cX1_sideAtPlace 23 = .ok (.invokestatic 31, 3) := by decide +kernel
theorem dX1_sideAtPlace_26 : decode cX1_sideAtPlace 26 = .ok (.iload_n 3, 1) := by decide +kernel
theorem dX1_sideAtPlace_27 : decode cX1_sideAtPlace 27 = .ok (.if_icmp .ne 14, 3) := by decide +kernel
theorem dX1_sideAtPlace_30 : decode cX1_sideAtPlace 30 = .ok (.iload_n 2, 1) := by decide +kernel
theorem dX1_sideAtPlace_31 : decode cX1_sideAtPlace 31 = .ok (.iload_n 1, 1) := by decide +kernel
theorem dX1_sideAtPlace_32 : decode cX1_sideAtPlace 32 = .ok (.if_icmp .ne 6, 3) := by decide +kernel
theorem dX1_sideAtPlace_35 : decode cX1_sideAtPlace 35 = .ok (.iload 4, 2) := by decide +kernel
theorem dX1_sideAtPlace_37 : decode cX1_sideAtPlace 37 = .ok (.ireturn, 1) := by decide +kernel
theorem dX1_sideAtPlace_38 : decode cX1_sideAtPlace 38 = .ok (.iinc 2 1, 3) := by decide +kernel
theorem dX1_sideAtPlace_41 : decode cX1_sideAtPlace 41 = .ok (.iinc 4 1, 3) := by decide +kernel
theorem dX1_sideAtPlace_44 : decode cX1_sideAtPlace 44 = .ok (.goto (-31), 3) := by decide +kernel
theorem dX1_sideAtPlace_47 : decode cX1_sideAtPlace 47 = .ok (.iinc 3 1, 3) := by decide +kernel
theorem dX1_sideAtPlace_50 : decode cX1_sideAtPlace 50 = .ok (.goto (-46), 3) := by decide +kernel
theorem dX1_sideAtPlace_53 : decode cX1_sideAtPlace 53 = .ok (.bipush (-6), 2) := by decide +kernel
theorem dX1_sideAtPlace_55 : decode cX1_sideAtPlace 55 = .ok (.ireturn, 1) := by decide +kernel
theorem dX2_init_0 : decode cX2_init 0 = .ok (.aload_n 0, 1) := by decide +kernel
theorem dX2_init_1 : decode cX2_init 1 = .ok (.invokespecial 3, 3) := by decide +kernel
theorem dX2_init_4 : decode cX2_init 4 = .ok (.aload_n 0, 1) := by decide +kernel
theorem dX2_init_5 : decode cX2_init 5 = .ok (.iconst 0, 1) := by decide +kernel
theorem dX2_init_6 : decode cX2_init 6 = .ok (.putfield 9, 3) := by decide +kernel
theorem dX2_init_9 : decode cX2_init 9 = .ok (.aload_n 0, 1) := by decide +kernel
theorem dX2_init_10 : decode cX2_init 10 = .ok (.bipush 10, 2) := by decide +kernel
theorem dX2_init_12 : decode cX2_init 12 = .ok (.newarray .int, 2) := by decide +kernel
theorem dX2_init_14 : decode cX2_init 14 = .ok (.putfield 15, 3) := by decide +kernel
theorem dX2_init_17 : decode cX2_init 17 = .ok (.aload_n 0, 1) := by decide +kernel
theorem dX2_init_18 : decode cX2_init 18 = .ok (.bipush 10, 2) := by decide +kernel
theorem dX2_init_20 : decode cX2_init 20 = .ok (.newarray .int, 2) := by decide +kernel
theorem dX2_init_22 : decode cX2_init 22 = .ok (.putfield 19, 3) := by decide +kernel
theorem dX2_init_25 : decode cX2_init 25 = .ok (.return_, 1) := by decide +kernel
theorem dX2_weightOf_0 : decode cX2_weightOf 0 = .ok (.iload_n 0, 1) := by decide +kernel
theorem dX2_weightOf_1 : decode cX2_weightOf 1 = .ok (.bipush 10, 2) := by decide +kernel
theorem dX2_weightOf_3 : decode cX2_weightOf 3 = .ok (.if_icmp .gt 5, 3) := by decide +kernel
theorem dX2_weightOf_6 : decode cX2_weightOf 6 = .ok (.iload_n 1, 1) := by decide +kernel
theorem dX2_weightOf_7 : decode cX2_weightOf 7 = .ok (.ireturn, 1) := by decide +kernel
theorem dX2_weightOf_8 : decode cX2_weightOf 8 = .ok (.iload_n 0, 1) := by decide +kernel
theorem dX2_weightOf_9 : decode cX2_weightOf 9 = .ok (.bipush 20, 2) := by decide +kernel
theorem dX2_weightOf_11 : decode cX2_weightOf 11 = .ok (.if_icmp .gt 9, 3) := by decide +kernel
theorem dX2_weightOf_14 : decode cX2_weightOf 14 = .ok (.iconst 2, 1) := by decide +kernel
theorem dX2_weightOf_15 : decode cX2_weightOf 15 = .ok (.iload_n 1, 1) := by decide +kernel
theorem dX2_weightOf_16 : decode cX2_weightOf 16 = .ok (.imul, 1) := by decide +kernel
theorem dX2_weightOf_17 : decode cX2_weightOf 17 = .ok (.goto 6, 3) := by decide +kernel
theorem dX2_weightOf_20 : decode cX2_weightOf 20 = .ok (.iconst 4, 1) := by decide +kernel
theorem dX2_weightOf_21 : decode cX2_weightOf 21 = .ok (.iload_n 1, 1) := by decide +kernel
theorem dX2_weightOf_22 : decode cX2_weightOf 22 = .ok (.imul, 1) := by decide +kernel
theorem dX2_weightOf_23 : decode cX2_weightOf 23 = .ok (.ireturn, 1) := by decide +kernel
set_option maxRecDepth 20000 in
theorem ggX2_run_X2_weightOf : GoodIn wsX2_run wsX2_weightOf := goodIn_r _ [9] (by decide +kernel) (by decide +kernel)
set_option maxRecDepth 20000 in
theorem gX2_run_X2_weightOf : GoodIn wsX2_run (va_wsS RX2 30 yX2_weightOf wsX2_weightOf) := goodIn_app (goodIn_of _ (by decide +kernel)) ggX2_run_X2_weightOf
set_option maxRecDepth 20000 in
theorem ggX2_run_X0_breaking : GoodIn wsX2_run wsX0_breaking := goodIn_r _ [14, 15, 16, 17, 13, 18, 19, 20, 21, 22, 23, 24, 25, 26, 27, 28, 29, 30, 31, 32, 33, 34, 35, 36, 37, 38, 39, 40, 41, 42, 43, 47, 48, 49, 50, 51, 52, 53, 54] (by decide +kernel) (by decide +kernel)
set_option maxRecDepth 20000 in
theorem gX2_run_X0_breaking : GoodIn wsX2_run (wsV RX2 34 RX0 yX0_breaking wsX0_breaking) := goodIn_app (goodIn_of _ (by decide +kernel)) ggX2_run_X0_breaking
theorem dX2_run_0 : decode cX2_run 0 = .ok (.aload_n 0, 1) := by decide +kernel
theorem dX2_run_1 : decode cX2_run 1 = .ok (.iconst 0, 1) := by decide +kernel
theorem dX2_run_2 : decode cX2_run 2 = .ok (.putfield 9, 3) := by decide +kernel
theorem dX2_run_5 : decode cX2_run 5 = .ok (.aload_n 1, 1) := by decide +kernel
theorem dX2_run_6 : decode cX2_run 6 = .ok (.getfield 22, 3) := by decide +kernel
theorem dX2_run_9 : decode cX2_run 9 = .ok (.istore_n 2, 1) := by decide +kernel
theorem dX2_run_10 : decode cX2_run 10 = .ok (.iconst 1, 1) := by decide +kernel
theorem dX2_run_11 : decode cX2_run 11 = .ok (.istore_n 3, 1) := by decide +kernel
theorem dX2_run_12 : decode cX2_run 12 = .ok (.iload_n 3, 1) := by decide +kernel
theorem dX2_run_13 : decode cX2_run 13 = .ok (.bipush 30, 2) := by decide +kernel
theorem dX2_run_15 : decode cX2_run 15 = .ok (.if_icmp .gt 76, 3) := by decide +kernel
theorem dX2_run_18 : decode cX2_run 18 = .ok (.aload_n 1, 1) := by decide +kernel
theorem dX2_run_19 : decode cX2_run 19 = .ok (.iload_n 2, 1) := by decide +kernel
theorem dX2_run_20 : decode cX2_run 20 = .ok (.iload_n 3, 1) := by decide +kernel
theorem dX2_run_21 : decode cX2_run 21 = .ok (.aload_n 1, 1) := by decide +kernel
theorem dX2_run_22 : decode cX2_run 22 = .ok (.getfield 27, 3) := by decide +kernel
theorem dX2_run_25 : decode cX2_run 25 = .ok (.invokestatic 30, 3) := by decide +kernel
theorem dX2_run_28 : decode cX2_run 28 = .ok (.invokevirtual 34, 3) := by decide +kernel
theorem dX2_run_31 : decode cX2_run 31 = .ok (.istore 4, 2) := by decide +kernel
theorem dX2_run_33 : decode cX2_run 33 = .ok (.iload 4, 2) := by decide +kernel
theorem dX2_run_35 : decode cX2_run 35 = .ok (.bipush (-6), 2) := by decide +kernel
theorem dX2_run_37 : decode cX2_run 37 = .ok (.if_icmp .eq 48, 3) := by decide +kernel
theorem dX2_run_40 : decode cX2_run 40 = .ok (.aload_n 0, 1) := by decide +kernel
theorem dX2_run_41 : decode cX2_run 41 = .ok (.getfield 9, 3) := by decide +kernel
theorem dX2_run_44 : decode cX2_run 44 = .ok (.bipush 10, 2) := by decide +kernel
theorem dX2_run_46 : decode cX2_run 46 = .ok (.if_icmp .ge 39, 3) := by decide +kernel
theorem dX2_run_49 : decode cX2_run 49 = .ok (.aload_n 0, 1) := by decide +kernel
theorem dX2_run_50 : decode cX2_run 50 = .ok (.getfield 15, 3) := by decide +kernel
theorem dX2_run_53 : decode cX2_run 53 = .ok (.aload_n 0, 1) := by decide +kernel
theorem dX2_run_54 : decode cX2_run 54 = .ok (.getfield 9, 3) := by decide +kernel
theorem dX2_run_57 : decode cX2_run 57 = .ok (.iload_n 3, 1) := by decide +kernel
theorem dX2_run_58 : decode cX2_run 58 = .ok (.iastore, 1) := by decide +kernel
theorem dX2_run_59 : decode cX2_run 59 = .ok (.aload_n 0, 1) := by decide +kernel
theorem dX2_run_60 : decode cX2_run 60 = .ok (.getfield 19, 3) := by decide +kernel
theorem dX2_run_63 : decode cX2_run 63 = .ok (.aload_n 0, 1) := by decide +kernel
theorem dX2_run_64 : decode cX2_run 64 = .ok (.getfield 9, 3) := by decide +kernel
theorem dX2_run_67 : decode cX2_run 67 = .ok (.iload 4, 2) := by decide +kernel
theorem dX2_run_69 : decode cX2_run 69 = .ok (.iastore, 1) := by decide +kernel
theorem dX2_run_70 : decode cX2_run 70 = .ok (.aload_n 0, 1) := by decide +kernel
theorem dX2_run_71 : decode cX2_run 71 = .ok (.dup, 1) := by decide +kernel
theorem dX2_run_72 : decode cX2_run 72 = .ok (.getfield 9, 3) := by decide +kernel
theorem dX2_run_75 : decode cX2_run 75 = .ok (.iconst 1, 1) := by decide +kernel
theorem dX2_run_76 : decode cX2_run 76 = .ok (.iadd, 1) := by decide +kernel
theorem dX2_run_77 : decode cX2_run 77 = .ok (.putfield 9, 3) := by decide +kernel
theorem dX2_run_80 : decode cX2_run 80 = .ok (.iload 4, 2) := by decide +kernel
theorem dX2_run_82 : decode cX2_run 82 = .ok (.iconst 1, 1) := by decide +kernel
theorem dX2_run_83 : decode cX2_run 83 = .ok (.iadd, 1) := by decide +kernel
theorem dX2_run_84 : decode cX2_run 84 = .ok (.istore_n 2, 1) := by decide +kernel
theorem dX2_run_85 : decode cX2_run 85 = .ok (.iinc 3 1, 3) := by decide +kernel
theorem dX2_run_88 : decode cX2_run 88 = .ok (.goto (-76), 3) := by decide +kernel
theorem dX2_run_91 : decode cX2_run 91 = .ok (.return_, 1) := by decide +kernel
theorem dX2_isClean_0 : decode cX2_isClean 0 = .ok (.aload_n 0, 1) := by decide +kernel
theorem dX2_isClean_1 : decode cX2_isClean 1 = .ok (.getfield 19, 3) := by decide +kernel
theorem dX2_isClean_4 : decode cX2_isClean 4 = .ok (.iload_n 2, 1) := by decide +kernel
theorem dX2_isClean_5 : decode cX2_isClean 5 = .ok (.iaload, 1) := by decide +kernel
theorem dX2_isClean_6 : decode cX2_isClean 6 = .ok (.istore_n 3, 1) := by decide +kernel
theorem dX2_isClean_7 : decode cX2_isClean 7 = .ok (.aload_n 1, 1) := by decide +kernel
theorem dX2_isClean_8 : decode cX2_isClean 8 = .ok (.getfield 37, 3) := by decide +kernel
theorem dX2_isClean_11 : decode cX2_isClean 11 = .ok (.iload_n 3, 1) := by decide +kernel
theorem dX2_isClean_12 : decode cX2_isClean 12 = .ok (.iconst 1, 1) := by decide +kernel
theorem dX2_isClean_13 : decode cX2_isClean 13 = .ok (.iadd, 1) := by decide +kernel
theorem dX2_isClean_14 : decode cX2_isClean 14 = .ok (.iaload, 1) := by decide +kernel
theorem dX2_isClean_15 : decode cX2_isClean 15 = .ok (.aload_n 1, 1) := by decide +kernel
theorem dX2_isClean_16 : decode cX2_isClean 16 = .ok (.getfield 37, 3) := by decide +kernel
theorem dX2_isClean_19 : decode cX2_isClean 19 = .ok (.iload_n 3, 1) := by decide +kernel
theorem dX2_isClean_20 : decode cX2_isClean 20 = .ok (.iaload, 1) := by decide +kernel
theorem dX2_isClean_21 : decode cX2_isClean 21 = .ok (.isub, 1) := by decide +kernel
theorem dX2_isClean_22 : decode cX2_isClean 22 = .ok (.invokestatic 40, 3) := by decide +kernel
theorem dX2_isClean_25 : decode cX2_isClean 25 = .ok (.iconst 2, 1) := by decide +kernel
theorem dX2_isClean_26 : decode cX2_isClean 26 = .ok (.if_icmp .lt 7, 3) := by decide +kernel
theorem dX2_isClean_29 : decode cX2_isClean 29 = .ok (.iconst 1, 1) := by decide +kernel
theorem dX2_isClean_30 : decode cX2_isClean 30 = .ok (.goto 4, 3) := by decide +kernel
theorem dX2_isClean_33 : decode cX2_isClean 33 = .ok (.iconst 0, 1) := by decide +kernel
theorem dX2_isClean_34 : decode cX2_isClean 34 = .ok (.ireturn, 1) := by decide +kernel
end
section
set_option maxRecDepth 20000 in
theorem ggX3_init_X0_init : GoodIn wsX3_init wsX0_init := goodIn_r _ [15, 16, 2, 3, 17, 18, 19, 20, 21, 22, 23, 24, 25, 26, 27, 28, 29, 30, 31, 32, 40, 41, 42, 43, 44, 45, 46, 47] (by decide +kernel) (by decide +kernel)
set_option maxRecDepth 20000 in
theorem gX3_init_X0_init : GoodIn wsX3_init (wsX0_init) := ggX3_init_X0_init
set_option maxRecDepth 20000 in
theorem ggX3_init_X2_init : GoodIn wsX3_init wsX2_init := goodIn_r _ [35, 36, 2, 3, 37, 19, 38, 39, 51, 52, 53] (by decide +kernel) (by decide +kernel)
set_option maxRecDepth 20000 in
theorem gX3_init_X2_init : GoodIn wsX3_init (wsX2_init) := ggX3_init_X2_init
theorem dX3_init_0 : decode cX3_init 0 = .ok (.aload_n 0, 1) := by decide +kernel
theorem dX3_init_1 : decode cX3_init 1 = .ok (.invokespecial 1, 3) := by decide +kernel
theorem dX3_init_4 : decode cX3_init 4 = .ok (.aload_n 0, 1) := by decide +kernel
theorem dX3_init_5 : decode cX3_init 5 = .ok (.new 7, 3) := by decide +kernel
theorem dX3_init_8 : decode cX3_init 8 = .ok (.dup, 1) := by decide +kernel
theorem dX3_init_9 : decode cX3_init 9 = .ok (.invokespecial 9, 3) := by decide +kernel
theorem dX3_init_12 : decode cX3_init 12 = .ok (.putfield 10, 3) := by decide +kernel
theorem dX3_init_15 : decode cX3_init 15 = .ok (.aload_n 0, 1) := by decide +kernel
theorem dX3_init_16 : decode cX3_init 16 = .ok (.new 16, 3) := by decide +kernel
theorem dX3_init_19 : decode cX3_init 19 = .ok (.dup, 1) := by decide +kernel
theorem dX3_init_20 : decode cX3_init 20 = .ok (.invokespecial 18, 3) := by decide +kernel
theorem dX3_init_23 : decode cX3_init 23 = .ok (.putfield 19, 3) := by decide +kernel
theorem dX3_init_26 : decode cX3_init 26 = .ok (.aload_n 0, 1) := by decide +kernel
theorem dX3_init_27 : decode cX3_init 27 = .ok (.iconst 2, 1) := by decide +kernel
theorem dX3_init_28 : decode cX3_init 28 = .ok (.anewarray 7, 3) := by decide +kernel
theorem dX3_init_31 : decode cX3_init 31 = .ok (.putfield 23, 3) := by decide +kernel
theorem dX3_init_34 : decode cX3_init 34 = .ok (.return_, 1) := by decide +kernel
set_option maxRecDepth 20000 in
theorem ggX3_storm_X3_within : GoodIn wsX3_storm wsX3_within := goodIn_r _ [6] (by decide +kernel) (by decide +kernel)
set_option maxRecDepth 20000 in
theorem gX3_storm_X3_within : GoodIn wsX3_storm (va_wsS RX3 27 yX3_within wsX3_within) := goodIn_app (goodIn_of _ (by decide +kernel)) ggX3_storm_X3_within
set_option maxRecDepth 20000 in
theorem ggX3_storm_X0_addTop : GoodIn wsX3_storm wsX0_addTop := goodIn_r _ [11, 12, 13, 14, 15, 16, 17, 21, 22, 23, 24, 25, 26, 27, 28] (by decide +kernel) (by decide +kernel)
set_option maxRecDepth 20000 in
theorem gX3_storm_X0_addTop : GoodIn wsX3_storm (wsV RX3 35 RX0 yX0_addTop wsX0_addTop) := goodIn_app (goodIn_of _ (by decide +kernel)) ggX3_storm_X0_addTop
theorem dX3_storm_0 : decode cX3_storm 0 = .ok (.iload_n 1, 1) := by decide +kernel
theorem dX3_storm_1 : decode cX3_storm 1 = .ok (.iconst 1, 1) := by decide +kernel
theorem dX3_storm_2 : decode cX3_storm 2 = .ok (.sipush 200, 3) := by decide +kernel
theorem dX3_storm_5 : decode cX3_storm 5 = .ok (.invokestatic 27, 3) := by decide +kernel
theorem dX3_storm_8 : decode cX3_storm 8 = .ok (.ifCond .eq 15, 3) := by decide +kernel
theorem dX3_storm_11 : decode cX3_storm 11 = .ok (.iload_n 2, 1) := by decide +kernel
theorem dX3_storm_12 : decode cX3_storm 12 = .ok (.bipush 30, 2) := by decide +kernel
theorem dX3_storm_14 : decode cX3_storm 14 = .ok (.sipush 600, 3) := by decide +kernel
theorem dX3_storm_17 : decode cX3_storm 17 = .ok (.invokestatic 27, 3) := by decide +kernel
theorem dX3_storm_20 : decode cX3_storm 20 = .ok (.ifCond .ne 6, 3) := by decide +kernel
theorem dX3_storm_23 : decode cX3_storm 23 = .ok (.bipush (-2), 2) := by decide +kernel
theorem dX3_storm_25 : decode cX3_storm 25 = .ok (.ireturn, 1) := by decide +kernel
theorem dX3_storm_26 : decode cX3_storm 26 = .ok (.iload_n 3, 1) := by decide +kernel
theorem dX3_storm_27 : decode cX3_storm 27 = .ok (.iconst 0, 1) := by decide +kernel
theorem dX3_storm_28 : decode cX3_storm 28 = .ok (.iconst 4, 1) := by decide +kernel
theorem dX3_storm_29 : decode cX3_storm 29 = .ok (.invokestatic 27, 3) := by decide +kernel
theorem dX3_storm_32 : decode cX3_storm 32 = .ok (.ifCond .eq 13, 3) := by decide +kernel
theorem dX3_storm_35 : decode cX3_storm 35 = .ok (.iload 4, 2) := by decide +kernel
theorem dX3_storm_37 : decode cX3_storm 37 = .ok (.iconst 1, 1) := by decide +kernel
theorem dX3_storm_38 : decode cX3_storm 38 = .ok (.iconst 5, 1) := by decide +kernel
theorem dX3_storm_39 : decode cX3_storm 39 = .ok (.invokestatic 27, 3) := by decide +kernel
theorem dX3_storm_42 : decode cX3_storm 42 = .ok (.ifCond .ne 6, 3) := by decide +kernel
theorem dX3_storm_45 : decode cX3_storm 45 = .ok (.bipush (-2), 2) := by decide +kernel
theorem dX3_storm_47 : decode cX3_storm 47 = .ok (.ireturn, 1) := by decide +kernel
theorem dX3_storm_48 : decode cX3_storm 48 = .ok (.aload_n 0, 1) := by decide +kernel
theorem dX3_storm_49 : decode cX3_storm 49 = .ok (.getfield 10, 3) := by decide +kernel
theorem dX3_storm_52 : decode cX3_storm 52 = .ok (.getfield 31, 3) := by decide +kernel
theorem dX3_storm_55 : decode cX3_storm 55 = .ok (.bipush 10, 2) := by decide +kernel
theorem dX3_storm_57 : decode cX3_storm 57 = .ok (.if_icmp .lt 6, 3) := by decide +kernel
theorem dX3_storm_60 : decode cX3_storm 60 = .ok (.bipush (-4), 2) := by decide +kernel
theorem dX3_storm_62 : decode cX3_storm 62 = .ok (.ireturn, 1) := by decide +kernel
theorem dX3_storm_63 : decode cX3_storm 63 = .ok (.aload_n 0, 1) := by decide +kernel
theorem dX3_storm_64 : decode cX3_storm 64 = .ok (.getfield 10, 3) := by decide +kernel
theorem dX3_storm_67 : decode cX3_storm 67 = .ok (.iload_n 1, 1) := by decide +kernel
theorem dX3_storm_68 : decode cX3_storm 68 = .ok (.iload_n 2, 1) := by decide +kernel
theorem dX3_storm_69 : decode cX3_storm 69 = .ok (.iload_n 3, 1) := by decide +kernel
theorem dX3_storm_70 : decode cX3_storm 70 = .ok (.iload 4, 2) := by decide +kernel
theorem dX3_storm_72 : decode cX3_storm 72 = .ok (.invokevirtual 35, 3) := by decide +kernel
theorem dX3_storm_75 : decode cX3_storm 75 = .ok (.ireturn, 1) := by decide +kernel
set_option maxRecDepth 20000 in
theorem ggX3_firm_X3_within : GoodIn wsX3_firm wsX3_within := goodIn_r _ [6] (by decide +kernel) (by decide +kernel)
set_option maxRecDepth 20000 in
theorem gX3_firm_X3_within : GoodIn wsX3_firm (va_wsS RX3 27 yX3_within wsX3_within) := goodIn_app (goodIn_of _ (by decide +kernel)) ggX3_firm_X3_within
theorem dX3_firm_0 : decode cX3_firm 0 = .ok (.iload_n 1, 1) := by decide +kernel
theorem dX3_firm_1 : decode cX3_firm 1 = .ok (.iconst 0, 1) := by decide +kernel
theorem dX3_firm_2 : decode cX3_firm 2 = .ok (.iconst 4, 1) := by decide +kernel
theorem dX3_firm_3 : decode cX3_firm 3 = .ok (.invokestatic 27, 3) := by decide +kernel
theorem dX3_firm_6 : decode cX3_firm 6 = .ok (.ifCond .ne 5, 3) := by decide +kernel
theorem dX3_firm_9 : decode cX3_firm 9 = .ok (.iconst (-1), 1) := by decide +kernel
theorem dX3_firm_10 : decode cX3_firm 10 = .ok (.ireturn, 1) := by decide +kernel
theorem dX3_firm_11 : decode cX3_firm 11 = .ok (.iload_n 2, 1) := by decide +kernel
theorem dX3_firm_12 : decode cX3_firm 12 = .ok (.iconst 1, 1) := by decide +kernel
theorem dX3_firm_13 : decode cX3_firm 13 = .ok (.bipush 99, 2) := by decide +kernel
theorem dX3_firm_15 : decode cX3_firm 15 = .ok (.invokestatic 27, 3) := by decide +kernel
theorem dX3_firm_18 : decode cX3_firm 18 = .ok (.ifCond .ne 6, 3) := by decide +kernel
theorem dX3_firm_21 : decode cX3_firm 21 = .ok (.bipush (-2), 2) := by decide +kernel
theorem dX3_firm_23 : decode cX3_firm 23 = .ok (.ireturn, 1) := by decide +kernel
theorem dX3_firm_24 : decode cX3_firm 24 = .ok (.aload_n 0, 1) := by decide +kernel
theorem dX3_firm_25 : decode cX3_firm 25 = .ok (.getfield 10, 3) := by decide +kernel
theorem dX3_firm_28 : decode cX3_firm 28 = .ok (.getfield 39, 3) := by decide +kernel
theorem dX3_firm_31 : decode cX3_firm 31 = .ok (.iload_n 1, 1) := by decide +kernel
theorem dX3_firm_32 : decode cX3_firm 32 = .ok (.iaload, 1) := by decide +kernel
theorem dX3_firm_33 : decode cX3_firm 33 = .ok (.istore_n 3, 1) := by decide +kernel
theorem dX3_firm_34 : decode cX3_firm 34 = .ok (.aload_n 0, 1) := by decide +kernel
theorem dX3_firm_35 : decode cX3_firm 35 = .ok (.getfield 10, 3) := by decide +kernel
theorem dX3_firm_38 : decode cX3_firm 38 = .ok (.getfield 39, 3) := by decide +kernel
theorem dX3_firm_41 : decode cX3_firm 41 = .ok (.iload_n 1, 1) := by decide +kernel
theorem dX3_firm_42 : decode cX3_firm 42 = .ok (.iload_n 2, 1) := by decide +kernel
theorem dX3_firm_43 : decode cX3_firm 43 = .ok (.iastore, 1) := by decide +kernel
theorem dX3_firm_44 : decode cX3_firm 44 = .ok (.iload_n 3, 1) := by decide +kernel
theorem dX3_firm_45 : decode cX3_firm 45 = .ok (.ireturn, 1) := by decide +kernel
set_option maxRecDepth 20000 in
theorem ggX3_layer_X0_has : GoodIn wsX3_layer wsX0_has := goodIn_r _ [12, 13, 14, 15, 16, 42, 43, 44, 45, 46, 47, 48, 49] (by decide +kernel) (by decide +kernel)
set_option maxRecDepth 20000 in
theorem gX3_layer_X0_has : GoodIn wsX3_layer (wsV RX3 43 RX0 yX0_has wsX0_has) := goodIn_app (goodIn_of _ (by decide +kernel)) ggX3_layer_X0_has
set_option maxRecDepth 20000 in
theorem ggX3_layer_X0_strength : GoodIn wsX3_layer wsX0_strength := goodIn_r _ [20, 21, 22, 23, 24, 25, 42, 43, 44, 45, 46, 47, 48, 49] (by decide +kernel) (by decide +kernel)
set_option maxRecDepth 20000 in
theorem gX3_layer_X0_strength : GoodIn wsX3_layer (wsV RX3 63 RX0 yX0_strength wsX0_strength) := goodIn_app (goodIn_of _ (by decide +kernel)) ggX3_layer_X0_strength
set_option maxRecDepth 20000 in
theorem ggX3_layer_X0_depth : GoodIn wsX3_layer wsX0_depth := goodIn_r _ [29, 30, 42, 43, 44, 45, 46, 47, 48, 49] (by decide +kernel) (by decide +kernel)
set_option maxRecDepth 20000 in
theorem gX3_layer_X0_depth : GoodIn wsX3_layer (wsV RX3 67 RX0 yX0_depth wsX0_depth) := goodIn_app (goodIn_of _ (by decide +kernel)) ggX3_layer_X0_depth
set_option maxRecDepth 20000 in
theorem ggX3_layer_X0_load : GoodIn wsX3_layer wsX0_load := goodIn_r _ [34, 35, 36, 37, 11, 38, 30, 24, 42, 43, 44, 45, 46, 47, 48, 49] (by decide +kernel) (by decide +kernel)
set_option maxRecDepth 20000 in
theorem gX3_layer_X0_load : GoodIn wsX3_layer (wsV RX3 71 RX0 yX0_load wsX0_load) := goodIn_app (goodIn_of _ (by decide +kernel)) ggX3_layer_X0_load
theorem dX3_layer_0 : decode cX3_layer 0 = .ok (.aload_n 0, 1) := by decide +kernel
theorem dX3_layer_1 : decode cX3_layer 1 = .ok (.getfield 10, 3) := by decide +kernel
theorem dX3_layer_4 : decode cX3_layer 4 = .ok (.iload_n 1, 1) := by decide +kernel
theorem dX3_layer_5 : decode cX3_layer 5 = .ok (.invokevirtual 43, 3) := by decide +kernel
theorem dX3_layer_8 : decode cX3_layer 8 = .ok (.ifCond .ne 5, 3) := by decide +kernel
theorem dX3_layer_11 : decode cX3_layer 11 = .ok (.iconst (-1), 1) := by decide +kernel
theorem dX3_layer_12 : decode cX3_layer 12 = .ok (.ireturn, 1) := by decide +kernel
theorem dX3_layer_13 : decode cX3_layer 13 = .ok (.iload_n 2, 1) := by decide +kernel
theorem dX3_layer_14 : decode cX3_layer 14 = .ok (.tableswitch 145 0 7 #[46, 56, 66, 76, 86, 104, 113, 129], 46) := by decide +kernel
theorem dX3_layer_60 : decode cX3_layer 60 = .ok (.aload_n 0, 1) := by decide +kernel
theorem dX3_layer_61 : decode cX3_layer 61 = .ok (.getfield 10, 3) := by decide +kernel
theorem dX3_layer_64 : decode cX3_layer 64 = .ok (.getfield 47, 3) := by decide +kernel
theorem dX3_layer_67 : decode cX3_layer 67 = .ok (.iload_n 1, 1) := by decide +kernel
theorem dX3_layer_68 : decode cX3_layer 68 = .ok (.iaload, 1) := by decide +kernel
theorem dX3_layer_69 : decode cX3_layer 69 = .ok (.ireturn, 1) := by decide +kernel
theorem dX3_layer_70 : decode cX3_layer 70 = .ok (.aload_n 0, 1) := by decide +kernel
theorem dX3_layer_71 : decode cX3_layer 71 = .ok (.getfield 10, 3) := by decide +kernel
theorem dX3_layer_74 : decode cX3_layer 74 = .ok (.getfield 50, 3) := by decide +kernel
theorem dX3_layer_77 : decode cX3_layer 77 = .ok (.iload_n 1, 1) := by decide +kernel
theorem dX3_layer_78 : decode cX3_layer 78 = .ok (.iaload, 1) := by decide +kernel
theorem dX3_layer_79 : decode cX3_layer 79 = .ok (.ireturn, 1) := by decide +kernel
theorem dX3_layer_80 : decode cX3_layer 80 = .ok (.aload_n 0, 1) := by decide +kernel
theorem dX3_layer_81 : decode cX3_layer 81 = .ok (.getfield 10, 3) := by decide +kernel
theorem dX3_layer_84 : decode cX3_layer 84 = .ok (.getfield 53, 3) := by decide +kernel
theorem dX3_layer_87 : decode cX3_layer 87 = .ok (.iload_n 1, 1) := by decide +kernel
theorem dX3_layer_88 : decode cX3_layer 88 = .ok (.iaload, 1) := by decide +kernel
theorem dX3_layer_89 : decode cX3_layer 89 = .ok (.ireturn, 1) := by decide +kernel
theorem dX3_layer_90 : decode cX3_layer 90 = .ok (.aload_n 0, 1) := by decide +kernel
theorem dX3_layer_91 : decode cX3_layer 91 = .ok (.getfield 10, 3) := by decide +kernel
theorem dX3_layer_94 : decode cX3_layer 94 = .ok (.getfield 56, 3) := by decide +kernel
theorem dX3_layer_97 : decode cX3_layer 97 = .ok (.iload_n 1, 1) := by decide +kernel
theorem dX3_layer_98 : decode cX3_layer 98 = .ok (.iaload, 1) := by decide +kernel
theorem dX3_layer_99 : decode cX3_layer 99 = .ok (.ireturn, 1) := by decide +kernel
theorem dX3_layer_100 : decode cX3_layer 100 = .ok (.aload_n 0, 1) := by decide +kernel
theorem dX3_layer_101 : decode cX3_layer 101 = .ok (.getfield 10, 3) := by decide +kernel
theorem dX3_layer_104 : decode cX3_layer 104 = .ok (.getfield 59, 3) := by decide +kernel
theorem dX3_layer_107 : decode cX3_layer 107 = .ok (.iload_n 1, 1) := by decide +kernel
theorem dX3_layer_108 : decode cX3_layer 108 = .ok (.baload, 1) := by decide +kernel
theorem dX3_layer_109 : decode cX3_layer 109 = .ok (.ifCond .eq 7, 3) := by decide +kernel
theorem dX3_layer_112 : decode cX3_layer 112 = .ok (.iconst 1, 1) := by decide +kernel
theorem dX3_layer_113 : decode cX3_layer 113 = .ok (.goto 4, 3) := by decide +kernel
theorem dX3_layer_116 : decode cX3_layer 116 = .ok (.iconst 0, 1) := by decide +kernel
theorem dX3_layer_117 : decode cX3_layer 117 = .ok (.ireturn, 1) := by decide +kernel
theorem dX3_layer_118 : decode cX3_layer 118 = .ok (.aload_n 0, 1) := by decide +kernel
theorem dX3_layer_119 : decode cX3_layer 119 = .ok (.getfield 10, 3) := by decide +kernel
theorem dX3_layer_122 : decode cX3_layer 122 = .ok (.iload_n 1, 1) := by decide +kernel
theorem dX3_layer_123 : decode cX3_layer 123 = .ok (.invokevirtual 63, 3) := by decide +kernel
theorem dX3_layer_126 : decode cX3_layer 126 = .ok (.ireturn, 1) := by decide +kernel
theorem dX3_layer_127 : decode cX3_layer 127 = .ok (.aload_n 0, 1) := by decide +kernel
theorem dX3_layer_128 : decode cX3_layer 128 = .ok (.getfield 10, 3) := by decide +kernel
theorem dX3_layer_131 : decode cX3_layer 131 = .ok (.iload_n 1, 1) := by decide +kernel
theorem dX3_layer_132 : decode cX3_layer 132 = .ok (.aload_n 0, 1) := by decide +kernel
theorem dX3_layer_133 : decode cX3_layer 133 = .ok (.getfield 10, 3) := by decide +kernel
theorem dX3_layer_136 : decode cX3_layer 136 = .ok (.getfield 31, 3) := by decide +kernel
theorem dX3_layer_139 : decode cX3_layer 139 = .ok (.invokevirtual 67, 3) := by decide +kernel
theorem dX3_layer_142 : decode cX3_layer 142 = .ok (.ireturn, 1) := by decide +kernel
theorem dX3_layer_143 : decode cX3_layer 143 = .ok (.aload_n 0, 1) := by decide +kernel
theorem dX3_layer_144 : decode cX3_layer 144 = .ok (.getfield 10, 3) := by decide +kernel
theorem dX3_layer_147 : decode cX3_layer 147 = .ok (.iload_n 1, 1) := by decide +kernel
theorem dX3_layer_148 : decode cX3_layer 148 = .ok (.aload_n 0, 1) := by decide +kernel
theorem dX3_layer_149 : decode cX3_layer 149 = .ok (.getfield 10, 3) := by decide +kernel
theorem dX3_layer_152 : decode cX3_layer 152 = .ok (.getfield 31, 3) := by decide +kernel
theorem dX3_layer_155 : decode cX3_layer 155 = .ok (.invokevirtual 71, 3) := by decide +kernel
theorem dX3_layer_158 : decode cX3_layer 158 = .ok (.ireturn, 1) := by decide +kernel
theorem dX3_layer_159 : decode cX3_layer 159 = .ok (.bipush (-2), 2) := by decide +kernel
theorem dX3_layer_161 : decode cX3_layer 161 = .ok (.ireturn, 1) := by decide +kernel
set_option maxRecDepth 20000 in
theorem ggX3_slope_X0_has : GoodIn wsX3_slope wsX0_has := goodIn_r _ [6, 7, 8, 9, 10, 42, 43, 44, 45, 46, 47, 48, 49] (by decide +kernel) (by decide +kernel)
set_option maxRecDepth 20000 in
theorem gX3_slope_X0_has : GoodIn wsX3_slope (wsV RX3 43 RX0 yX0_has wsX0_has) := goodIn_app (goodIn_of _ (by decide +kernel)) ggX3_slope_X0_has
set_option maxRecDepth 20000 in
theorem ggX3_slope_X3_within : GoodIn wsX3_slope wsX3_within := goodIn_r _ [10] (by decide +kernel) (by decide +kernel)
set_option maxRecDepth 20000 in
theorem gX3_slope_X3_within : GoodIn wsX3_slope (va_wsS RX3 27 yX3_within wsX3_within) := goodIn_app (goodIn_of _ (by decide +kernel)) ggX3_slope_X3_within
set_option maxRecDepth 20000 in
theorem ggX3_slope_X0_shear : GoodIn wsX3_slope wsX0_shear := goodIn_r _ [15, 7, 16, 17, 18, 5, 19, 20, 21, 22, 23, 24, 25, 42, 43, 44, 45, 46, 47, 48, 49] (by decide +kernel) (by decide +kernel)
set_option maxRecDepth 20000 in
theorem gX3_slope_X0_shear : GoodIn wsX3_slope (wsV RX3 74 RX0 yX0_shear wsX0_shear) := goodIn_app (goodIn_of _ (by decide +kernel)) ggX3_slope_X0_shear
set_option maxRecDepth 20000 in
theorem ggX3_slope_X0_margin : GoodIn wsX3_slope wsX0_margin := goodIn_r _ [29, 30, 13, 14, 5, 15, 7, 16, 17, 18, 19, 20, 21, 22, 23, 24, 25, 31, 32, 33, 34, 35, 36, 37, 38, 42, 43, 44, 45, 46, 47, 48, 49] (by decide +kernel) (by decide +kernel)
set_option maxRecDepth 20000 in
theorem gX3_slope_X0_margin : GoodIn wsX3_slope (wsV RX3 77 RX0 yX0_margin wsX0_margin) := goodIn_app (goodIn_of _ (by decide +kernel)) ggX3_slope_X0_margin
theorem dX3_slope_0 : decode cX3_slope 0 = .ok (.aload_n 0, 1) := by decide +kernel
theorem dX3_slope_1 : decode cX3_slope 1 = .ok (.getfield 10, 3) := by decide +kernel
theorem dX3_slope_4 : decode cX3_slope 4 = .ok (.iload_n 1, 1) := by decide +kernel
theorem dX3_slope_5 : decode cX3_slope 5 = .ok (.invokevirtual 43, 3) := by decide +kernel
theorem dX3_slope_8 : decode cX3_slope 8 = .ok (.ifCond .ne 5, 3) := by decide +kernel
theorem dX3_slope_11 : decode cX3_slope 11 = .ok (.iconst (-1), 1) := by decide +kernel
theorem dX3_slope_12 : decode cX3_slope 12 = .ok (.ireturn, 1) := by decide +kernel
theorem dX3_slope_13 : decode cX3_slope 13 = .ok (.iload_n 2, 1) := by decide +kernel
theorem dX3_slope_14 : decode cX3_slope 14 = .ok (.iconst 0, 1) := by decide +kernel
theorem dX3_slope_15 : decode cX3_slope 15 = .ok (.bipush 100, 2) := by decide +kernel
theorem dX3_slope_17 : decode cX3_slope 17 = .ok (.invokestatic 27, 3) := by decide +kernel
theorem dX3_slope_20 : decode cX3_slope 20 = .ok (.ifCond .eq 12, 3) := by decide +kernel
theorem dX3_slope_23 : decode cX3_slope 23 = .ok (.iload_n 3, 1) := by decide +kernel
theorem dX3_slope_24 : decode cX3_slope 24 = .ok (.iconst 0, 1) := by decide +kernel
theorem dX3_slope_25 : decode cX3_slope 25 = .ok (.iconst 1, 1) := by decide +kernel
theorem dX3_slope_26 : decode cX3_slope 26 = .ok (.invokestatic 27, 3) := by decide +kernel
theorem dX3_slope_29 : decode cX3_slope 29 = .ok (.ifCond .ne 6, 3) := by decide +kernel
theorem dX3_slope_32 : decode cX3_slope 32 = .ok (.bipush (-2), 2) := by decide +kernel
theorem dX3_slope_34 : decode cX3_slope 34 = .ok (.ireturn, 1) := by decide +kernel
theorem dX3_slope_35 : decode cX3_slope 35 = .ok (.iload_n 3, 1) := by decide +kernel
theorem dX3_slope_36 : decode cX3_slope 36 = .ok (.ifCond .ne 15, 3) := by decide +kernel
theorem dX3_slope_39 : decode cX3_slope 39 = .ok (.aload_n 0, 1) := by decide +kernel
theorem dX3_slope_40 : decode cX3_slope 40 = .ok (.getfield 10, 3) := by decide +kernel
theorem dX3_slope_43 : decode cX3_slope 43 = .ok (.iload_n 1, 1) := by decide +kernel
theorem dX3_slope_44 : decode cX3_slope 44 = .ok (.iload_n 2, 1) := by decide +kernel
theorem dX3_slope_45 : decode cX3_slope 45 = .ok (.invokevirtual 74, 3) := by decide +kernel
theorem dX3_slope_48 : decode cX3_slope 48 = .ok (.goto 12, 3) := by decide +kernel
theorem dX3_slope_51 : decode cX3_slope 51 = .ok (.aload_n 0, 1) := by decide +kernel
theorem dX3_slope_52 : decode cX3_slope 52 = .ok (.getfield 10, 3) := by decide +kernel
theorem dX3_slope_55 : decode cX3_slope 55 = .ok (.iload_n 1, 1) := by decide +kernel
theorem dX3_slope_56 : decode cX3_slope 56 = .ok (.iload_n 2, 1) := by decide +kernel
theorem dX3_slope_57 : decode cX3_slope 57 = .ok (.invokevirtual 77, 3) := by decide +kernel
theorem dX3_slope_60 : decode cX3_slope 60 = .ok (.ireturn, 1) := by decide +kernel
set_option maxRecDepth 20000 in
theorem ggX3_weakest_X3_within : GoodIn wsX3_weakest wsX3_within := goodIn_r _ [5] (by decide +kernel) (by decide +kernel)
set_option maxRecDepth 20000 in
theorem gX3_weakest_X3_within : GoodIn wsX3_weakest (va_wsS RX3 27 yX3_within wsX3_within) := goodIn_app (goodIn_of _ (by decide +kernel)) ggX3_weakest_X3_within
set_option maxRecDepth 20000 in
theorem ggX3_weakest_X0_leastMargin : GoodIn wsX3_weakest wsX0_leastMargin := goodIn_r _ [10, 11, 12, 13, 14, 9, 15, 16, 17, 18, 19, 20, 21, 22, 23, 24, 25, 26, 27, 28, 29, 30, 31, 32, 33, 34, 35, 36, 37, 42, 43, 44, 45, 46, 47, 48, 49] (by decide +kernel) (by decide +kernel)
set_option maxRecDepth 20000 in
theorem gX3_weakest_X0_leastMargin : GoodIn wsX3_weakest (wsV RX3 80 RX0 yX0_leastMargin wsX0_leastMargin) := goodIn_app (goodIn_of _ (by decide +kernel)) ggX3_weakest_X0_leastMargin
set_option maxRecDepth 20000 in
theorem ggX3_weakest_X0_margin : GoodIn wsX3_weakest wsX0_margin := goodIn_r _ [15, 16, 17, 18, 9, 19, 11, 20, 21, 22, 23, 24, 25, 26, 27, 28, 29, 30, 31, 32, 33, 34, 35, 36, 37, 42, 43, 44, 45, 46, 47, 48, 49] (by decide +kernel) (by decide +kernel)
set_option maxRecDepth 20000 in
theorem gX3_weakest_X0_margin : GoodIn wsX3_weakest (wsV RX3 77 RX0 yX0_margin wsX0_margin) := goodIn_app (goodIn_of _ (by decide +kernel)) ggX3_weakest_X0_margin
theorem dX3_weakest_0 : decode cX3_weakest 0 = .ok (.iload_n 1, 1) := by decide +kernel
theorem dX3_weakest_1 : decode cX3_weakest 1 = .ok (.iconst 0, 1) := by decide +kernel
theorem dX3_weakest_2 : decode cX3_weakest 2 = .ok (.bipush 100, 2) := by decide +kernel
theorem dX3_weakest_4 : decode cX3_weakest 4 = .ok (.invokestatic 27, 3) := by decide +kernel
theorem dX3_weakest_7 : decode cX3_weakest 7 = .ok (.ifCond .eq 12, 3) := by decide +kernel
theorem dX3_weakest_10 : decode cX3_weakest 10 = .ok (.iload_n 2, 1) := by decide +kernel
theorem dX3_weakest_11 : decode cX3_weakest 11 = .ok (.iconst 0, 1) := by decide +kernel
theorem dX3_weakest_12 : decode cX3_weakest 12 = .ok (.iconst 1, 1) := by decide +kernel
theorem dX3_weakest_13 : decode cX3_weakest 13 = .ok (.invokestatic 27, 3) := by decide +kernel
theorem dX3_weakest_16 : decode cX3_weakest 16 = .ok (.ifCond .ne 6, 3) := by decide +kernel
theorem dX3_weakest_19 : decode cX3_weakest 19 = .ok (.bipush (-2), 2) := by decide +kernel
theorem dX3_weakest_21 : decode cX3_weakest 21 = .ok (.ireturn, 1) := by decide +kernel
theorem dX3_weakest_22 : decode cX3_weakest 22 = .ok (.aload_n 0, 1) := by decide +kernel
theorem dX3_weakest_23 : decode cX3_weakest 23 = .ok (.getfield 10, 3) := by decide +kernel
theorem dX3_weakest_26 : decode cX3_weakest 26 = .ok (.iload_n 1, 1) := by decide +kernel
theorem dX3_weakest_27 : decode cX3_weakest 27 = .ok (.invokevirtual 80, 3) := by decide +kernel
theorem dX3_weakest_30 : decode cX3_weakest 30 = .ok (.istore_n 3, 1) := by decide +kernel
theorem dX3_weakest_31 : decode cX3_weakest 31 = .ok (.iload_n 3, 1) := by decide +kernel
theorem dX3_weakest_32 : decode cX3_weakest 32 = .ok (.bipush (-6), 2) := by decide +kernel
theorem dX3_weakest_34 : decode cX3_weakest 34 = .ok (.if_icmp .ne 6, 3) := by decide +kernel
theorem dX3_weakest_37 : decode cX3_weakest 37 = .ok (.bipush (-6), 2) := by decide +kernel
theorem dX3_weakest_39 : decode cX3_weakest 39 = .ok (.ireturn, 1) := by decide +kernel
theorem dX3_weakest_40 : decode cX3_weakest 40 = .ok (.iload_n 2, 1) := by decide +kernel
theorem dX3_weakest_41 : decode cX3_weakest 41 = .ok (.ifCond .ne 7, 3) := by decide +kernel
theorem dX3_weakest_44 : decode cX3_weakest 44 = .ok (.iload_n 3, 1) := by decide +kernel
theorem dX3_weakest_45 : decode cX3_weakest 45 = .ok (.goto 12, 3) := by decide +kernel
theorem dX3_weakest_48 : decode cX3_weakest 48 = .ok (.aload_n 0, 1) := by decide +kernel
theorem dX3_weakest_49 : decode cX3_weakest 49 = .ok (.getfield 10, 3) := by decide +kernel
theorem dX3_weakest_52 : decode cX3_weakest 52 = .ok (.iload_n 3, 1) := by decide +kernel
theorem dX3_weakest_53 : decode cX3_weakest 53 = .ok (.iload_n 1, 1) := by decide +kernel
theorem dX3_weakest_54 : decode cX3_weakest 54 = .ok (.invokevirtual 77, 3) := by decide +kernel
theorem dX3_weakest_57 : decode cX3_weakest 57 = .ok (.ireturn, 1) := by decide +kernel
set_option maxRecDepth 20000 in
theorem ggX3_blow_X3_within : GoodIn wsX3_blow wsX3_within := goodIn_r _ [6] (by decide +kernel) (by decide +kernel)
set_option maxRecDepth 20000 in
theorem gX3_blow_X3_within : GoodIn wsX3_blow (va_wsS RX3 27 yX3_within wsX3_within) := goodIn_app (goodIn_of _ (by decide +kernel)) ggX3_blow_X3_within
theorem dX3_blow_0 : decode cX3_blow 0 = .ok (.iload_n 1, 1) := by decide +kernel
theorem dX3_blow_1 : decode cX3_blow 1 = .ok (.iconst 1, 1) := by decide +kernel
theorem dX3_blow_2 : decode cX3_blow 2 = .ok (.bipush 50, 2) := by decide +kernel
theorem dX3_blow_4 : decode cX3_blow 4 = .ok (.invokestatic 27, 3) := by decide +kernel
theorem dX3_blow_7 : decode cX3_blow 7 = .ok (.ifCond .ne 6, 3) := by decide +kernel
theorem dX3_blow_10 : decode cX3_blow 10 = .ok (.bipush (-2), 2) := by decide +kernel
theorem dX3_blow_12 : decode cX3_blow 12 = .ok (.ireturn, 1) := by decide +kernel
theorem dX3_blow_13 : decode cX3_blow 13 = .ok (.aload_n 0, 1) := by decide +kernel
theorem dX3_blow_14 : decode cX3_blow 14 = .ok (.getfield 10, 3) := by decide +kernel
theorem dX3_blow_17 : decode cX3_blow 17 = .ok (.getfield 83, 3) := by decide +kernel
theorem dX3_blow_20 : decode cX3_blow 20 = .ok (.istore_n 2, 1) := by decide +kernel
theorem dX3_blow_21 : decode cX3_blow 21 = .ok (.aload_n 0, 1) := by decide +kernel
theorem dX3_blow_22 : decode cX3_blow 22 = .ok (.getfield 10, 3) := by decide +kernel
theorem dX3_blow_25 : decode cX3_blow 25 = .ok (.iload_n 1, 1) := by decide +kernel
theorem dX3_blow_26 : decode cX3_blow 26 = .ok (.putfield 83, 3) := by decide +kernel
theorem dX3_blow_29 : decode cX3_blow 29 = .ok (.iload_n 2, 1) := by decide +kernel
theorem dX3_blow_30 : decode cX3_blow 30 = .ok (.ireturn, 1) := by decide +kernel
set_option maxRecDepth 20000 in
theorem ggX3_taps_X3_within : GoodIn wsX3_taps wsX3_within := goodIn_r _ [9] (by decide +kernel) (by decide +kernel)
set_option maxRecDepth 20000 in
theorem gX3_taps_X3_within : GoodIn wsX3_taps (va_wsS RX3 27 yX3_within wsX3_within) := goodIn_app (goodIn_of _ (by decide +kernel)) ggX3_taps_X3_within
set_option maxRecDepth 20000 in
theorem ggX3_taps_X2_run : GoodIn wsX3_taps wsX2_run := goodIn_r _ [14, 15, 16, 17, 18, 19, 20, 21, 13, 22, 23, 24, 25, 26, 27, 28, 29, 30, 31, 32, 33, 34, 35, 36, 37, 38, 39, 40, 41, 42, 43, 44, 45, 46, 8, 47, 48, 49, 50, 51, 52, 53, 54, 55, 68, 69, 70, 71, 72, 73, 74, 75, 76, 77, 78] (by decide +kernel) (by decide +kernel)
set_option maxRecDepth 20000 in
theorem gX3_taps_X2_run : GoodIn wsX3_taps (wsV RX3 86 RX2 yX2_run wsX2_run) := goodIn_app (goodIn_of _ (by decide +kernel)) ggX3_taps_X2_run
set_option maxRecDepth 20000 in
theorem ggX3_taps_X2_isClean : GoodIn wsX3_taps wsX2_isClean := goodIn_r _ [59, 19, 60, 61, 62, 63, 64, 68, 69, 70, 71, 72, 73, 74, 75, 76, 77, 78] (by decide +kernel) (by decide +kernel)
set_option maxRecDepth 20000 in
theorem gX3_taps_X2_isClean : GoodIn wsX3_taps (wsV RX3 99 RX2 yX2_isClean wsX2_isClean) := goodIn_app (goodIn_of _ (by decide +kernel)) ggX3_taps_X2_isClean
theorem dX3_taps_0 : decode cX3_taps 0 = .ok (.iload_n 2, 1) := by decide +kernel
theorem dX3_taps_1 : decode cX3_taps 1 = .ok (.iconst 0, 1) := by decide +kernel
theorem dX3_taps_2 : decode cX3_taps 2 = .ok (.iconst 2, 1) := by decide +kernel
theorem dX3_taps_3 : decode cX3_taps 3 = .ok (.invokestatic 27, 3) := by decide +kernel
theorem dX3_taps_6 : decode cX3_taps 6 = .ok (.ifCond .ne 6, 3) := by decide +kernel
theorem dX3_taps_9 : decode cX3_taps 9 = .ok (.bipush (-2), 2) := by decide +kernel
theorem dX3_taps_11 : decode cX3_taps 11 = .ok (.ireturn, 1) := by decide +kernel
theorem dX3_taps_12 : decode cX3_taps 12 = .ok (.aload_n 0, 1) := by decide +kernel
theorem dX3_taps_13 : decode cX3_taps 13 = .ok (.getfield 19, 3) := by decide +kernel
theorem dX3_taps_16 : decode cX3_taps 16 = .ok (.aload_n 0, 1) := by decide +kernel
theorem dX3_taps_17 : decode cX3_taps 17 = .ok (.getfield 10, 3) := by decide +kernel
theorem dX3_taps_20 : decode cX3_taps 20 = .ok (.invokevirtual 86, 3) := by decide +kernel
theorem dX3_taps_23 : decode cX3_taps 23 = .ok (.iload_n 1, 1) := by decide +kernel
theorem dX3_taps_24 : decode cX3_taps 24 = .ok (.iconst (-1), 1) := by decide +kernel
theorem dX3_taps_25 : decode cX3_taps 25 = .ok (.if_icmp .ne 11, 3) := by decide +kernel
theorem dX3_taps_28 : decode cX3_taps 28 = .ok (.aload_n 0, 1) := by decide +kernel
theorem dX3_taps_29 : decode cX3_taps 29 = .ok (.getfield 19, 3) := by decide +kernel
theorem dX3_taps_32 : decode cX3_taps 32 = .ok (.getfield 90, 3) := by decide +kernel
theorem dX3_taps_35 : decode cX3_taps 35 = .ok (.ireturn, 1) := by decide +kernel
theorem dX3_taps_36 : decode cX3_taps 36 = .ok (.iload_n 1, 1) := by decide +kernel
theorem dX3_taps_37 : decode cX3_taps 37 = .ok (.iconst 0, 1) := by decide +kernel
theorem dX3_taps_38 : decode cX3_taps 38 = .ok (.aload_n 0, 1) := by decide +kernel
theorem dX3_taps_39 : decode cX3_taps 39 = .ok (.getfield 19, 3) := by decide +kernel
theorem dX3_taps_42 : decode cX3_taps 42 = .ok (.getfield 90, 3) := by decide +kernel
theorem dX3_taps_45 : decode cX3_taps 45 = .ok (.iconst 1, 1) := by decide +kernel
theorem dX3_taps_46 : decode cX3_taps 46 = .ok (.isub, 1) := by decide +kernel
theorem dX3_taps_47 : decode cX3_taps 47 = .ok (.invokestatic 27, 3) := by decide +kernel
theorem dX3_taps_50 : decode cX3_taps 50 = .ok (.ifCond .ne 6, 3) := by decide +kernel
theorem dX3_taps_53 : decode cX3_taps 53 = .ok (.bipush (-6), 2) := by decide +kernel
theorem dX3_taps_55 : decode cX3_taps 55 = .ok (.ireturn, 1) := by decide +kernel
theorem dX3_taps_56 : decode cX3_taps 56 = .ok (.iload_n 2, 1) := by decide +kernel
theorem dX3_taps_57 : decode cX3_taps 57 = .ok (.lookupswitch 47 #[(0, 27), (1, 37)], 27) := by decide +kernel
theorem dX3_taps_84 : decode cX3_taps 84 = .ok (.aload_n 0, 1) := by decide +kernel
theorem dX3_taps_85 : decode cX3_taps 85 = .ok (.getfield 19, 3) := by decide +kernel
theorem dX3_taps_88 : decode cX3_taps 88 = .ok (.getfield 93, 3) := by decide +kernel
theorem dX3_taps_91 : decode cX3_taps 91 = .ok (.iload_n 1, 1) := by decide +kernel
theorem dX3_taps_92 : decode cX3_taps 92 = .ok (.iaload, 1) := by decide +kernel
theorem dX3_taps_93 : decode cX3_taps 93 = .ok (.ireturn, 1) := by decide +kernel
theorem dX3_taps_94 : decode cX3_taps 94 = .ok (.aload_n 0, 1) := by decide +kernel
theorem dX3_taps_95 : decode cX3_taps 95 = .ok (.getfield 19, 3) := by decide +kernel
theorem dX3_taps_98 : decode cX3_taps 98 = .ok (.getfield 96, 3) := by decide +kernel
theorem dX3_taps_101 : decode cX3_taps 101 = .ok (.iload_n 1, 1) := by decide +kernel
theorem dX3_taps_102 : decode cX3_taps 102 = .ok (.iaload, 1) := by decide +kernel
theorem dX3_taps_103 : decode cX3_taps 103 = .ok (.ireturn, 1) := by decide +kernel
theorem dX3_taps_104 : decode cX3_taps 104 = .ok (.aload_n 0, 1) := by decide +kernel
theorem dX3_taps_105 : decode cX3_taps 105 = .ok (.getfield 19, 3) := by decide +kernel
theorem dX3_taps_108 : decode cX3_taps 108 = .ok (.aload_n 0, 1) := by decide +kernel
theorem dX3_taps_109 : decode cX3_taps 109 = .ok (.getfield 10, 3) := by decide +kernel
theorem dX3_taps_112 : decode cX3_taps 112 = .ok (.iload_n 1, 1) := by decide +kernel
theorem dX3_taps_113 : decode cX3_taps 113 = .ok (.invokevirtual 99, 3) := by decide +kernel
theorem dX3_taps_116 : decode cX3_taps 116 = .ok (.ifCond .eq 7, 3) := by decide +kernel
theorem dX3_taps_119 : decode cX3_taps 119 = .ok (.iconst 1, 1) := by decide +kernel
theorem dX3_taps_120 : decode cX3_taps 120 = .ok (.goto 4, 3) := by decide +kernel
theorem dX3_taps_123 : decode cX3_taps 123 = .ok (.iconst 0, 1) := by decide +kernel
theorem dX3_taps_124 : decode cX3_taps 124 = .ok (.ireturn, 1) := by decide +kernel
set_option maxRecDepth 20000 in
theorem ggX3_need_X3_within : GoodIn wsX3_need wsX3_within := goodIn_r _ [6] (by decide +kernel) (by decide +kernel)
set_option maxRecDepth 20000 in
theorem gX3_need_X3_within : GoodIn wsX3_need (va_wsS RX3 27 yX3_within wsX3_within) := goodIn_app (goodIn_of _ (by decide +kernel)) ggX3_need_X3_within
set_option maxRecDepth 20000 in
theorem ggX3_need_X2_weightOf : GoodIn wsX3_need wsX2_weightOf := goodIn_r _ [10] (by decide +kernel) (by decide +kernel)
set_option maxRecDepth 20000 in
theorem gX3_need_X2_weightOf : GoodIn wsX3_need (va_wsS RX3 103 yX2_weightOf wsX2_weightOf) := goodIn_app (goodIn_of _ (by decide +kernel)) ggX3_need_X2_weightOf
set_option maxRecDepth 20000 in
theorem ggX3_need_X0_breaking : GoodIn wsX3_need wsX0_breaking := goodIn_r _ [15, 16, 17, 18, 14, 19, 20, 21, 22, 23, 24, 25, 26, 27, 28, 29, 30, 31, 32, 33, 34, 5, 35, 36, 37, 38, 39, 40, 41, 42, 43, 47, 48, 49, 50, 51, 52, 53, 54] (by decide +kernel) (by decide +kernel)
set_option maxRecDepth 20000 in
theorem gX3_need_X0_breaking : GoodIn wsX3_need (wsV RX3 106 RX0 yX0_breaking wsX0_breaking) := goodIn_app (goodIn_of _ (by decide +kernel)) ggX3_need_X0_breaking
theorem dX3_need_0 : decode cX3_need 0 = .ok (.iload_n 1, 1) := by decide +kernel
theorem dX3_need_1 : decode cX3_need 1 = .ok (.iconst 1, 1) := by decide +kernel
theorem dX3_need_2 : decode cX3_need 2 = .ok (.bipush 30, 2) := by decide +kernel
theorem dX3_need_4 : decode cX3_need 4 = .ok (.invokestatic 27, 3) := by decide +kernel
theorem dX3_need_7 : decode cX3_need 7 = .ok (.ifCond .ne 6, 3) := by decide +kernel
theorem dX3_need_10 : decode cX3_need 10 = .ok (.bipush (-2), 2) := by decide +kernel
theorem dX3_need_12 : decode cX3_need 12 = .ok (.ireturn, 1) := by decide +kernel
theorem dX3_need_13 : decode cX3_need 13 = .ok (.iconst 1, 1) := by decide +kernel
theorem dX3_need_14 : decode cX3_need 14 = .ok (.istore_n 2, 1) := by decide +kernel
theorem dX3_need_15 : decode cX3_need 15 = .ok (.iload_n 2, 1) := by decide +kernel
theorem dX3_need_16 : decode cX3_need 16 = .ok (.bipush 50, 2) := by decide +kernel
theorem dX3_need_18 : decode cX3_need 18 = .ok (.if_icmp .gt 35, 3) := by decide +kernel
theorem dX3_need_21 : decode cX3_need 21 = .ok (.aload_n 0, 1) := by decide +kernel
theorem dX3_need_22 : decode cX3_need 22 = .ok (.getfield 10, 3) := by decide +kernel
theorem dX3_need_25 : decode cX3_need 25 = .ok (.aload_n 0, 1) := by decide +kernel
theorem dX3_need_26 : decode cX3_need 26 = .ok (.getfield 10, 3) := by decide +kernel
theorem dX3_need_29 : decode cX3_need 29 = .ok (.getfield 31, 3) := by decide +kernel
theorem dX3_need_32 : decode cX3_need 32 = .ok (.iload_n 1, 1) := by decide +kernel
theorem dX3_need_33 : decode cX3_need 33 = .ok (.iload_n 2, 1) := by decide +kernel
theorem dX3_need_34 : decode cX3_need 34 = .ok (.invokestatic 103, 3) := by decide +kernel
theorem dX3_need_37 : decode cX3_need 37 = .ok (.invokevirtual 106, 3) := by decide +kernel
theorem dX3_need_40 : decode cX3_need 40 = .ok (.bipush (-6), 2) := by decide +kernel
theorem dX3_need_42 : decode cX3_need 42 = .ok (.if_icmp .eq 5, 3) := by decide +kernel
theorem dX3_need_45 : decode cX3_need 45 = .ok (.iload_n 2, 1) := by decide +kernel
theorem dX3_need_46 : decode cX3_need 46 = .ok (.ireturn, 1) := by decide +kernel
theorem dX3_need_47 : decode cX3_need 47 = .ok (.iinc 2 1, 3) := by decide +kernel
theorem dX3_need_50 : decode cX3_need 50 = .ok (.goto (-35), 3) := by decide +kernel
theorem dX3_need_53 : decode cX3_need 53 = .ok (.bipush (-6), 2) := by decide +kernel
theorem dX3_need_55 : decode cX3_need 55 = .ok (.ireturn, 1) := by decide +kernel
set_option maxRecDepth 20000 in
theorem ggX3_goes_X0_has : GoodIn wsX3_goes wsX0_has := goodIn_r _ [7, 8, 9, 10, 11, 52, 53, 54, 55, 56, 57, 58, 59] (by decide +kernel) (by decide +kernel)
set_option maxRecDepth 20000 in
theorem gX3_goes_X0_has : GoodIn wsX3_goes (wsV RX3 43 RX0 yX0_has wsX0_has) := goodIn_app (goodIn_of _ (by decide +kernel)) ggX3_goes_X0_has
set_option maxRecDepth 20000 in
theorem ggX3_goes_X3_within : GoodIn wsX3_goes wsX3_within := goodIn_r _ [11] (by decide +kernel) (by decide +kernel)
set_option maxRecDepth 20000 in
theorem gX3_goes_X3_within : GoodIn wsX3_goes (va_wsS RX3 27 yX3_within wsX3_within) := goodIn_app (goodIn_of _ (by decide +kernel)) ggX3_goes_X3_within
set_option maxRecDepth 20000 in
theorem ggX3_goes_X0_slabGoes : GoodIn wsX3_goes wsX0_slabGoes := goodIn_r _ [16, 8, 17, 18, 19, 6, 20, 21, 22, 23, 24, 25, 26, 27, 28, 29, 30, 31, 32, 33, 34, 35, 36, 37, 38, 39, 10, 40, 41, 42, 43, 44, 45, 46, 47, 48, 52, 53, 54, 55, 56, 57, 58, 59] (by decide +kernel) (by decide +kernel)
set_option maxRecDepth 20000 in
theorem gX3_goes_X0_slabGoes : GoodIn wsX3_goes (wsV RX3 109 RX0 yX0_slabGoes wsX0_slabGoes) := goodIn_app (goodIn_of _ (by decide +kernel)) ggX3_goes_X0_slabGoes
theorem dX3_goes_0 : decode cX3_goes 0 = .ok (.aload_n 0, 1) := by decide +kernel
theorem dX3_goes_1 : decode cX3_goes 1 = .ok (.getfield 10, 3) := by decide +kernel
theorem dX3_goes_4 : decode cX3_goes 4 = .ok (.iload_n 1, 1) := by decide +kernel
theorem dX3_goes_5 : decode cX3_goes 5 = .ok (.invokevirtual 43, 3) := by decide +kernel
theorem dX3_goes_8 : decode cX3_goes 8 = .ok (.ifCond .ne 5, 3) := by decide +kernel
theorem dX3_goes_11 : decode cX3_goes 11 = .ok (.iconst (-1), 1) := by decide +kernel
theorem dX3_goes_12 : decode cX3_goes 12 = .ok (.ireturn, 1) := by decide +kernel
theorem dX3_goes_13 : decode cX3_goes 13 = .ok (.iload_n 2, 1) := by decide +kernel
theorem dX3_goes_14 : decode cX3_goes 14 = .ok (.iconst 0, 1) := by decide +kernel
theorem dX3_goes_15 : decode cX3_goes 15 = .ok (.bipush 100, 2) := by decide +kernel
theorem dX3_goes_17 : decode cX3_goes 17 = .ok (.invokestatic 27, 3) := by decide +kernel
theorem dX3_goes_20 : decode cX3_goes 20 = .ok (.ifCond .eq 13, 3) := by decide +kernel
theorem dX3_goes_23 : decode cX3_goes 23 = .ok (.iload_n 3, 1) := by decide +kernel
theorem dX3_goes_24 : decode cX3_goes 24 = .ok (.iconst 0, 1) := by decide +kernel
theorem dX3_goes_25 : decode cX3_goes 25 = .ok (.bipush 99, 2) := by decide +kernel
theorem dX3_goes_27 : decode cX3_goes 27 = .ok (.invokestatic 27, 3) := by decide +kernel
theorem dX3_goes_30 : decode cX3_goes 30 = .ok (.ifCond .ne 6, 3) := by decide +kernel
theorem dX3_goes_33 : decode cX3_goes 33 = .ok (.bipush (-2), 2) := by decide +kernel
theorem dX3_goes_35 : decode cX3_goes 35 = .ok (.ireturn, 1) := by decide +kernel
theorem dX3_goes_36 : decode cX3_goes 36 = .ok (.iload_n 1, 1) := by decide +kernel
theorem dX3_goes_37 : decode cX3_goes 37 = .ok (.aload_n 0, 1) := by decide +kernel
theorem dX3_goes_38 : decode cX3_goes 38 = .ok (.getfield 10, 3) := by decide +kernel
theorem dX3_goes_41 : decode cX3_goes 41 = .ok (.getfield 31, 3) := by decide +kernel
theorem dX3_goes_44 : decode cX3_goes 44 = .ok (.iconst 1, 1) := by decide +kernel
theorem dX3_goes_45 : decode cX3_goes 45 = .ok (.isub, 1) := by decide +kernel
theorem dX3_goes_46 : decode cX3_goes 46 = .ok (.if_icmp .ne 6, 3) := by decide +kernel
theorem dX3_goes_49 : decode cX3_goes 49 = .ok (.bipush (-3), 2) := by decide +kernel
theorem dX3_goes_51 : decode cX3_goes 51 = .ok (.ireturn, 1) := by decide +kernel
theorem dX3_goes_52 : decode cX3_goes 52 = .ok (.aload_n 0, 1) := by decide +kernel
theorem dX3_goes_53 : decode cX3_goes 53 = .ok (.getfield 10, 3) := by decide +kernel
theorem dX3_goes_56 : decode cX3_goes 56 = .ok (.iload_n 1, 1) := by decide +kernel
theorem dX3_goes_57 : decode cX3_goes 57 = .ok (.iload_n 2, 1) := by decide +kernel
theorem dX3_goes_58 : decode cX3_goes 58 = .ok (.iload_n 3, 1) := by decide +kernel
theorem dX3_goes_59 : decode cX3_goes 59 = .ok (.invokevirtual 109, 3) := by decide +kernel
theorem dX3_goes_62 : decode cX3_goes 62 = .ok (.ifCond .eq 7, 3) := by decide +kernel
theorem dX3_goes_65 : decode cX3_goes 65 = .ok (.iconst 1, 1) := by decide +kernel
theorem dX3_goes_66 : decode cX3_goes 66 = .ok (.goto 4, 3) := by decide +kernel
theorem dX3_goes_69 : decode cX3_goes 69 = .ok (.iconst 0, 1) := by decide +kernel
theorem dX3_goes_70 : decode cX3_goes 70 = .ok (.ireturn, 1) := by decide +kernel
set_option maxRecDepth 20000 in
theorem ggX3_steep_X3_within : GoodIn wsX3_steep wsX3_within := goodIn_r _ [5] (by decide +kernel) (by decide +kernel)
set_option maxRecDepth 20000 in
theorem gX3_steep_X3_within : GoodIn wsX3_steep (va_wsS RX3 27 yX3_within wsX3_within) := goodIn_app (goodIn_of _ (by decide +kernel)) ggX3_steep_X3_within
set_option maxRecDepth 20000 in
theorem ggX3_steep_X0_going : GoodIn wsX3_steep wsX0_going := goodIn_r _ [10, 11, 12, 13, 14, 9, 15, 16, 17, 18, 19, 20, 21, 22, 23, 24, 25, 26, 27, 28, 29, 30, 31, 32, 33, 34, 35, 36, 37, 38, 4, 39, 40, 41, 42, 43, 44, 45, 46, 47, 51, 52, 53, 54, 55, 56, 57, 58] (by decide +kernel) (by decide +kernel)
set_option maxRecDepth 20000 in
theorem gX3_steep_X0_going : GoodIn wsX3_steep (wsV RX3 112 RX0 yX0_going wsX0_going) := goodIn_app (goodIn_of _ (by decide +kernel)) ggX3_steep_X0_going
theorem dX3_steep_0 : decode cX3_steep 0 = .ok (.iload_n 1, 1) := by decide +kernel
theorem dX3_steep_1 : decode cX3_steep 1 = .ok (.iconst 0, 1) := by decide +kernel
theorem dX3_steep_2 : decode cX3_steep 2 = .ok (.bipush 99, 2) := by decide +kernel
theorem dX3_steep_4 : decode cX3_steep 4 = .ok (.invokestatic 27, 3) := by decide +kernel
theorem dX3_steep_7 : decode cX3_steep 7 = .ok (.ifCond .eq 12, 3) := by decide +kernel
theorem dX3_steep_10 : decode cX3_steep 10 = .ok (.iload_n 2, 1) := by decide +kernel
theorem dX3_steep_11 : decode cX3_steep 11 = .ok (.iconst 0, 1) := by decide +kernel
theorem dX3_steep_12 : decode cX3_steep 12 = .ok (.iconst 1, 1) := by decide +kernel
theorem dX3_steep_13 : decode cX3_steep 13 = .ok (.invokestatic 27, 3) := by decide +kernel
theorem dX3_steep_16 : decode cX3_steep 16 = .ok (.ifCond .ne 6, 3) := by decide +kernel
theorem dX3_steep_19 : decode cX3_steep 19 = .ok (.bipush (-2), 2) := by decide +kernel
theorem dX3_steep_21 : decode cX3_steep 21 = .ok (.ireturn, 1) := by decide +kernel
theorem dX3_steep_22 : decode cX3_steep 22 = .ok (.iconst 0, 1) := by decide +kernel
theorem dX3_steep_23 : decode cX3_steep 23 = .ok (.istore_n 3, 1) := by decide +kernel
theorem dX3_steep_24 : decode cX3_steep 24 = .ok (.iload_n 3, 1) := by decide +kernel
theorem dX3_steep_25 : decode cX3_steep 25 = .ok (.bipush 100, 2) := by decide +kernel
theorem dX3_steep_27 : decode cX3_steep 27 = .ok (.if_icmp .gt 38, 3) := by decide +kernel
theorem dX3_steep_30 : decode cX3_steep 30 = .ok (.aload_n 0, 1) := by decide +kernel
theorem dX3_steep_31 : decode cX3_steep 31 = .ok (.getfield 10, 3) := by decide +kernel
theorem dX3_steep_34 : decode cX3_steep 34 = .ok (.iload_n 3, 1) := by decide +kernel
theorem dX3_steep_35 : decode cX3_steep 35 = .ok (.iload_n 1, 1) := by decide +kernel
theorem dX3_steep_36 : decode cX3_steep 36 = .ok (.invokevirtual 112, 3) := by decide +kernel
theorem dX3_steep_39 : decode cX3_steep 39 = .ok (.istore 4, 2) := by decide +kernel
theorem dX3_steep_41 : decode cX3_steep 41 = .ok (.iload 4, 2) := by decide +kernel
theorem dX3_steep_43 : decode cX3_steep 43 = .ok (.bipush (-6), 2) := by decide +kernel
theorem dX3_steep_45 : decode cX3_steep 45 = .ok (.if_icmp .eq 14, 3) := by decide +kernel
theorem dX3_steep_48 : decode cX3_steep 48 = .ok (.iload_n 2, 1) := by decide +kernel
theorem dX3_steep_49 : decode cX3_steep 49 = .ok (.ifCond .ne 7, 3) := by decide +kernel
theorem dX3_steep_52 : decode cX3_steep 52 = .ok (.iload_n 3, 1) := by decide +kernel
theorem dX3_steep_53 : decode cX3_steep 53 = .ok (.goto 5, 3) := by decide +kernel
theorem dX3_steep_56 : decode cX3_steep 56 = .ok (.iload 4, 2) := by decide +kernel
theorem dX3_steep_58 : decode cX3_steep 58 = .ok (.ireturn, 1) := by decide +kernel
theorem dX3_steep_59 : decode cX3_steep 59 = .ok (.iinc 3 1, 3) := by decide +kernel
theorem dX3_steep_62 : decode cX3_steep 62 = .ok (.goto (-38), 3) := by decide +kernel
theorem dX3_steep_65 : decode cX3_steep 65 = .ok (.bipush (-6), 2) := by decide +kernel
theorem dX3_steep_67 : decode cX3_steep 67 = .ok (.ireturn, 1) := by decide +kernel
set_option maxRecDepth 20000 in
theorem ggX3_pack_X3_within : GoodIn wsX3_pack wsX3_within := goodIn_r _ [6] (by decide +kernel) (by decide +kernel)
set_option maxRecDepth 20000 in
theorem gX3_pack_X3_within : GoodIn wsX3_pack (va_wsS RX3 27 yX3_within wsX3_within) := goodIn_app (goodIn_of _ (by decide +kernel)) ggX3_pack_X3_within
set_option maxRecDepth 20000 in
theorem ggX3_pack_X0_packTop : GoodIn wsX3_pack wsX0_packTop := goodIn_r _ [11, 12, 13, 14, 15, 16, 17, 18, 19, 20, 21, 22, 23, 5, 24, 28, 29, 30, 31, 32, 33, 34, 35] (by decide +kernel) (by decide +kernel)
set_option maxRecDepth 20000 in
theorem gX3_pack_X0_packTop : GoodIn wsX3_pack (wsV RX3 115 RX0 yX0_packTop wsX0_packTop) := goodIn_app (goodIn_of _ (by decide +kernel)) ggX3_pack_X0_packTop
theorem dX3_pack_0 : decode cX3_pack 0 = .ok (.iload_n 1, 1) := by decide +kernel
theorem dX3_pack_1 : decode cX3_pack 1 = .ok (.iconst 1, 1) := by decide +kernel
theorem dX3_pack_2 : decode cX3_pack 2 = .ok (.sipush 200, 3) := by decide +kernel
theorem dX3_pack_5 : decode cX3_pack 5 = .ok (.invokestatic 27, 3) := by decide +kernel
theorem dX3_pack_8 : decode cX3_pack 8 = .ok (.ifCond .ne 6, 3) := by decide +kernel
theorem dX3_pack_11 : decode cX3_pack 11 = .ok (.bipush (-2), 2) := by decide +kernel
theorem dX3_pack_13 : decode cX3_pack 13 = .ok (.ireturn, 1) := by decide +kernel
theorem dX3_pack_14 : decode cX3_pack 14 = .ok (.aload_n 0, 1) := by decide +kernel
theorem dX3_pack_15 : decode cX3_pack 15 = .ok (.getfield 10, 3) := by decide +kernel
theorem dX3_pack_18 : decode cX3_pack 18 = .ok (.getfield 31, 3) := by decide +kernel
theorem dX3_pack_21 : decode cX3_pack 21 = .ok (.ifCond .ne 6, 3) := by decide +kernel
theorem dX3_pack_24 : decode cX3_pack 24 = .ok (.bipush (-3), 2) := by decide +kernel
theorem dX3_pack_26 : decode cX3_pack 26 = .ok (.ireturn, 1) := by decide +kernel
theorem dX3_pack_27 : decode cX3_pack 27 = .ok (.aload_n 0, 1) := by decide +kernel
theorem dX3_pack_28 : decode cX3_pack 28 = .ok (.getfield 10, 3) := by decide +kernel
theorem dX3_pack_31 : decode cX3_pack 31 = .ok (.iload_n 1, 1) := by decide +kernel
theorem dX3_pack_32 : decode cX3_pack 32 = .ok (.invokevirtual 115, 3) := by decide +kernel
theorem dX3_pack_35 : decode cX3_pack 35 = .ok (.ireturn, 1) := by decide +kernel
set_option maxRecDepth 20000 in
theorem ggX3_settle_X3_within : GoodIn wsX3_settle wsX3_within := goodIn_r _ [6] (by decide +kernel) (by decide +kernel)
set_option maxRecDepth 20000 in
theorem gX3_settle_X3_within : GoodIn wsX3_settle (va_wsS RX3 27 yX3_within wsX3_within) := goodIn_app (goodIn_of _ (by decide +kernel)) ggX3_settle_X3_within
set_option maxRecDepth 20000 in
theorem ggX3_settle_X0_settleAll : GoodIn wsX3_settle wsX0_settleAll := goodIn_r _ [11, 12, 13, 14, 15, 16, 17, 18, 19, 20, 21, 22, 23, 5, 24, 36, 37, 38, 39, 40, 41, 42, 43] (by decide +kernel) (by decide +kernel)
set_option maxRecDepth 20000 in
theorem gX3_settle_X0_settleAll : GoodIn wsX3_settle (wsV RX3 118 RX0 yX0_settleAll wsX0_settleAll) := goodIn_app (goodIn_of _ (by decide +kernel)) ggX3_settle_X0_settleAll
set_option maxRecDepth 20000 in
theorem ggX3_settle_X0_allThick : GoodIn wsX3_settle wsX0_allThick := goodIn_r _ [28, 12, 29, 30, 31, 10, 32, 14, 36, 37, 38, 39, 40, 41, 42, 43] (by decide +kernel) (by decide +kernel)
set_option maxRecDepth 20000 in
theorem gX3_settle_X0_allThick : GoodIn wsX3_settle (wsV RX3 122 RX0 yX0_allThick wsX0_allThick) := goodIn_app (goodIn_of _ (by decide +kernel)) ggX3_settle_X0_allThick
theorem dX3_settle_0 : decode cX3_settle 0 = .ok (.iload_n 1, 1) := by decide +kernel
theorem dX3_settle_1 : decode cX3_settle 1 = .ok (.iconst 1, 1) := by decide +kernel
theorem dX3_settle_2 : decode cX3_settle 2 = .ok (.bipush 50, 2) := by decide +kernel
theorem dX3_settle_4 : decode cX3_settle 4 = .ok (.invokestatic 27, 3) := by decide +kernel
theorem dX3_settle_7 : decode cX3_settle 7 = .ok (.ifCond .ne 6, 3) := by decide +kernel
theorem dX3_settle_10 : decode cX3_settle 10 = .ok (.bipush (-2), 2) := by decide +kernel
theorem dX3_settle_12 : decode cX3_settle 12 = .ok (.ireturn, 1) := by decide +kernel
theorem dX3_settle_13 : decode cX3_settle 13 = .ok (.aload_n 0, 1) := by decide +kernel
theorem dX3_settle_14 : decode cX3_settle 14 = .ok (.getfield 10, 3) := by decide +kernel
theorem dX3_settle_17 : decode cX3_settle 17 = .ok (.getfield 31, 3) := by decide +kernel
theorem dX3_settle_20 : decode cX3_settle 20 = .ok (.ifCond .ne 6, 3) := by decide +kernel
theorem dX3_settle_23 : decode cX3_settle 23 = .ok (.bipush (-3), 2) := by decide +kernel
theorem dX3_settle_25 : decode cX3_settle 25 = .ok (.ireturn, 1) := by decide +kernel
theorem dX3_settle_26 : decode cX3_settle 26 = .ok (.aload_n 0, 1) := by decide +kernel
theorem dX3_settle_27 : decode cX3_settle 27 = .ok (.getfield 10, 3) := by decide +kernel
theorem dX3_settle_30 : decode cX3_settle 30 = .ok (.iload_n 1, 1) := by decide +kernel
theorem dX3_settle_31 : decode cX3_settle 31 = .ok (.invokevirtual 118, 3) := by decide +kernel
theorem dX3_settle_34 : decode cX3_settle 34 = .ok (.aload_n 0, 1) := by decide +kernel
theorem dX3_settle_35 : decode cX3_settle 35 = .ok (.getfield 10, 3) := by decide +kernel
theorem dX3_settle_38 : decode cX3_settle 38 = .ok (.invokevirtual 122, 3) := by decide +kernel
theorem dX3_settle_41 : decode cX3_settle 41 = .ok (.ireturn, 1) := by decide +kernel
set_option maxRecDepth 20000 in
theorem ggX3_melt_X3_within : GoodIn wsX3_melt wsX3_within := goodIn_r _ [6] (by decide +kernel) (by decide +kernel)
set_option maxRecDepth 20000 in
theorem gX3_melt_X3_within : GoodIn wsX3_melt (va_wsS RX3 27 yX3_within wsX3_within) := goodIn_app (goodIn_of _ (by decide +kernel)) ggX3_melt_X3_within
set_option maxRecDepth 20000 in
theorem ggX3_melt_X0_meltAway : GoodIn wsX3_melt wsX0_meltAway := goodIn_r _ [11, 12, 13, 23, 24, 25, 26, 27, 28, 29, 30] (by decide +kernel) (by decide +kernel)
set_option maxRecDepth 20000 in
theorem gX3_melt_X0_meltAway : GoodIn wsX3_melt (wsV RX3 126 RX0 yX0_meltAway wsX0_meltAway) := goodIn_app (goodIn_of _ (by decide +kernel)) ggX3_melt_X0_meltAway
set_option maxRecDepth 20000 in
theorem ggX3_melt_X0_wetFromTop : GoodIn wsX3_melt wsX0_wetFromTop := goodIn_r _ [17, 12, 18, 19, 23, 24, 25, 26, 27, 28, 29, 30] (by decide +kernel) (by decide +kernel)
set_option maxRecDepth 20000 in
theorem gX3_melt_X0_wetFromTop : GoodIn wsX3_melt (wsV RX3 129 RX0 yX0_wetFromTop wsX0_wetFromTop) := goodIn_app (goodIn_of _ (by decide +kernel)) ggX3_melt_X0_wetFromTop
theorem dX3_melt_0 : decode cX3_melt 0 = .ok (.iload_n 1, 1) := by decide +kernel
theorem dX3_melt_1 : decode cX3_melt 1 = .ok (.iconst 1, 1) := by decide +kernel
theorem dX3_melt_2 : decode cX3_melt 2 = .ok (.sipush 300, 3) := by decide +kernel
theorem dX3_melt_5 : decode cX3_melt 5 = .ok (.invokestatic 27, 3) := by decide +kernel
theorem dX3_melt_8 : decode cX3_melt 8 = .ok (.ifCond .ne 6, 3) := by decide +kernel
theorem dX3_melt_11 : decode cX3_melt 11 = .ok (.bipush (-2), 2) := by decide +kernel
theorem dX3_melt_13 : decode cX3_melt 13 = .ok (.ireturn, 1) := by decide +kernel
theorem dX3_melt_14 : decode cX3_melt 14 = .ok (.aload_n 0, 1) := by decide +kernel
theorem dX3_melt_15 : decode cX3_melt 15 = .ok (.getfield 10, 3) := by decide +kernel
theorem dX3_melt_18 : decode cX3_melt 18 = .ok (.getfield 31, 3) := by decide +kernel
theorem dX3_melt_21 : decode cX3_melt 21 = .ok (.ifCond .ne 6, 3) := by decide +kernel
theorem dX3_melt_24 : decode cX3_melt 24 = .ok (.bipush (-3), 2) := by decide +kernel
theorem dX3_melt_26 : decode cX3_melt 26 = .ok (.ireturn, 1) := by decide +kernel
theorem dX3_melt_27 : decode cX3_melt 27 = .ok (.aload_n 0, 1) := by decide +kernel
theorem dX3_melt_28 : decode cX3_melt 28 = .ok (.getfield 10, 3) := by decide +kernel
theorem dX3_melt_31 : decode cX3_melt 31 = .ok (.iload_n 1, 1) := by decide +kernel
theorem dX3_melt_32 : decode cX3_melt 32 = .ok (.invokevirtual 126, 3) := by decide +kernel
theorem dX3_melt_35 : decode cX3_melt 35 = .ok (.aload_n 0, 1) := by decide +kernel
theorem dX3_melt_36 : decode cX3_melt 36 = .ok (.getfield 10, 3) := by decide +kernel
theorem dX3_melt_39 : decode cX3_melt 39 = .ok (.invokevirtual 129, 3) := by decide +kernel
theorem dX3_melt_42 : decode cX3_melt 42 = .ok (.aload_n 0, 1) := by decide +kernel
theorem dX3_melt_43 : decode cX3_melt 43 = .ok (.getfield 10, 3) := by decide +kernel
theorem dX3_melt_46 : decode cX3_melt 46 = .ok (.getfield 31, 3) := by decide +kernel
theorem dX3_melt_49 : decode cX3_melt 49 = .ok (.ireturn, 1) := by decide +kernel
set_option maxRecDepth 20000 in
theorem ggX3_freeze_X0_freezeWet : GoodIn wsX3_freeze wsX0_freezeWet := goodIn_r _ [6, 7, 8, 9, 10, 14, 15, 16, 17, 18, 19, 20, 21] (by decide +kernel) (by decide +kernel)
set_option maxRecDepth 20000 in
theorem gX3_freeze_X0_freezeWet : GoodIn wsX3_freeze (wsV RX3 132 RX0 yX0_freezeWet wsX0_freezeWet) := goodIn_app (goodIn_of _ (by decide +kernel)) ggX3_freeze_X0_freezeWet
theorem dX3_freeze_0 : decode cX3_freeze 0 = .ok (.aload_n 0, 1) := by decide +kernel
theorem dX3_freeze_1 : decode cX3_freeze 1 = .ok (.getfield 10, 3) := by decide +kernel
theorem dX3_freeze_4 : decode cX3_freeze 4 = .ok (.invokevirtual 132, 3) := by decide +kernel
theorem dX3_freeze_7 : decode cX3_freeze 7 = .ok (.ireturn, 1) := by decide +kernel
theorem dX3_slide_0 : decode cX3_slide 0 = .ok (.aload_n 0, 1) := by decide +kernel
theorem dX3_slide_1 : decode cX3_slide 1 = .ok (.getfield 10, 3) := by decide +kernel
theorem dX3_slide_4 : decode cX3_slide 4 = .ok (.getfield 31, 3) := by decide +kernel
theorem dX3_slide_7 : decode cX3_slide 7 = .ok (.ifCond .ne 6, 3) := by decide +kernel
theorem dX3_slide_10 : decode cX3_slide 10 = .ok (.bipush (-3), 2) := by decide +kernel
theorem dX3_slide_12 : decode cX3_slide 12 = .ok (.ireturn, 1) := by decide +kernel
theorem dX3_slide_13 : decode cX3_slide 13 = .ok (.aload_n 0, 1) := by decide +kernel
theorem dX3_slide_14 : decode cX3_slide 14 = .ok (.getfield 10, 3) := by decide +kernel
theorem dX3_slide_17 : decode cX3_slide 17 = .ok (.dup, 1) := by decide +kernel
theorem dX3_slide_18 : decode cX3_slide 18 = .ok (.getfield 31, 3) := by decide +kernel
theorem dX3_slide_21 : decode cX3_slide 21 = .ok (.iconst 1, 1) := by decide +kernel
theorem dX3_slide_22 : decode cX3_slide 22 = .ok (.isub, 1) := by decide +kernel
theorem dX3_slide_23 : decode cX3_slide 23 = .ok (.putfield 31, 3) := by decide +kernel
theorem dX3_slide_26 : decode cX3_slide 26 = .ok (.aload_n 0, 1) := by decide +kernel
theorem dX3_slide_27 : decode cX3_slide 27 = .ok (.getfield 10, 3) := by decide +kernel
theorem dX3_slide_30 : decode cX3_slide 30 = .ok (.getfield 31, 3) := by decide +kernel
theorem dX3_slide_33 : decode cX3_slide 33 = .ok (.ireturn, 1) := by decide +kernel
set_option maxRecDepth 20000 in
theorem ggX3_heat_X3_within : GoodIn wsX3_heat wsX3_within := goodIn_r _ [4] (by decide +kernel) (by decide +kernel)
set_option maxRecDepth 20000 in
theorem gX3_heat_X3_within : GoodIn wsX3_heat (va_wsS RX3 27 yX3_within wsX3_within) := goodIn_app (goodIn_of _ (by decide +kernel)) ggX3_heat_X3_within
set_option maxRecDepth 20000 in
theorem ggX3_heat_X1_heatIn : GoodIn wsX3_heat wsX1_heatIn := goodIn_r _ [8, 9, 10, 11, 12, 13, 14, 15, 16, 17, 18, 2, 3, 4] (by decide +kernel) (by decide +kernel)
set_option maxRecDepth 20000 in
theorem gX3_heat_X1_heatIn : GoodIn wsX3_heat (va_wsS RX3 135 yX1_heatIn wsX1_heatIn) := goodIn_app (goodIn_of _ (by decide +kernel)) ggX3_heat_X1_heatIn
set_option maxRecDepth 20000 in
theorem ggX3_heat_X1_heatUpTo : GoodIn wsX3_heat wsX1_heatUpTo := goodIn_r _ [21, 22, 6, 7, 8, 9, 10, 11, 12, 13, 14, 15, 16, 17, 18, 2, 3, 4] (by decide +kernel) (by decide +kernel)
set_option maxRecDepth 20000 in
theorem gX3_heat_X1_heatUpTo : GoodIn wsX3_heat (va_wsS RX3 140 yX1_heatUpTo wsX1_heatUpTo) := goodIn_app (goodIn_of _ (by decide +kernel)) ggX3_heat_X1_heatUpTo
theorem dX3_heat_0 : decode cX3_heat 0 = .ok (.iload_n 1, 1) := by decide +kernel
theorem dX3_heat_1 : decode cX3_heat 1 = .ok (.iconst 0, 1) := by decide +kernel
theorem dX3_heat_2 : decode cX3_heat 2 = .ok (.bipush 7, 2) := by decide +kernel
theorem dX3_heat_4 : decode cX3_heat 4 = .ok (.invokestatic 27, 3) := by decide +kernel
theorem dX3_heat_7 : decode cX3_heat 7 = .ok (.ifCond .ne 5, 3) := by decide +kernel
theorem dX3_heat_10 : decode cX3_heat 10 = .ok (.iconst (-1), 1) := by decide +kernel
theorem dX3_heat_11 : decode cX3_heat 11 = .ok (.ireturn, 1) := by decide +kernel
theorem dX3_heat_12 : decode cX3_heat 12 = .ok (.iload_n 2, 1) := by decide +kernel
theorem dX3_heat_13 : decode cX3_heat 13 = .ok (.iconst 0, 1) := by decide +kernel
theorem dX3_heat_14 : decode cX3_heat 14 = .ok (.bipush 23, 2) := by decide +kernel
theorem dX3_heat_16 : decode cX3_heat 16 = .ok (.invokestatic 27, 3) := by decide +kernel
theorem dX3_heat_19 : decode cX3_heat 19 = .ok (.ifCond .eq 12, 3) := by decide +kernel
theorem dX3_heat_22 : decode cX3_heat 22 = .ok (.iload_n 3, 1) := by decide +kernel
theorem dX3_heat_23 : decode cX3_heat 23 = .ok (.iconst 0, 1) := by decide +kernel
theorem dX3_heat_24 : decode cX3_heat 24 = .ok (.iconst 1, 1) := by decide +kernel
theorem dX3_heat_25 : decode cX3_heat 25 = .ok (.invokestatic 27, 3) := by decide +kernel
theorem dX3_heat_28 : decode cX3_heat 28 = .ok (.ifCond .ne 6, 3) := by decide +kernel
theorem dX3_heat_31 : decode cX3_heat 31 = .ok (.bipush (-2), 2) := by decide +kernel
theorem dX3_heat_33 : decode cX3_heat 33 = .ok (.ireturn, 1) := by decide +kernel
theorem dX3_heat_34 : decode cX3_heat 34 = .ok (.iload_n 3, 1) := by decide +kernel
theorem dX3_heat_35 : decode cX3_heat 35 = .ok (.ifCond .ne 11, 3) := by decide +kernel
theorem dX3_heat_38 : decode cX3_heat 38 = .ok (.iload_n 1, 1) := by decide +kernel
theorem dX3_heat_39 : decode cX3_heat 39 = .ok (.iload_n 2, 1) := by decide +kernel
theorem dX3_heat_40 : decode cX3_heat 40 = .ok (.invokestatic 135, 3) := by decide +kernel
theorem dX3_heat_43 : decode cX3_heat 43 = .ok (.goto 8, 3) := by decide +kernel
theorem dX3_heat_46 : decode cX3_heat 46 = .ok (.iload_n 1, 1) := by decide +kernel
theorem dX3_heat_47 : decode cX3_heat 47 = .ok (.iload_n 2, 1) := by decide +kernel
theorem dX3_heat_48 : decode cX3_heat 48 = .ok (.invokestatic 140, 3) := by decide +kernel
theorem dX3_heat_51 : decode cX3_heat 51 = .ok (.ireturn, 1) := by decide +kernel
set_option maxRecDepth 20000 in
theorem ggX3_warm_X3_within : GoodIn wsX3_warm wsX3_within := goodIn_r _ [4] (by decide +kernel) (by decide +kernel)
set_option maxRecDepth 20000 in
theorem gX3_warm_X3_within : GoodIn wsX3_warm (va_wsS RX3 27 yX3_within wsX3_within) := goodIn_app (goodIn_of _ (by decide +kernel)) ggX3_warm_X3_within
set_option maxRecDepth 20000 in
theorem ggX3_warm_X1_warmHour : GoodIn wsX3_warm wsX1_warmHour := goodIn_r _ [8, 9, 10, 7, 11, 12, 13, 14, 15, 16, 17, 18, 19, 20, 21, 2, 3, 4] (by decide +kernel) (by decide +kernel)
set_option maxRecDepth 20000 in
theorem gX3_warm_X1_warmHour : GoodIn wsX3_warm (va_wsS RX3 143 yX1_warmHour wsX1_warmHour) := goodIn_app (goodIn_of _ (by decide +kernel)) ggX3_warm_X1_warmHour
theorem dX3_warm_0 : decode cX3_warm 0 = .ok (.iload_n 1, 1) := by decide +kernel
theorem dX3_warm_1 : decode cX3_warm 1 = .ok (.iconst 0, 1) := by decide +kernel
theorem dX3_warm_2 : decode cX3_warm 2 = .ok (.bipush 7, 2) := by decide +kernel
theorem dX3_warm_4 : decode cX3_warm 4 = .ok (.invokestatic 27, 3) := by decide +kernel
theorem dX3_warm_7 : decode cX3_warm 7 = .ok (.ifCond .ne 5, 3) := by decide +kernel
theorem dX3_warm_10 : decode cX3_warm 10 = .ok (.iconst (-1), 1) := by decide +kernel
theorem dX3_warm_11 : decode cX3_warm 11 = .ok (.ireturn, 1) := by decide +kernel
theorem dX3_warm_12 : decode cX3_warm 12 = .ok (.iload_n 2, 1) := by decide +kernel
theorem dX3_warm_13 : decode cX3_warm 13 = .ok (.iconst 1, 1) := by decide +kernel
theorem dX3_warm_14 : decode cX3_warm 14 = .ok (.sipush 999, 3) := by decide +kernel
theorem dX3_warm_17 : decode cX3_warm 17 = .ok (.invokestatic 27, 3) := by decide +kernel
theorem dX3_warm_20 : decode cX3_warm 20 = .ok (.ifCond .ne 6, 3) := by decide +kernel
theorem dX3_warm_23 : decode cX3_warm 23 = .ok (.bipush (-2), 2) := by decide +kernel
theorem dX3_warm_25 : decode cX3_warm 25 = .ok (.ireturn, 1) := by decide +kernel
theorem dX3_warm_26 : decode cX3_warm 26 = .ok (.iload_n 1, 1) := by decide +kernel
theorem dX3_warm_27 : decode cX3_warm 27 = .ok (.iload_n 2, 1) := by decide +kernel
theorem dX3_warm_28 : decode cX3_warm 28 = .ok (.invokestatic 143, 3) := by decide +kernel
theorem dX3_warm_31 : decode cX3_warm 31 = .ok (.ireturn, 1) := by decide +kernel
set_option maxRecDepth 20000 in
theorem ggX3_order_X3_within : GoodIn wsX3_order wsX3_within := goodIn_r _ [4] (by decide +kernel) (by decide +kernel)
set_option maxRecDepth 20000 in
theorem gX3_order_X3_within : GoodIn wsX3_order (va_wsS RX3 27 yX3_within wsX3_within) := goodIn_app (goodIn_of _ (by decide +kernel)) ggX3_order_X3_within
set_option maxRecDepth 20000 in
theorem ggX3_order_X1_warmSides : GoodIn wsX3_order wsX1_warmSides := goodIn_r _ [8, 9, 10, 7, 11, 12, 13, 14, 15, 16, 17, 18, 19, 20, 21, 22, 23, 24, 2, 3, 4] (by decide +kernel) (by decide +kernel)
set_option maxRecDepth 20000 in
theorem gX3_order_X1_warmSides : GoodIn wsX3_order (va_wsS RX3 146 yX1_warmSides wsX1_warmSides) := goodIn_app (goodIn_of _ (by decide +kernel)) ggX3_order_X1_warmSides
set_option maxRecDepth 20000 in
theorem ggX3_order_X1_sideAtPlace : GoodIn wsX3_order wsX1_sideAtPlace := goodIn_r _ [27, 9, 10, 7, 11, 12, 13, 14, 15, 16, 17, 18, 19, 20, 21, 22, 23, 24, 2, 3, 4] (by decide +kernel) (by decide +kernel)
set_option maxRecDepth 20000 in
theorem gX3_order_X1_sideAtPlace : GoodIn wsX3_order (va_wsS RX3 149 yX1_sideAtPlace wsX1_sideAtPlace) := goodIn_app (goodIn_of _ (by decide +kernel)) ggX3_order_X1_sideAtPlace
theorem dX3_order_0 : decode cX3_order 0 = .ok (.iload_n 1, 1) := by decide +kernel
theorem dX3_order_1 : decode cX3_order 1 = .ok (.iconst 1, 1) := by decide +kernel
theorem dX3_order_2 : decode cX3_order 2 = .ok (.sipush 999, 3) := by decide +kernel
theorem dX3_order_5 : decode cX3_order 5 = .ok (.invokestatic 27, 3) := by decide +kernel
theorem dX3_order_8 : decode cX3_order 8 = .ok (.ifCond .ne 6, 3) := by decide +kernel
theorem dX3_order_11 : decode cX3_order 11 = .ok (.bipush (-2), 2) := by decide +kernel
theorem dX3_order_13 : decode cX3_order 13 = .ok (.ireturn, 1) := by decide +kernel
theorem dX3_order_14 : decode cX3_order 14 = .ok (.iload_n 2, 1) := by decide +kernel
theorem dX3_order_15 : decode cX3_order 15 = .ok (.iconst (-1), 1) := by decide +kernel
theorem dX3_order_16 : decode cX3_order 16 = .ok (.if_icmp .ne 10, 3) := by decide +kernel
theorem dX3_order_19 : decode cX3_order 19 = .ok (.iload_n 1, 1) := by decide +kernel
theorem dX3_order_20 : decode cX3_order 20 = .ok (.invokestatic 146, 3) := by decide +kernel
theorem dX3_order_23 : decode cX3_order 23 = .ok (.goto 8, 3) := by decide +kernel
theorem dX3_order_26 : decode cX3_order 26 = .ok (.iload_n 1, 1) := by decide +kernel
theorem dX3_order_27 : decode cX3_order 27 = .ok (.iload_n 2, 1) := by decide +kernel
theorem dX3_order_28 : decode cX3_order 28 = .ok (.invokestatic 149, 3) := by decide +kernel
theorem dX3_order_31 : decode cX3_order 31 = .ok (.ireturn, 1) := by decide +kernel
set_option maxRecDepth 20000 in
theorem ggX3_image_X3_within : GoodIn wsX3_image wsX3_within := goodIn_r _ [9] (by decide +kernel) (by decide +kernel)
set_option maxRecDepth 20000 in
theorem gX3_image_X3_within : GoodIn wsX3_image (va_wsS RX3 27 yX3_within wsX3_within) := goodIn_app (goodIn_of _ (by decide +kernel)) ggX3_image_X3_within
set_option maxRecDepth 20000 in
theorem ggX3_image_X0_init : GoodIn wsX3_image wsX0_init := goodIn_r _ [12, 13, 14, 15, 16, 17, 18, 19, 20, 21, 22, 23, 24, 25, 26, 27, 28, 29, 30, 31, 43, 44, 45, 46, 47, 48, 49, 50] (by decide +kernel) (by decide +kernel)
set_option maxRecDepth 20000 in
theorem gX3_image_X0_init : GoodIn wsX3_image (wsX0_init) := ggX3_image_X0_init
set_option maxRecDepth 20000 in
theorem ggX3_image_X0_takeFrom : GoodIn wsX3_image wsX0_takeFrom := goodIn_r _ [35, 16, 17, 19, 36, 37, 38, 39, 20, 21, 22, 24, 31, 43, 44, 45, 46, 47, 48, 49, 50] (by decide +kernel) (by decide +kernel)
set_option maxRecDepth 20000 in
theorem gX3_image_X0_takeFrom : GoodIn wsX3_image (wsV RX3 152 RX0 yX0_takeFrom wsX0_takeFrom) := goodIn_app (goodIn_of _ (by decide +kernel)) ggX3_image_X0_takeFrom
theorem dX3_image_0 : decode cX3_image 0 = .ok (.iload_n 1, 1) := by decide +kernel
theorem dX3_image_1 : decode cX3_image 1 = .ok (.iconst 0, 1) := by decide +kernel
theorem dX3_image_2 : decode cX3_image 2 = .ok (.iconst 1, 1) := by decide +kernel
theorem dX3_image_3 : decode cX3_image 3 = .ok (.invokestatic 27, 3) := by decide +kernel
theorem dX3_image_6 : decode cX3_image 6 = .ok (.ifCond .ne 6, 3) := by decide +kernel
theorem dX3_image_9 : decode cX3_image 9 = .ok (.bipush (-2), 2) := by decide +kernel
theorem dX3_image_11 : decode cX3_image 11 = .ok (.ireturn, 1) := by decide +kernel
theorem dX3_image_12 : decode cX3_image 12 = .ok (.aload_n 0, 1) := by decide +kernel
theorem dX3_image_13 : decode cX3_image 13 = .ok (.getfield 23, 3) := by decide +kernel
theorem dX3_image_16 : decode cX3_image 16 = .ok (.iload_n 1, 1) := by decide +kernel
theorem dX3_image_17 : decode cX3_image 17 = .ok (.aaload, 1) := by decide +kernel
theorem dX3_image_18 : decode cX3_image 18 = .ok (.ifnonnull 16, 3) := by decide +kernel
theorem dX3_image_21 : decode cX3_image 21 = .ok (.aload_n 0, 1) := by decide +kernel
theorem dX3_image_22 : decode cX3_image 22 = .ok (.getfield 23, 3) := by decide +kernel
theorem dX3_image_25 : decode cX3_image 25 = .ok (.iload_n 1, 1) := by decide +kernel
theorem dX3_image_26 : decode cX3_image 26 = .ok (.new 7, 3) := by decide +kernel
theorem dX3_image_29 : decode cX3_image 29 = .ok (.dup, 1) := by decide +kernel
theorem dX3_image_30 : decode cX3_image 30 = .ok (.invokespecial 9, 3) := by decide +kernel
theorem dX3_image_33 : decode cX3_image 33 = .ok (.aastore, 1) := by decide +kernel
theorem dX3_image_34 : decode cX3_image 34 = .ok (.aload_n 0, 1) := by decide +kernel
theorem dX3_image_35 : decode cX3_image 35 = .ok (.getfield 23, 3) := by decide +kernel
theorem dX3_image_38 : decode cX3_image 38 = .ok (.iload_n 1, 1) := by decide +kernel
theorem dX3_image_39 : decode cX3_image 39 = .ok (.aaload, 1) := by decide +kernel
theorem dX3_image_40 : decode cX3_image 40 = .ok (.aload_n 0, 1) := by decide +kernel
theorem dX3_image_41 : decode cX3_image 41 = .ok (.getfield 10, 3) := by decide +kernel
theorem dX3_image_44 : decode cX3_image 44 = .ok (.invokevirtual 152, 3) := by decide +kernel
theorem dX3_image_47 : decode cX3_image 47 = .ok (.iconst 1, 1) := by decide +kernel
theorem dX3_image_48 : decode cX3_image 48 = .ok (.ireturn, 1) := by decide +kernel
set_option maxRecDepth 20000 in
theorem ggX3_restore_X3_within : GoodIn wsX3_restore wsX3_within := goodIn_r _ [6] (by decide +kernel) (by decide +kernel)
set_option maxRecDepth 20000 in
theorem gX3_restore_X3_within : GoodIn wsX3_restore (va_wsS RX3 27 yX3_within wsX3_within) := goodIn_app (goodIn_of _ (by decide +kernel)) ggX3_restore_X3_within
set_option maxRecDepth 20000 in
theorem ggX3_restore_X0_takeFrom : GoodIn wsX3_restore wsX0_takeFrom := goodIn_r _ [11, 12, 13, 14, 15, 16, 17, 18, 19, 20, 21, 22, 23, 27, 28, 29, 30, 31, 32, 33, 34] (by decide +kernel) (by decide +kernel)
set_option maxRecDepth 20000 in
theorem gX3_restore_X0_takeFrom : GoodIn wsX3_restore (wsV RX3 152 RX0 yX0_takeFrom wsX0_takeFrom) := goodIn_app (goodIn_of _ (by decide +kernel)) ggX3_restore_X0_takeFrom
theorem dX3_restore_0 : decode cX3_restore 0 = .ok (.iload_n 1, 1) := by decide +kernel
theorem dX3_restore_1 : decode cX3_restore 1 = .ok (.iconst 0, 1) := by decide +kernel
theorem dX3_restore_2 : decode cX3_restore 2 = .ok (.iconst 1, 1) := by decide +kernel
theorem dX3_restore_3 : decode cX3_restore 3 = .ok (.invokestatic 27, 3) := by decide +kernel
theorem dX3_restore_6 : decode cX3_restore 6 = .ok (.ifCond .ne 6, 3) := by decide +kernel
theorem dX3_restore_9 : decode cX3_restore 9 = .ok (.bipush (-2), 2) := by decide +kernel
theorem dX3_restore_11 : decode cX3_restore 11 = .ok (.ireturn, 1) := by decide +kernel
theorem dX3_restore_12 : decode cX3_restore 12 = .ok (.aload_n 0, 1) := by decide +kernel
theorem dX3_restore_13 : decode cX3_restore 13 = .ok (.getfield 23, 3) := by decide +kernel
theorem dX3_restore_16 : decode cX3_restore 16 = .ok (.iload_n 1, 1) := by decide +kernel
theorem dX3_restore_17 : decode cX3_restore 17 = .ok (.aaload, 1) := by decide +kernel
theorem dX3_restore_18 : decode cX3_restore 18 = .ok (.ifnonnull 6, 3) := by decide +kernel
theorem dX3_restore_21 : decode cX3_restore 21 = .ok (.bipush (-3), 2) := by decide +kernel
theorem dX3_restore_23 : decode cX3_restore 23 = .ok (.ireturn, 1) := by decide +kernel
theorem dX3_restore_24 : decode cX3_restore 24 = .ok (.aload_n 0, 1) := by decide +kernel
theorem dX3_restore_25 : decode cX3_restore 25 = .ok (.getfield 10, 3) := by decide +kernel
theorem dX3_restore_28 : decode cX3_restore 28 = .ok (.aload_n 0, 1) := by decide +kernel
theorem dX3_restore_29 : decode cX3_restore 29 = .ok (.getfield 23, 3) := by decide +kernel
theorem dX3_restore_32 : decode cX3_restore 32 = .ok (.iload_n 1, 1) := by decide +kernel
theorem dX3_restore_33 : decode cX3_restore 33 = .ok (.aaload, 1) := by decide +kernel
theorem dX3_restore_34 : decode cX3_restore 34 = .ok (.invokevirtual 152, 3) := by decide +kernel
theorem dX3_restore_37 : decode cX3_restore 37 = .ok (.iconst 1, 1) := by decide +kernel
theorem dX3_restore_38 : decode cX3_restore 38 = .ok (.ireturn, 1) := by decide +kernel
set_option maxRecDepth 20000 in
theorem ggX3_count_X3_within : GoodIn wsX3_count wsX3_within := goodIn_r _ [8] (by decide +kernel) (by decide +kernel)
set_option maxRecDepth 20000 in
theorem gX3_count_X3_within : GoodIn wsX3_count (va_wsS RX3 27 yX3_within wsX3_within) := goodIn_app (goodIn_of _ (by decide +kernel)) ggX3_count_X3_within
set_option maxRecDepth 20000 in
theorem ggX3_count_X0_allThick : GoodIn wsX3_count wsX0_allThick := goodIn_r _ [13, 14, 15, 16, 17, 12, 18, 19, 33, 34, 35, 36, 37, 38, 39, 40] (by decide +kernel) (by decide +kernel)
set_option maxRecDepth 20000 in
theorem gX3_count_X0_allThick : GoodIn wsX3_count (wsV RX3 122 RX0 yX0_allThick wsX0_allThick) := goodIn_app (goodIn_of _ (by decide +kernel)) ggX3_count_X0_allThick
set_option maxRecDepth 20000 in
theorem ggX3_count_X0_massAbove : GoodIn wsX3_count wsX0_massAbove := goodIn_r _ [23, 19, 24, 33, 34, 35, 36, 37, 38, 39, 40] (by decide +kernel) (by decide +kernel)
set_option maxRecDepth 20000 in
theorem gX3_count_X0_massAbove : GoodIn wsX3_count (wsV RX3 155 RX0 yX0_massAbove wsX0_massAbove) := goodIn_app (goodIn_of _ (by decide +kernel)) ggX3_count_X0_massAbove
set_option maxRecDepth 20000 in
theorem ggX3_count_X3_keptSet : GoodIn wsX3_count wsX3_keptSet := goodIn_r _ [28, 29, 30, 31, 32] (by decide +kernel) (by decide +kernel)
set_option maxRecDepth 20000 in
theorem gX3_count_X3_keptSet : GoodIn wsX3_count (wsV RX3 158 RX3 yX3_keptSet wsX3_keptSet) := goodIn_app (goodIn_of _ (by decide +kernel)) ggX3_count_X3_keptSet
theorem dX3_count_0 : decode cX3_count 0 = .ok (.iload_n 1, 1) := by decide +kernel
theorem dX3_count_1 : decode cX3_count 1 = .ok (.bipush 10, 2) := by decide +kernel
theorem dX3_count_3 : decode cX3_count 3 = .ok (.bipush 14, 2) := by decide +kernel
theorem dX3_count_5 : decode cX3_count 5 = .ok (.invokestatic 27, 3) := by decide +kernel
theorem dX3_count_8 : decode cX3_count 8 = .ok (.ifCond .eq 16, 3) := by decide +kernel
theorem dX3_count_11 : decode cX3_count 11 = .ok (.aload_n 0, 1) := by decide +kernel
theorem dX3_count_12 : decode cX3_count 12 = .ok (.getfield 10, 3) := by decide +kernel
theorem dX3_count_15 : decode cX3_count 15 = .ok (.getfield 39, 3) := by decide +kernel
theorem dX3_count_18 : decode cX3_count 18 = .ok (.iload_n 1, 1) := by decide +kernel
theorem dX3_count_19 : decode cX3_count 19 = .ok (.bipush 10, 2) := by decide +kernel
theorem dX3_count_21 : decode cX3_count 21 = .ok (.isub, 1) := by decide +kernel
theorem dX3_count_22 : decode cX3_count 22 = .ok (.iaload, 1) := by decide +kernel
theorem dX3_count_23 : decode cX3_count 23 = .ok (.ireturn, 1) := by decide +kernel
theorem dX3_count_24 : decode cX3_count 24 = .ok (.iload_n 1, 1) := by decide +kernel
theorem dX3_count_25 : decode cX3_count 25 = .ok (.tableswitch 80 0 4 #[35, 43, 51, 67, 75], 35) := by decide +kernel
theorem dX3_count_60 : decode cX3_count 60 = .ok (.aload_n 0, 1) := by decide +kernel
theorem dX3_count_61 : decode cX3_count 61 = .ok (.getfield 10, 3) := by decide +kernel
theorem dX3_count_64 : decode cX3_count 64 = .ok (.getfield 31, 3) := by decide +kernel
theorem dX3_count_67 : decode cX3_count 67 = .ok (.ireturn, 1) := by decide +kernel
theorem dX3_count_68 : decode cX3_count 68 = .ok (.aload_n 0, 1) := by decide +kernel
theorem dX3_count_69 : decode cX3_count 69 = .ok (.getfield 10, 3) := by decide +kernel
theorem dX3_count_72 : decode cX3_count 72 = .ok (.invokevirtual 122, 3) := by decide +kernel
theorem dX3_count_75 : decode cX3_count 75 = .ok (.ireturn, 1) := by decide +kernel
theorem dX3_count_76 : decode cX3_count 76 = .ok (.aload_n 0, 1) := by decide +kernel
theorem dX3_count_77 : decode cX3_count 77 = .ok (.getfield 10, 3) := by decide +kernel
theorem dX3_count_80 : decode cX3_count 80 = .ok (.iconst (-1), 1) := by decide +kernel
theorem dX3_count_81 : decode cX3_count 81 = .ok (.aload_n 0, 1) := by decide +kernel
theorem dX3_count_82 : decode cX3_count 82 = .ok (.getfield 10, 3) := by decide +kernel
theorem dX3_count_85 : decode cX3_count 85 = .ok (.getfield 31, 3) := by decide +kernel
theorem dX3_count_88 : decode cX3_count 88 = .ok (.invokevirtual 155, 3) := by decide +kernel
theorem dX3_count_91 : decode cX3_count 91 = .ok (.ireturn, 1) := by decide +kernel
theorem dX3_count_92 : decode cX3_count 92 = .ok (.aload_n 0, 1) := by decide +kernel
theorem dX3_count_93 : decode cX3_count 93 = .ok (.getfield 10, 3) := by decide +kernel
theorem dX3_count_96 : decode cX3_count 96 = .ok (.getfield 83, 3) := by decide +kernel
theorem dX3_count_99 : decode cX3_count 99 = .ok (.ireturn, 1) := by decide +kernel
theorem dX3_count_100 : decode cX3_count 100 = .ok (.aload_n 0, 1) := by decide +kernel
theorem dX3_count_101 : decode cX3_count 101 = .ok (.invokevirtual 158, 3) := by decide +kernel
theorem dX3_count_104 : decode cX3_count 104 = .ok (.ireturn, 1) := by decide +kernel
theorem dX3_count_105 : decode cX3_count 105 = .ok (.bipush (-2), 2) := by decide +kernel
theorem dX3_count_107 : decode cX3_count 107 = .ok (.ireturn, 1) := by decide +kernel
theorem dX3_keptSet_0 : decode cX3_keptSet 0 = .ok (.iconst 0, 1) := by decide +kernel
theorem dX3_keptSet_1 : decode cX3_keptSet 1 = .ok (.istore_n 1, 1) := by decide +kernel
theorem dX3_keptSet_2 : decode cX3_keptSet 2 = .ok (.iconst 0, 1) := by decide +kernel
theorem dX3_keptSet_3 : decode cX3_keptSet 3 = .ok (.istore_n 2, 1) := by decide +kernel
theorem dX3_keptSet_4 : decode cX3_keptSet 4 = .ok (.iload_n 2, 1) := by decide +kernel
theorem dX3_keptSet_5 : decode cX3_keptSet 5 = .ok (.iconst 2, 1) := by decide +kernel
theorem dX3_keptSet_6 : decode cX3_keptSet 6 = .ok (.if_icmp .ge 24, 3) := by decide +kernel
theorem dX3_keptSet_9 : decode cX3_keptSet 9 = .ok (.aload_n 0, 1) := by decide +kernel
theorem dX3_keptSet_10 : decode cX3_keptSet 10 = .ok (.getfield 23, 3) := by decide +kernel
theorem dX3_keptSet_13 : decode cX3_keptSet 13 = .ok (.iload_n 2, 1) := by decide +kernel
theorem dX3_keptSet_14 : decode cX3_keptSet 14 = .ok (.aaload, 1) := by decide +kernel
theorem dX3_keptSet_15 : decode cX3_keptSet 15 = .ok (.ifnull 9, 3) := by decide +kernel
theorem dX3_keptSet_18 : decode cX3_keptSet 18 = .ok (.iload_n 1, 1) := by decide +kernel
theorem dX3_keptSet_19 : decode cX3_keptSet 19 = .ok (.iconst 1, 1) := by decide +kernel
theorem dX3_keptSet_20 : decode cX3_keptSet 20 = .ok (.iload_n 2, 1) := by decide +kernel
theorem dX3_keptSet_21 : decode cX3_keptSet 21 = .ok (.ishl, 1) := by decide +kernel
theorem dX3_keptSet_22 : decode cX3_keptSet 22 = .ok (.ior, 1) := by decide +kernel
theorem dX3_keptSet_23 : decode cX3_keptSet 23 = .ok (.istore_n 1, 1) := by decide +kernel
theorem dX3_keptSet_24 : decode cX3_keptSet 24 = .ok (.iinc 2 1, 3) := by decide +kernel
theorem dX3_keptSet_27 : decode cX3_keptSet 27 = .ok (.goto (-23), 3) := by decide +kernel
theorem dX3_keptSet_30 : decode cX3_keptSet 30 = .ok (.iload_n 1, 1) := by decide +kernel
theorem dX3_keptSet_31 : decode cX3_keptSet 31 = .ok (.ireturn, 1) := by decide +kernel
theorem dX3_within_0 : decode cX3_within 0 = .ok (.iload_n 0, 1) := by decide +kernel
theorem dX3_within_1 : decode cX3_within 1 = .ok (.iload_n 1, 1) := by decide +kernel
theorem dX3_within_2 : decode cX3_within 2 = .ok (.if_icmp .lt 12, 3) := by decide +kernel
theorem dX3_within_5 : decode cX3_within 5 = .ok (.iload_n 0, 1) := by decide +kernel
theorem dX3_within_6 : decode cX3_within 6 = .ok (.iload_n 2, 1) := by decide +kernel
theorem dX3_within_7 : decode cX3_within 7 = .ok (.if_icmp .gt 7, 3) := by decide +kernel
theorem dX3_within_10 : decode cX3_within 10 = .ok (.iconst 1, 1) := by decide +kernel
theorem dX3_within_11 : decode cX3_within 11 = .ok (.goto 4, 3) := by decide +kernel
theorem dX3_within_14 : decode cX3_within 14 = .ok (.iconst 0, 1) := by decide +kernel
theorem dX3_within_15 : decode cX3_within 15 = .ok (.ireturn, 1) := by decide +kernel
theorem dX3_cut_0 : decode cX3_cut 0 = .ok (.iload_n 1, 1) := by decide +kernel
theorem dX3_cut_1 : decode cX3_cut 1 = .ok (.ifCond .ne 7, 3) := by decide +kernel
theorem dX3_cut_4 : decode cX3_cut 4 = .ok (.iconst 0, 1) := by decide +kernel
theorem dX3_cut_5 : decode cX3_cut 5 = .ok (.goto 6, 3) := by decide +kernel
theorem dX3_cut_8 : decode cX3_cut 8 = .ok (.iload_n 0, 1) := by decide +kernel
theorem dX3_cut_9 : decode cX3_cut 9 = .ok (.iload_n 1, 1) := by decide +kernel
theorem dX3_cut_10 : decode cX3_cut 10 = .ok (.idiv, 1) := by decide +kernel
theorem dX3_cut_11 : decode cX3_cut 11 = .ok (.ireturn, 1) := by decide +kernel
end
section
theorem dX4_init_0 : decode cX4_init 0 = .ok (.aload_n 0, 1) := by decide +kernel
theorem dX4_init_1 : decode cX4_init 1 = .ok (.invokespecial 1, 3) := by decide +kernel
theorem dX4_init_4 : decode cX4_init 4 = .ok (.aload_n 0, 1) := by decide +kernel
theorem dX4_init_5 : decode cX4_init 5 = .ok (.bipush 57, 2) := by decide +kernel
theorem dX4_init_7 : decode cX4_init 7 = .ok (.newarray .int, 2) := by decide +kernel
theorem dX4_init_9 : decode cX4_init 9 = .ok (.putfield 7, 3) := by decide +kernel
theorem dX4_init_12 : decode cX4_init 12 = .ok (.aload_n 0, 1) := by decide +kernel
theorem dX4_init_13 : decode cX4_init 13 = .ok (.bipush 114, 2) := by decide +kernel
theorem dX4_init_15 : decode cX4_init 15 = .ok (.newarray .int, 2) := by decide +kernel
theorem dX4_init_17 : decode cX4_init 17 = .ok (.putfield 13, 3) := by decide +kernel
theorem dX4_init_20 : decode cX4_init 20 = .ok (.aload_n 0, 1) := by decide +kernel
theorem dX4_init_21 : decode cX4_init 21 = .ok (.iconst 2, 1) := by decide +kernel
theorem dX4_init_22 : decode cX4_init 22 = .ok (.newarray .boolean, 2) := by decide +kernel
theorem dX4_init_24 : decode cX4_init 24 = .ok (.putfield 16, 3) := by decide +kernel
theorem dX4_init_27 : decode cX4_init 27 = .ok (.aload_n 0, 1) := by decide +kernel
theorem dX4_init_28 : decode cX4_init 28 = .ok (.bipush 30, 2) := by decide +kernel
theorem dX4_init_30 : decode cX4_init 30 = .ok (.newarray .int, 2) := by decide +kernel
theorem dX4_init_32 : decode cX4_init 32 = .ok (.putfield 20, 3) := by decide +kernel
theorem dX4_init_35 : decode cX4_init 35 = .ok (.aload_n 0, 1) := by decide +kernel
theorem dX4_init_36 : decode cX4_init 36 = .ok (.bipush 30, 2) := by decide +kernel
theorem dX4_init_38 : decode cX4_init 38 = .ok (.newarray .int, 2) := by decide +kernel
theorem dX4_init_40 : decode cX4_init 40 = .ok (.putfield 23, 3) := by decide +kernel
theorem dX4_init_43 : decode cX4_init 43 = .ok (.aload_n 0, 1) := by decide +kernel
theorem dX4_init_44 : decode cX4_init 44 = .ok (.getfield 7, 3) := by decide +kernel
theorem dX4_init_47 : decode cX4_init 47 = .ok (.iconst 1, 1) := by decide +kernel
theorem dX4_init_48 : decode cX4_init 48 = .ok (.bipush 10, 2) := by decide +kernel
theorem dX4_init_50 : decode cX4_init 50 = .ok (.iastore, 1) := by decide +kernel
theorem dX4_init_51 : decode cX4_init 51 = .ok (.aload_n 0, 1) := by decide +kernel
theorem dX4_init_52 : decode cX4_init 52 = .ok (.getfield 7, 3) := by decide +kernel
theorem dX4_init_55 : decode cX4_init 55 = .ok (.iconst 2, 1) := by decide +kernel
theorem dX4_init_56 : decode cX4_init 56 = .ok (.bipush 8, 2) := by decide +kernel
theorem dX4_init_58 : decode cX4_init 58 = .ok (.iastore, 1) := by decide +kernel
theorem dX4_init_59 : decode cX4_init 59 = .ok (.aload_n 0, 1) := by decide +kernel
theorem dX4_init_60 : decode cX4_init 60 = .ok (.getfield 7, 3) := by decide +kernel
theorem dX4_init_63 : decode cX4_init 63 = .ok (.iconst 3, 1) := by decide +kernel
theorem dX4_init_64 : decode cX4_init 64 = .ok (.bipush 20, 2) := by decide +kernel
theorem dX4_init_66 : decode cX4_init 66 = .ok (.iastore, 1) := by decide +kernel
theorem dX4_init_67 : decode cX4_init 67 = .ok (.aload_n 0, 1) := by decide +kernel
theorem dX4_init_68 : decode cX4_init 68 = .ok (.getfield 7, 3) := by decide +kernel
theorem dX4_init_71 : decode cX4_init 71 = .ok (.iconst 4, 1) := by decide +kernel
theorem dX4_init_72 : decode cX4_init 72 = .ok (.bipush 6, 2) := by decide +kernel
theorem dX4_init_74 : decode cX4_init 74 = .ok (.iastore, 1) := by decide +kernel
theorem dX4_init_75 : decode cX4_init 75 = .ok (.aload_n 0, 1) := by decide +kernel
theorem dX4_init_76 : decode cX4_init 76 = .ok (.getfield 7, 3) := by decide +kernel
theorem dX4_init_79 : decode cX4_init 79 = .ok (.iconst 5, 1) := by decide +kernel
theorem dX4_init_80 : decode cX4_init 80 = .ok (.iconst 3, 1) := by decide +kernel
theorem dX4_init_81 : decode cX4_init 81 = .ok (.iastore, 1) := by decide +kernel
theorem dX4_init_82 : decode cX4_init 82 = .ok (.aload_n 0, 1) := by decide +kernel
theorem dX4_init_83 : decode cX4_init 83 = .ok (.getfield 7, 3) := by decide +kernel
theorem dX4_init_86 : decode cX4_init 86 = .ok (.bipush 6, 2) := by decide +kernel
theorem dX4_init_88 : decode cX4_init 88 = .ok (.bipush 40, 2) := by decide +kernel
theorem dX4_init_90 : decode cX4_init 90 = .ok (.iastore, 1) := by decide +kernel
theorem dX4_init_91 : decode cX4_init 91 = .ok (.return_, 1) := by decide +kernel
theorem dX4_in_0 : decode cX4_in 0 = .ok (.iload_n 0, 1) := by decide +kernel
theorem dX4_in_1 : decode cX4_in 1 = .ok (.iload_n 1, 1) := by decide +kernel
theorem dX4_in_2 : decode cX4_in 2 = .ok (.if_icmp .lt 12, 3) := by decide +kernel
theorem dX4_in_5 : decode cX4_in 5 = .ok (.iload_n 0, 1) := by decide +kernel
theorem dX4_in_6 : decode cX4_in 6 = .ok (.iload_n 2, 1) := by decide +kernel
theorem dX4_in_7 : decode cX4_in 7 = .ok (.if_icmp .gt 7, 3) := by decide +kernel
theorem dX4_in_10 : decode cX4_in 10 = .ok (.iconst 1, 1) := by decide +kernel
theorem dX4_in_11 : decode cX4_in 11 = .ok (.goto 4, 3) := by decide +kernel
theorem dX4_in_14 : decode cX4_in 14 = .ok (.iconst 0, 1) := by decide +kernel
theorem dX4_in_15 : decode cX4_in 15 = .ok (.ireturn, 1) := by decide +kernel
set_option maxRecDepth 20000 in
theorem ggX4_isLayer_X4_in : GoodIn wsX4_isLayer wsX4_in := goodIn_r _ [5] (by decide +kernel) (by decide +kernel)
set_option maxRecDepth 20000 in
theorem gX4_isLayer_X4_in : GoodIn wsX4_isLayer (va_wsS RX4 26 yX4_in wsX4_in) := goodIn_app (goodIn_of _ (by decide +kernel)) ggX4_isLayer_X4_in
theorem dX4_isLayer_0 : decode cX4_isLayer 0 = .ok (.iload_n 1, 1) := by decide +kernel
theorem dX4_isLayer_1 : decode cX4_isLayer 1 = .ok (.iconst 0, 1) := by decide +kernel
theorem dX4_isLayer_2 : decode cX4_isLayer 2 = .ok (.aload_n 0, 1) := by decide +kernel
theorem dX4_isLayer_3 : decode cX4_isLayer 3 = .ok (.getfield 7, 3) := by decide +kernel
theorem dX4_isLayer_6 : decode cX4_isLayer 6 = .ok (.iconst 0, 1) := by decide +kernel
theorem dX4_isLayer_7 : decode cX4_isLayer 7 = .ok (.iaload, 1) := by decide +kernel
theorem dX4_isLayer_8 : decode cX4_isLayer 8 = .ok (.iconst 1, 1) := by decide +kernel
theorem dX4_isLayer_9 : decode cX4_isLayer 9 = .ok (.isub, 1) := by decide +kernel
theorem dX4_isLayer_10 : decode cX4_isLayer 10 = .ok (.invokestatic 26, 3) := by decide +kernel
theorem dX4_isLayer_13 : decode cX4_isLayer 13 = .ok (.ireturn, 1) := by decide +kernel
theorem dX4_at_0 : decode cX4_at 0 = .ok (.bipush 7, 2) := by decide +kernel
theorem dX4_at_2 : decode cX4_at 2 = .ok (.iconst 5, 1) := by decide +kernel
theorem dX4_at_3 : decode cX4_at 3 = .ok (.iload_n 0, 1) := by decide +kernel
theorem dX4_at_4 : decode cX4_at 4 = .ok (.imul, 1) := by decide +kernel
theorem dX4_at_5 : decode cX4_at 5 = .ok (.iadd, 1) := by decide +kernel
theorem dX4_at_6 : decode cX4_at 6 = .ok (.iload_n 1, 1) := by decide +kernel
theorem dX4_at_7 : decode cX4_at 7 = .ok (.iadd, 1) := by decide +kernel
theorem dX4_at_8 : decode cX4_at 8 = .ok (.ireturn, 1) := by decide +kernel
theorem dX4_top_0 : decode cX4_top 0 = .ok (.aload_n 0, 1) := by decide +kernel
theorem dX4_top_1 : decode cX4_top 1 = .ok (.getfield 7, 3) := by decide +kernel
theorem dX4_top_4 : decode cX4_top 4 = .ok (.iconst 0, 1) := by decide +kernel
theorem dX4_top_5 : decode cX4_top 5 = .ok (.iaload, 1) := by decide +kernel
theorem dX4_top_6 : decode cX4_top 6 = .ok (.iconst 1, 1) := by decide +kernel
theorem dX4_top_7 : decode cX4_top 7 = .ok (.isub, 1) := by decide +kernel
theorem dX4_top_8 : decode cX4_top 8 = .ok (.ireturn, 1) := by decide +kernel
set_option maxRecDepth 20000 in
theorem ggX4_storm_X4_in : GoodIn wsX4_storm wsX4_in := goodIn_r _ [5] (by decide +kernel) (by decide +kernel)
set_option maxRecDepth 20000 in
theorem gX4_storm_X4_in : GoodIn wsX4_storm (va_wsS RX4 26 yX4_in wsX4_in) := goodIn_app (goodIn_of _ (by decide +kernel)) ggX4_storm_X4_in
set_option maxRecDepth 20000 in
theorem ggX4_storm_X4_at : GoodIn wsX4_storm wsX4_at := goodIn_r _ [8] (by decide +kernel) (by decide +kernel)
set_option maxRecDepth 20000 in
theorem gX4_storm_X4_at : GoodIn wsX4_storm (va_wsS RX4 30 yX4_at wsX4_at) := goodIn_app (goodIn_of _ (by decide +kernel)) ggX4_storm_X4_at
theorem dX4_storm_0 : decode cX4_storm 0 = .ok (.iload_n 1, 1) := by decide +kernel
theorem dX4_storm_1 : decode cX4_storm 1 = .ok (.iconst 1, 1) := by decide +kernel
theorem dX4_storm_2 : decode cX4_storm 2 = .ok (.sipush 200, 3) := by decide +kernel
theorem dX4_storm_5 : decode cX4_storm 5 = .ok (.invokestatic 26, 3) := by decide +kernel
theorem dX4_storm_8 : decode cX4_storm 8 = .ok (.ifCond .eq 34, 3) := by decide +kernel
theorem dX4_storm_11 : decode cX4_storm 11 = .ok (.iload_n 2, 1) := by decide +kernel
theorem dX4_storm_12 : decode cX4_storm 12 = .ok (.bipush 30, 2) := by decide +kernel
theorem dX4_storm_14 : decode cX4_storm 14 = .ok (.sipush 600, 3) := by decide +kernel
theorem dX4_storm_17 : decode cX4_storm 17 = .ok (.invokestatic 26, 3) := by decide +kernel
theorem dX4_storm_20 : decode cX4_storm 20 = .ok (.ifCond .eq 22, 3) := by decide +kernel
theorem dX4_storm_23 : decode cX4_storm 23 = .ok (.iload_n 3, 1) := by decide +kernel
theorem dX4_storm_24 : decode cX4_storm 24 = .ok (.iconst 0, 1) := by decide +kernel
theorem dX4_storm_25 : decode cX4_storm 25 = .ok (.iconst 4, 1) := by decide +kernel
theorem dX4_storm_26 : decode cX4_storm 26 = .ok (.invokestatic 26, 3) := by decide +kernel
theorem dX4_storm_29 : decode cX4_storm 29 = .ok (.ifCond .eq 13, 3) := by decide +kernel
theorem dX4_storm_32 : decode cX4_storm 32 = .ok (.iload 4, 2) := by decide +kernel
theorem dX4_storm_34 : decode cX4_storm 34 = .ok (.iconst 1, 1) := by decide +kernel
theorem dX4_storm_35 : decode cX4_storm 35 = .ok (.iconst 5, 1) := by decide +kernel
theorem dX4_storm_36 : decode cX4_storm 36 = .ok (.invokestatic 26, 3) := by decide +kernel
theorem dX4_storm_39 : decode cX4_storm 39 = .ok (.ifCond .ne 6, 3) := by decide +kernel
theorem dX4_storm_42 : decode cX4_storm 42 = .ok (.bipush (-2), 2) := by decide +kernel
theorem dX4_storm_44 : decode cX4_storm 44 = .ok (.ireturn, 1) := by decide +kernel
theorem dX4_storm_45 : decode cX4_storm 45 = .ok (.aload_n 0, 1) := by decide +kernel
theorem dX4_storm_46 : decode cX4_storm 46 = .ok (.getfield 7, 3) := by decide +kernel
theorem dX4_storm_49 : decode cX4_storm 49 = .ok (.iconst 0, 1) := by decide +kernel
theorem dX4_storm_50 : decode cX4_storm 50 = .ok (.iaload, 1) := by decide +kernel
theorem dX4_storm_51 : decode cX4_storm 51 = .ok (.bipush 10, 2) := by decide +kernel
theorem dX4_storm_53 : decode cX4_storm 53 = .ok (.if_icmp .ne 6, 3) := by decide +kernel
theorem dX4_storm_56 : decode cX4_storm 56 = .ok (.bipush (-4), 2) := by decide +kernel
theorem dX4_storm_58 : decode cX4_storm 58 = .ok (.ireturn, 1) := by decide +kernel
theorem dX4_storm_59 : decode cX4_storm 59 = .ok (.aload_n 0, 1) := by decide +kernel
theorem dX4_storm_60 : decode cX4_storm 60 = .ok (.getfield 7, 3) := by decide +kernel
theorem dX4_storm_63 : decode cX4_storm 63 = .ok (.iconst 0, 1) := by decide +kernel
theorem dX4_storm_64 : decode cX4_storm 64 = .ok (.iaload, 1) := by decide +kernel
theorem dX4_storm_65 : decode cX4_storm 65 = .ok (.istore 5, 2) := by decide +kernel
theorem dX4_storm_67 : decode cX4_storm 67 = .ok (.aload_n 0, 1) := by decide +kernel
theorem dX4_storm_68 : decode cX4_storm 68 = .ok (.getfield 7, 3) := by decide +kernel
theorem dX4_storm_71 : decode cX4_storm 71 = .ok (.iload 5, 2) := by decide +kernel
theorem dX4_storm_73 : decode cX4_storm 73 = .ok (.iconst 0, 1) := by decide +kernel
theorem dX4_storm_74 : decode cX4_storm 74 = .ok (.invokestatic 30, 3) := by decide +kernel
theorem dX4_storm_77 : decode cX4_storm 77 = .ok (.iload_n 1, 1) := by decide +kernel
theorem dX4_storm_78 : decode cX4_storm 78 = .ok (.iastore, 1) := by decide +kernel
theorem dX4_storm_79 : decode cX4_storm 79 = .ok (.aload_n 0, 1) := by decide +kernel
theorem dX4_storm_80 : decode cX4_storm 80 = .ok (.getfield 7, 3) := by decide +kernel
theorem dX4_storm_83 : decode cX4_storm 83 = .ok (.iload 5, 2) := by decide +kernel
theorem dX4_storm_85 : decode cX4_storm 85 = .ok (.iconst 1, 1) := by decide +kernel
theorem dX4_storm_86 : decode cX4_storm 86 = .ok (.invokestatic 30, 3) := by decide +kernel
theorem dX4_storm_89 : decode cX4_storm 89 = .ok (.iload_n 2, 1) := by decide +kernel
theorem dX4_storm_90 : decode cX4_storm 90 = .ok (.iastore, 1) := by decide +kernel
theorem dX4_storm_91 : decode cX4_storm 91 = .ok (.aload_n 0, 1) := by decide +kernel
theorem dX4_storm_92 : decode cX4_storm 92 = .ok (.getfield 7, 3) := by decide +kernel
theorem dX4_storm_95 : decode cX4_storm 95 = .ok (.iload 5, 2) := by decide +kernel
theorem dX4_storm_97 : decode cX4_storm 97 = .ok (.iconst 2, 1) := by decide +kernel
theorem dX4_storm_98 : decode cX4_storm 98 = .ok (.invokestatic 30, 3) := by decide +kernel
theorem dX4_storm_101 : decode cX4_storm 101 = .ok (.iload_n 3, 1) := by decide +kernel
theorem dX4_storm_102 : decode cX4_storm 102 = .ok (.iastore, 1) := by decide +kernel
theorem dX4_storm_103 : decode cX4_storm 103 = .ok (.aload_n 0, 1) := by decide +kernel
theorem dX4_storm_104 : decode cX4_storm 104 = .ok (.getfield 7, 3) := by decide +kernel
theorem dX4_storm_107 : decode cX4_storm 107 = .ok (.iload 5, 2) := by decide +kernel
theorem dX4_storm_109 : decode cX4_storm 109 = .ok (.iconst 3, 1) := by decide +kernel
theorem dX4_storm_110 : decode cX4_storm 110 = .ok (.invokestatic 30, 3) := by decide +kernel
theorem dX4_storm_113 : decode cX4_storm 113 = .ok (.iload 4, 2) := by decide +kernel
theorem dX4_storm_115 : decode cX4_storm 115 = .ok (.iastore, 1) := by decide +kernel
theorem dX4_storm_116 : decode cX4_storm 116 = .ok (.aload_n 0, 1) := by decide +kernel
theorem dX4_storm_117 : decode cX4_storm 117 = .ok (.getfield 7, 3) := by decide +kernel
theorem dX4_storm_120 : decode cX4_storm 120 = .ok (.iload 5, 2) := by decide +kernel
theorem dX4_storm_122 : decode cX4_storm 122 = .ok (.iconst 4, 1) := by decide +kernel
theorem dX4_storm_123 : decode cX4_storm 123 = .ok (.invokestatic 30, 3) := by decide +kernel
theorem dX4_storm_126 : decode cX4_storm 126 = .ok (.iconst 0, 1) := by decide +kernel
theorem dX4_storm_127 : decode cX4_storm 127 = .ok (.iastore, 1) := by decide +kernel
theorem dX4_storm_128 : decode cX4_storm 128 = .ok (.aload_n 0, 1) := by decide +kernel
theorem dX4_storm_129 : decode cX4_storm 129 = .ok (.getfield 7, 3) := by decide +kernel
theorem dX4_storm_132 : decode cX4_storm 132 = .ok (.iconst 0, 1) := by decide +kernel
theorem dX4_storm_133 : decode cX4_storm 133 = .ok (.dup2, 1) := by decide +kernel
theorem dX4_storm_134 : decode cX4_storm 134 = .ok (.iaload, 1) := by decide +kernel
theorem dX4_storm_135 : decode cX4_storm 135 = .ok (.iconst 1, 1) := by decide +kernel
theorem dX4_storm_136 : decode cX4_storm 136 = .ok (.iadd, 1) := by decide +kernel
theorem dX4_storm_137 : decode cX4_storm 137 = .ok (.iastore, 1) := by decide +kernel
theorem dX4_storm_138 : decode cX4_storm 138 = .ok (.iload 5, 2) := by decide +kernel
theorem dX4_storm_140 : decode cX4_storm 140 = .ok (.ireturn, 1) := by decide +kernel
set_option maxRecDepth 20000 in
theorem ggX4_firm_X4_in : GoodIn wsX4_firm wsX4_in := goodIn_r _ [5] (by decide +kernel) (by decide +kernel)
set_option maxRecDepth 20000 in
theorem gX4_firm_X4_in : GoodIn wsX4_firm (va_wsS RX4 26 yX4_in wsX4_in) := goodIn_app (goodIn_of _ (by decide +kernel)) ggX4_firm_X4_in
theorem dX4_firm_0 : decode cX4_firm 0 = .ok (.iload_n 1, 1) := by decide +kernel
theorem dX4_firm_1 : decode cX4_firm 1 = .ok (.iconst 0, 1) := by decide +kernel
theorem dX4_firm_2 : decode cX4_firm 2 = .ok (.iconst 4, 1) := by decide +kernel
theorem dX4_firm_3 : decode cX4_firm 3 = .ok (.invokestatic 26, 3) := by decide +kernel
theorem dX4_firm_6 : decode cX4_firm 6 = .ok (.ifCond .ne 5, 3) := by decide +kernel
theorem dX4_firm_9 : decode cX4_firm 9 = .ok (.iconst (-1), 1) := by decide +kernel
theorem dX4_firm_10 : decode cX4_firm 10 = .ok (.ireturn, 1) := by decide +kernel
theorem dX4_firm_11 : decode cX4_firm 11 = .ok (.iload_n 2, 1) := by decide +kernel
theorem dX4_firm_12 : decode cX4_firm 12 = .ok (.iconst 1, 1) := by decide +kernel
theorem dX4_firm_13 : decode cX4_firm 13 = .ok (.bipush 99, 2) := by decide +kernel
theorem dX4_firm_15 : decode cX4_firm 15 = .ok (.invokestatic 26, 3) := by decide +kernel
theorem dX4_firm_18 : decode cX4_firm 18 = .ok (.ifCond .ne 6, 3) := by decide +kernel
theorem dX4_firm_21 : decode cX4_firm 21 = .ok (.bipush (-2), 2) := by decide +kernel
theorem dX4_firm_23 : decode cX4_firm 23 = .ok (.ireturn, 1) := by decide +kernel
theorem dX4_firm_24 : decode cX4_firm 24 = .ok (.aload_n 0, 1) := by decide +kernel
theorem dX4_firm_25 : decode cX4_firm 25 = .ok (.getfield 7, 3) := by decide +kernel
theorem dX4_firm_28 : decode cX4_firm 28 = .ok (.iconst 2, 1) := by decide +kernel
theorem dX4_firm_29 : decode cX4_firm 29 = .ok (.iload_n 1, 1) := by decide +kernel
theorem dX4_firm_30 : decode cX4_firm 30 = .ok (.iadd, 1) := by decide +kernel
theorem dX4_firm_31 : decode cX4_firm 31 = .ok (.iaload, 1) := by decide +kernel
theorem dX4_firm_32 : decode cX4_firm 32 = .ok (.istore_n 3, 1) := by decide +kernel
theorem dX4_firm_33 : decode cX4_firm 33 = .ok (.aload_n 0, 1) := by decide +kernel
theorem dX4_firm_34 : decode cX4_firm 34 = .ok (.getfield 7, 3) := by decide +kernel
theorem dX4_firm_37 : decode cX4_firm 37 = .ok (.iconst 2, 1) := by decide +kernel
theorem dX4_firm_38 : decode cX4_firm 38 = .ok (.iload_n 1, 1) := by decide +kernel
theorem dX4_firm_39 : decode cX4_firm 39 = .ok (.iadd, 1) := by decide +kernel
theorem dX4_firm_40 : decode cX4_firm 40 = .ok (.iload_n 2, 1) := by decide +kernel
theorem dX4_firm_41 : decode cX4_firm 41 = .ok (.iastore, 1) := by decide +kernel
theorem dX4_firm_42 : decode cX4_firm 42 = .ok (.iload_n 3, 1) := by decide +kernel
theorem dX4_firm_43 : decode cX4_firm 43 = .ok (.ireturn, 1) := by decide +kernel
set_option maxRecDepth 20000 in
theorem ggX4_strength_X4_at : GoodIn wsX4_strength wsX4_at := goodIn_r _ [5] (by decide +kernel) (by decide +kernel)
set_option maxRecDepth 20000 in
theorem gX4_strength_X4_at : GoodIn wsX4_strength (va_wsS RX4 30 yX4_at wsX4_at) := goodIn_app (goodIn_of _ (by decide +kernel)) ggX4_strength_X4_at
theorem dX4_strength_0 : decode cX4_strength 0 = .ok (.aload_n 0, 1) := by decide +kernel
theorem dX4_strength_1 : decode cX4_strength 1 = .ok (.getfield 7, 3) := by decide +kernel
theorem dX4_strength_4 : decode cX4_strength 4 = .ok (.iconst 2, 1) := by decide +kernel
theorem dX4_strength_5 : decode cX4_strength 5 = .ok (.aload_n 0, 1) := by decide +kernel
theorem dX4_strength_6 : decode cX4_strength 6 = .ok (.getfield 7, 3) := by decide +kernel
theorem dX4_strength_9 : decode cX4_strength 9 = .ok (.iload_n 1, 1) := by decide +kernel
theorem dX4_strength_10 : decode cX4_strength 10 = .ok (.iconst 2, 1) := by decide +kernel
theorem dX4_strength_11 : decode cX4_strength 11 = .ok (.invokestatic 30, 3) := by decide +kernel
theorem dX4_strength_14 : decode cX4_strength 14 = .ok (.iaload, 1) := by decide +kernel
theorem dX4_strength_15 : decode cX4_strength 15 = .ok (.iadd, 1) := by decide +kernel
theorem dX4_strength_16 : decode cX4_strength 16 = .ok (.iaload, 1) := by decide +kernel
theorem dX4_strength_17 : decode cX4_strength 17 = .ok (.aload_n 0, 1) := by decide +kernel
theorem dX4_strength_18 : decode cX4_strength 18 = .ok (.getfield 7, 3) := by decide +kernel
theorem dX4_strength_21 : decode cX4_strength 21 = .ok (.iload_n 1, 1) := by decide +kernel
theorem dX4_strength_22 : decode cX4_strength 22 = .ok (.iconst 3, 1) := by decide +kernel
theorem dX4_strength_23 : decode cX4_strength 23 = .ok (.invokestatic 30, 3) := by decide +kernel
theorem dX4_strength_26 : decode cX4_strength 26 = .ok (.iaload, 1) := by decide +kernel
theorem dX4_strength_27 : decode cX4_strength 27 = .ok (.imul, 1) := by decide +kernel
theorem dX4_strength_28 : decode cX4_strength 28 = .ok (.aload_n 0, 1) := by decide +kernel
theorem dX4_strength_29 : decode cX4_strength 29 = .ok (.getfield 7, 3) := by decide +kernel
theorem dX4_strength_32 : decode cX4_strength 32 = .ok (.iload_n 1, 1) := by decide +kernel
theorem dX4_strength_33 : decode cX4_strength 33 = .ok (.iconst 1, 1) := by decide +kernel
theorem dX4_strength_34 : decode cX4_strength 34 = .ok (.invokestatic 30, 3) := by decide +kernel
theorem dX4_strength_37 : decode cX4_strength 37 = .ok (.iaload, 1) := by decide +kernel
theorem dX4_strength_38 : decode cX4_strength 38 = .ok (.imul, 1) := by decide +kernel
theorem dX4_strength_39 : decode cX4_strength 39 = .ok (.bipush 100, 2) := by decide +kernel
theorem dX4_strength_41 : decode cX4_strength 41 = .ok (.idiv, 1) := by decide +kernel
theorem dX4_strength_42 : decode cX4_strength 42 = .ok (.istore_n 2, 1) := by decide +kernel
theorem dX4_strength_43 : decode cX4_strength 43 = .ok (.aload_n 0, 1) := by decide +kernel
theorem dX4_strength_44 : decode cX4_strength 44 = .ok (.getfield 7, 3) := by decide +kernel
theorem dX4_strength_47 : decode cX4_strength 47 = .ok (.iload_n 1, 1) := by decide +kernel
theorem dX4_strength_48 : decode cX4_strength 48 = .ok (.iconst 4, 1) := by decide +kernel
theorem dX4_strength_49 : decode cX4_strength 49 = .ok (.invokestatic 30, 3) := by decide +kernel
theorem dX4_strength_52 : decode cX4_strength 52 = .ok (.iaload, 1) := by decide +kernel
theorem dX4_strength_53 : decode cX4_strength 53 = .ok (.iconst 1, 1) := by decide +kernel
theorem dX4_strength_54 : decode cX4_strength 54 = .ok (.if_icmp .ne 9, 3) := by decide +kernel
theorem dX4_strength_57 : decode cX4_strength 57 = .ok (.iload_n 2, 1) := by decide +kernel
theorem dX4_strength_58 : decode cX4_strength 58 = .ok (.iconst 2, 1) := by decide +kernel
theorem dX4_strength_59 : decode cX4_strength 59 = .ok (.idiv, 1) := by decide +kernel
theorem dX4_strength_60 : decode cX4_strength 60 = .ok (.goto 4, 3) := by decide +kernel
theorem dX4_strength_63 : decode cX4_strength 63 = .ok (.iload_n 2, 1) := by decide +kernel
theorem dX4_strength_64 : decode cX4_strength 64 = .ok (.ireturn, 1) := by decide +kernel
set_option maxRecDepth 20000 in
theorem ggX4_depth_X4_at : GoodIn wsX4_depth wsX4_at := goodIn_r _ [5] (by decide +kernel) (by decide +kernel)
set_option maxRecDepth 20000 in
theorem gX4_depth_X4_at : GoodIn wsX4_depth (va_wsS RX4 30 yX4_at wsX4_at) := goodIn_app (goodIn_of _ (by decide +kernel)) ggX4_depth_X4_at
theorem dX4_depth_0 : decode cX4_depth 0 = .ok (.iconst 0, 1) := by decide +kernel
theorem dX4_depth_1 : decode cX4_depth 1 = .ok (.istore_n 3, 1) := by decide +kernel
theorem dX4_depth_2 : decode cX4_depth 2 = .ok (.iload_n 1, 1) := by decide +kernel
theorem dX4_depth_3 : decode cX4_depth 3 = .ok (.iconst 1, 1) := by decide +kernel
theorem dX4_depth_4 : decode cX4_depth 4 = .ok (.iadd, 1) := by decide +kernel
theorem dX4_depth_5 : decode cX4_depth 5 = .ok (.istore 4, 2) := by decide +kernel
theorem dX4_depth_7 : decode cX4_depth 7 = .ok (.iload 4, 2) := by decide +kernel
theorem dX4_depth_9 : decode cX4_depth 9 = .ok (.iload_n 2, 1) := by decide +kernel
theorem dX4_depth_10 : decode cX4_depth 10 = .ok (.if_icmp .ge 23, 3) := by decide +kernel
theorem dX4_depth_13 : decode cX4_depth 13 = .ok (.iload_n 3, 1) := by decide +kernel
theorem dX4_depth_14 : decode cX4_depth 14 = .ok (.aload_n 0, 1) := by decide +kernel
theorem dX4_depth_15 : decode cX4_depth 15 = .ok (.getfield 7, 3) := by decide +kernel
theorem dX4_depth_18 : decode cX4_depth 18 = .ok (.iload 4, 2) := by decide +kernel
theorem dX4_depth_20 : decode cX4_depth 20 = .ok (.iconst 0, 1) := by decide +kernel
theorem dX4_depth_21 : decode cX4_depth 21 = .ok (.invokestatic 30, 3) := by decide +kernel
theorem dX4_depth_24 : decode cX4_depth 24 = .ok (.iaload, 1) := by decide +kernel
theorem dX4_depth_25 : decode cX4_depth 25 = .ok (.iadd, 1) := by decide +kernel
theorem dX4_depth_26 : decode cX4_depth 26 = .ok (.istore_n 3, 1) := by decide +kernel
theorem dX4_depth_27 : decode cX4_depth 27 = .ok (.iinc 4 1, 3) := by decide +kernel
theorem dX4_depth_30 : decode cX4_depth 30 = .ok (.goto (-23), 3) := by decide +kernel
theorem dX4_depth_33 : decode cX4_depth 33 = .ok (.iload_n 3, 1) := by decide +kernel
theorem dX4_depth_34 : decode cX4_depth 34 = .ok (.ireturn, 1) := by decide +kernel
set_option maxRecDepth 20000 in
theorem ggX4_load_X4_at : GoodIn wsX4_load wsX4_at := goodIn_r _ [5] (by decide +kernel) (by decide +kernel)
set_option maxRecDepth 20000 in
theorem gX4_load_X4_at : GoodIn wsX4_load (va_wsS RX4 30 yX4_at wsX4_at) := goodIn_app (goodIn_of _ (by decide +kernel)) ggX4_load_X4_at
theorem dX4_load_0 : decode cX4_load 0 = .ok (.iconst 0, 1) := by decide +kernel
theorem dX4_load_1 : decode cX4_load 1 = .ok (.istore_n 3, 1) := by decide +kernel
theorem dX4_load_2 : decode cX4_load 2 = .ok (.iload_n 1, 1) := by decide +kernel
theorem dX4_load_3 : decode cX4_load 3 = .ok (.iconst 1, 1) := by decide +kernel
theorem dX4_load_4 : decode cX4_load 4 = .ok (.iadd, 1) := by decide +kernel
theorem dX4_load_5 : decode cX4_load 5 = .ok (.istore 4, 2) := by decide +kernel
theorem dX4_load_7 : decode cX4_load 7 = .ok (.iload 4, 2) := by decide +kernel
theorem dX4_load_9 : decode cX4_load 9 = .ok (.iload_n 2, 1) := by decide +kernel
theorem dX4_load_10 : decode cX4_load 10 = .ok (.if_icmp .ge 35, 3) := by decide +kernel
theorem dX4_load_13 : decode cX4_load 13 = .ok (.iload_n 3, 1) := by decide +kernel
theorem dX4_load_14 : decode cX4_load 14 = .ok (.aload_n 0, 1) := by decide +kernel
theorem dX4_load_15 : decode cX4_load 15 = .ok (.getfield 7, 3) := by decide +kernel
theorem dX4_load_18 : decode cX4_load 18 = .ok (.iload 4, 2) := by decide +kernel
theorem dX4_load_20 : decode cX4_load 20 = .ok (.iconst 0, 1) := by decide +kernel
theorem dX4_load_21 : decode cX4_load 21 = .ok (.invokestatic 30, 3) := by decide +kernel
theorem dX4_load_24 : decode cX4_load 24 = .ok (.iaload, 1) := by decide +kernel
theorem dX4_load_25 : decode cX4_load 25 = .ok (.aload_n 0, 1) := by decide +kernel
theorem dX4_load_26 : decode cX4_load 26 = .ok (.getfield 7, 3) := by decide +kernel
theorem dX4_load_29 : decode cX4_load 29 = .ok (.iload 4, 2) := by decide +kernel
theorem dX4_load_31 : decode cX4_load 31 = .ok (.iconst 1, 1) := by decide +kernel
theorem dX4_load_32 : decode cX4_load 32 = .ok (.invokestatic 30, 3) := by decide +kernel
theorem dX4_load_35 : decode cX4_load 35 = .ok (.iaload, 1) := by decide +kernel
theorem dX4_load_36 : decode cX4_load 36 = .ok (.imul, 1) := by decide +kernel
theorem dX4_load_37 : decode cX4_load 37 = .ok (.iadd, 1) := by decide +kernel
theorem dX4_load_38 : decode cX4_load 38 = .ok (.istore_n 3, 1) := by decide +kernel
theorem dX4_load_39 : decode cX4_load 39 = .ok (.iinc 4 1, 3) := by decide +kernel
theorem dX4_load_42 : decode cX4_load 42 = .ok (.goto (-35), 3) := by decide +kernel
theorem dX4_load_45 : decode cX4_load 45 = .ok (.iload_n 3, 1) := by decide +kernel
theorem dX4_load_46 : decode cX4_load 46 = .ok (.bipush 100, 2) := by decide +kernel
theorem dX4_load_48 : decode cX4_load 48 = .ok (.idiv, 1) := by decide +kernel
theorem dX4_load_49 : decode cX4_load 49 = .ok (.ireturn, 1) := by decide +kernel
set_option maxRecDepth 20000 in
theorem ggX4_shear_X4_load : GoodIn wsX4_shear wsX4_load := goodIn_r _ [6, 1, 7, 8, 5, 9, 10, 11, 12, 13, 14, 15] (by decide +kernel) (by decide +kernel)
set_option maxRecDepth 20000 in
theorem gX4_shear_X4_load : GoodIn wsX4_shear (wsV RX4 34 RX4 yX4_load wsX4_load) := goodIn_app (goodIn_of _ (by decide +kernel)) ggX4_shear_X4_load
theorem dX4_shear_0 : decode cX4_shear 0 = .ok (.aload_n 0, 1) := by decide +kernel
theorem dX4_shear_1 : decode cX4_shear 1 = .ok (.iload_n 1, 1) := by decide +kernel
theorem dX4_shear_2 : decode cX4_shear 2 = .ok (.aload_n 0, 1) := by decide +kernel
theorem dX4_shear_3 : decode cX4_shear 3 = .ok (.getfield 7, 3) := by decide +kernel
theorem dX4_shear_6 : decode cX4_shear 6 = .ok (.iconst 0, 1) := by decide +kernel
theorem dX4_shear_7 : decode cX4_shear 7 = .ok (.iaload, 1) := by decide +kernel
theorem dX4_shear_8 : decode cX4_shear 8 = .ok (.invokevirtual 34, 3) := by decide +kernel
theorem dX4_shear_11 : decode cX4_shear 11 = .ok (.iload_n 2, 1) := by decide +kernel
theorem dX4_shear_12 : decode cX4_shear 12 = .ok (.imul, 1) := by decide +kernel
theorem dX4_shear_13 : decode cX4_shear 13 = .ok (.bipush 100, 2) := by decide +kernel
theorem dX4_shear_15 : decode cX4_shear 15 = .ok (.idiv, 1) := by decide +kernel
theorem dX4_shear_16 : decode cX4_shear 16 = .ok (.ireturn, 1) := by decide +kernel
set_option maxRecDepth 20000 in
theorem ggX4_margin_X4_shear : GoodIn wsX4_margin wsX4_shear := goodIn_r _ [5, 6, 7, 8, 9, 4, 10, 11, 12, 13, 18, 19, 20, 21, 22, 23] (by decide +kernel) (by decide +kernel)
set_option maxRecDepth 20000 in
theorem gX4_margin_X4_shear : GoodIn wsX4_margin (wsV RX4 37 RX4 yX4_shear wsX4_shear) := goodIn_app (goodIn_of _ (by decide +kernel)) ggX4_margin_X4_shear
set_option maxRecDepth 20000 in
theorem ggX4_margin_X4_strength : GoodIn wsX4_margin wsX4_strength := goodIn_r _ [17, 6, 11, 12, 4, 13, 18, 19, 20, 21, 22, 23] (by decide +kernel) (by decide +kernel)
set_option maxRecDepth 20000 in
theorem gX4_margin_X4_strength : GoodIn wsX4_margin (wsV RX4 40 RX4 yX4_strength wsX4_strength) := goodIn_app (goodIn_of _ (by decide +kernel)) ggX4_margin_X4_strength
theorem dX4_margin_0 : decode cX4_margin 0 = .ok (.aload_n 0, 1) := by decide +kernel
theorem dX4_margin_1 : decode cX4_margin 1 = .ok (.iload_n 1, 1) := by decide +kernel
theorem dX4_margin_2 : decode cX4_margin 2 = .ok (.iload_n 2, 1) := by decide +kernel
theorem dX4_margin_3 : decode cX4_margin 3 = .ok (.invokevirtual 37, 3) := by decide +kernel
theorem dX4_margin_6 : decode cX4_margin 6 = .ok (.istore_n 3, 1) := by decide +kernel
theorem dX4_margin_7 : decode cX4_margin 7 = .ok (.iload_n 3, 1) := by decide +kernel
theorem dX4_margin_8 : decode cX4_margin 8 = .ok (.ifCond .ne 9, 3) := by decide +kernel
theorem dX4_margin_11 : decode cX4_margin 11 = .ok (.sipush 9999, 3) := by decide +kernel
theorem dX4_margin_14 : decode cX4_margin 14 = .ok (.goto 13, 3) := by decide +kernel
theorem dX4_margin_17 : decode cX4_margin 17 = .ok (.bipush 100, 2) := by decide +kernel
theorem dX4_margin_19 : decode cX4_margin 19 = .ok (.aload_n 0, 1) := by decide +kernel
theorem dX4_margin_20 : decode cX4_margin 20 = .ok (.iload_n 1, 1) := by decide +kernel
theorem dX4_margin_21 : decode cX4_margin 21 = .ok (.invokevirtual 40, 3) := by decide +kernel
theorem dX4_margin_24 : decode cX4_margin 24 = .ok (.imul, 1) := by decide +kernel
theorem dX4_margin_25 : decode cX4_margin 25 = .ok (.iload_n 3, 1) := by decide +kernel
theorem dX4_margin_26 : decode cX4_margin 26 = .ok (.idiv, 1) := by decide +kernel
theorem dX4_margin_27 : decode cX4_margin 27 = .ok (.ireturn, 1) := by decide +kernel
set_option maxRecDepth 20000 in
theorem ggX4_press_X4_depth : GoodIn wsX4_press wsX4_depth := goodIn_r _ [5, 6, 7, 8, 4, 9, 10, 11, 12, 13, 14, 15] (by decide +kernel) (by decide +kernel)
set_option maxRecDepth 20000 in
theorem gX4_press_X4_depth : GoodIn wsX4_press (wsV RX4 44 RX4 yX4_depth wsX4_depth) := goodIn_app (goodIn_of _ (by decide +kernel)) ggX4_press_X4_depth
theorem dX4_press_0 : decode cX4_press 0 = .ok (.bipush 100, 2) := by decide +kernel
theorem dX4_press_2 : decode cX4_press 2 = .ok (.iload_n 3, 1) := by decide +kernel
theorem dX4_press_3 : decode cX4_press 3 = .ok (.imul, 1) := by decide +kernel
theorem dX4_press_4 : decode cX4_press 4 = .ok (.aload_n 0, 1) := by decide +kernel
theorem dX4_press_5 : decode cX4_press 5 = .ok (.iload_n 1, 1) := by decide +kernel
theorem dX4_press_6 : decode cX4_press 6 = .ok (.iload_n 2, 1) := by decide +kernel
theorem dX4_press_7 : decode cX4_press 7 = .ok (.invokevirtual 44, 3) := by decide +kernel
theorem dX4_press_10 : decode cX4_press 10 = .ok (.bipush 10, 2) := by decide +kernel
theorem dX4_press_12 : decode cX4_press 12 = .ok (.iadd, 1) := by decide +kernel
theorem dX4_press_13 : decode cX4_press 13 = .ok (.idiv, 1) := by decide +kernel
theorem dX4_press_14 : decode cX4_press 14 = .ok (.ireturn, 1) := by decide +kernel
set_option maxRecDepth 20000 in
theorem ggX4_layer_X4_isLayer : GoodIn wsX4_layer wsX4_isLayer := goodIn_r _ [6, 1, 7, 8, 5, 9, 25, 26, 27, 28, 29, 30] (by decide +kernel) (by decide +kernel)
set_option maxRecDepth 20000 in
theorem gX4_layer_X4_isLayer : GoodIn wsX4_layer (wsV RX4 47 RX4 yX4_isLayer wsX4_isLayer) := goodIn_app (goodIn_of _ (by decide +kernel)) ggX4_layer_X4_isLayer
set_option maxRecDepth 20000 in
theorem ggX4_layer_X4_at : GoodIn wsX4_layer wsX4_at := goodIn_r _ [12] (by decide +kernel) (by decide +kernel)
set_option maxRecDepth 20000 in
theorem gX4_layer_X4_at : GoodIn wsX4_layer (va_wsS RX4 30 yX4_at wsX4_at) := goodIn_app (goodIn_of _ (by decide +kernel)) ggX4_layer_X4_at
set_option maxRecDepth 20000 in
theorem ggX4_layer_X4_strength : GoodIn wsX4_layer wsX4_strength := goodIn_r _ [16, 1, 10, 11, 5, 12, 25, 26, 27, 28, 29, 30] (by decide +kernel) (by decide +kernel)
set_option maxRecDepth 20000 in
theorem gX4_layer_X4_strength : GoodIn wsX4_layer (wsV RX4 40 RX4 yX4_strength wsX4_strength) := goodIn_app (goodIn_of _ (by decide +kernel)) ggX4_layer_X4_strength
set_option maxRecDepth 20000 in
theorem ggX4_layer_X4_depth : GoodIn wsX4_layer wsX4_depth := goodIn_r _ [20, 1, 10, 11, 5, 12, 25, 26, 27, 28, 29, 30] (by decide +kernel) (by decide +kernel)
set_option maxRecDepth 20000 in
theorem gX4_layer_X4_depth : GoodIn wsX4_layer (wsV RX4 44 RX4 yX4_depth wsX4_depth) := goodIn_app (goodIn_of _ (by decide +kernel)) ggX4_layer_X4_depth
set_option maxRecDepth 20000 in
theorem ggX4_layer_X4_load : GoodIn wsX4_layer wsX4_load := goodIn_r _ [24, 1, 10, 11, 5, 12, 25, 26, 27, 28, 29, 30] (by decide +kernel) (by decide +kernel)
set_option maxRecDepth 20000 in
theorem gX4_layer_X4_load : GoodIn wsX4_layer (wsV RX4 34 RX4 yX4_load wsX4_load) := goodIn_app (goodIn_of _ (by decide +kernel)) ggX4_layer_X4_load
theorem dX4_layer_0 : decode cX4_layer 0 = .ok (.aload_n 0, 1) := by decide +kernel
theorem dX4_layer_1 : decode cX4_layer 1 = .ok (.iload_n 1, 1) := by decide +kernel
theorem dX4_layer_2 : decode cX4_layer 2 = .ok (.invokevirtual 47, 3) := by decide +kernel
theorem dX4_layer_5 : decode cX4_layer 5 = .ok (.ifCond .ne 5, 3) := by decide +kernel
theorem dX4_layer_8 : decode cX4_layer 8 = .ok (.iconst (-1), 1) := by decide +kernel
theorem dX4_layer_9 : decode cX4_layer 9 = .ok (.ireturn, 1) := by decide +kernel
theorem dX4_layer_10 : decode cX4_layer 10 = .ok (.iload_n 2, 1) := by decide +kernel
theorem dX4_layer_11 : decode cX4_layer 11 = .ok (.tableswitch 86 0 7 #[45, 45, 45, 45, 45, 56, 62, 74], 45) := by decide +kernel
theorem dX4_layer_56 : decode cX4_layer 56 = .ok (.aload_n 0, 1) := by decide +kernel
theorem dX4_layer_57 : decode cX4_layer 57 = .ok (.getfield 7, 3) := by decide +kernel
theorem dX4_layer_60 : decode cX4_layer 60 = .ok (.iload_n 1, 1) := by decide +kernel
theorem dX4_layer_61 : decode cX4_layer 61 = .ok (.iload_n 2, 1) := by decide +kernel
theorem dX4_layer_62 : decode cX4_layer 62 = .ok (.invokestatic 30, 3) := by decide +kernel
theorem dX4_layer_65 : decode cX4_layer 65 = .ok (.iaload, 1) := by decide +kernel
theorem dX4_layer_66 : decode cX4_layer 66 = .ok (.ireturn, 1) := by decide +kernel
theorem dX4_layer_67 : decode cX4_layer 67 = .ok (.aload_n 0, 1) := by decide +kernel
theorem dX4_layer_68 : decode cX4_layer 68 = .ok (.iload_n 1, 1) := by decide +kernel
theorem dX4_layer_69 : decode cX4_layer 69 = .ok (.invokevirtual 40, 3) := by decide +kernel
theorem dX4_layer_72 : decode cX4_layer 72 = .ok (.ireturn, 1) := by decide +kernel
theorem dX4_layer_73 : decode cX4_layer 73 = .ok (.aload_n 0, 1) := by decide +kernel
theorem dX4_layer_74 : decode cX4_layer 74 = .ok (.iload_n 1, 1) := by decide +kernel
theorem dX4_layer_75 : decode cX4_layer 75 = .ok (.aload_n 0, 1) := by decide +kernel
theorem dX4_layer_76 : decode cX4_layer 76 = .ok (.getfield 7, 3) := by decide +kernel
theorem dX4_layer_79 : decode cX4_layer 79 = .ok (.iconst 0, 1) := by decide +kernel
theorem dX4_layer_80 : decode cX4_layer 80 = .ok (.iaload, 1) := by decide +kernel
theorem dX4_layer_81 : decode cX4_layer 81 = .ok (.invokevirtual 44, 3) := by decide +kernel
theorem dX4_layer_84 : decode cX4_layer 84 = .ok (.ireturn, 1) := by decide +kernel
theorem dX4_layer_85 : decode cX4_layer 85 = .ok (.aload_n 0, 1) := by decide +kernel
theorem dX4_layer_86 : decode cX4_layer 86 = .ok (.iload_n 1, 1) := by decide +kernel
theorem dX4_layer_87 : decode cX4_layer 87 = .ok (.aload_n 0, 1) := by decide +kernel
theorem dX4_layer_88 : decode cX4_layer 88 = .ok (.getfield 7, 3) := by decide +kernel
theorem dX4_layer_91 : decode cX4_layer 91 = .ok (.iconst 0, 1) := by decide +kernel
theorem dX4_layer_92 : decode cX4_layer 92 = .ok (.iaload, 1) := by decide +kernel
theorem dX4_layer_93 : decode cX4_layer 93 = .ok (.invokevirtual 34, 3) := by decide +kernel
theorem dX4_layer_96 : decode cX4_layer 96 = .ok (.ireturn, 1) := by decide +kernel
theorem dX4_layer_97 : decode cX4_layer 97 = .ok (.bipush (-2), 2) := by decide +kernel
theorem dX4_layer_99 : decode cX4_layer 99 = .ok (.ireturn, 1) := by decide +kernel
set_option maxRecDepth 20000 in
theorem ggX4_isSteep_X4_in : GoodIn wsX4_isSteep wsX4_in := goodIn_r _ [4] (by decide +kernel) (by decide +kernel)
set_option maxRecDepth 20000 in
theorem gX4_isSteep_X4_in : GoodIn wsX4_isSteep (va_wsS RX4 26 yX4_in wsX4_in) := goodIn_app (goodIn_of _ (by decide +kernel)) ggX4_isSteep_X4_in
theorem dX4_isSteep_0 : decode cX4_isSteep 0 = .ok (.iload_n 0, 1) := by decide +kernel
theorem dX4_isSteep_1 : decode cX4_isSteep 1 = .ok (.iconst 0, 1) := by decide +kernel
theorem dX4_isSteep_2 : decode cX4_isSteep 2 = .ok (.bipush 100, 2) := by decide +kernel
theorem dX4_isSteep_4 : decode cX4_isSteep 4 = .ok (.invokestatic 26, 3) := by decide +kernel
theorem dX4_isSteep_7 : decode cX4_isSteep 7 = .ok (.ireturn, 1) := by decide +kernel
set_option maxRecDepth 20000 in
theorem ggX4_slope_X4_isLayer : GoodIn wsX4_slope wsX4_isLayer := goodIn_r _ [5, 6, 7, 8, 4, 9, 32, 33, 34, 35, 36, 37] (by decide +kernel) (by decide +kernel)
set_option maxRecDepth 20000 in
theorem gX4_slope_X4_isLayer : GoodIn wsX4_slope (wsV RX4 47 RX4 yX4_isLayer wsX4_isLayer) := goodIn_app (goodIn_of _ (by decide +kernel)) ggX4_slope_X4_isLayer
set_option maxRecDepth 20000 in
theorem ggX4_slope_X4_isSteep : GoodIn wsX4_slope wsX4_isSteep := goodIn_r _ [12, 7, 8, 4, 9] (by decide +kernel) (by decide +kernel)
set_option maxRecDepth 20000 in
theorem gX4_slope_X4_isSteep : GoodIn wsX4_slope (va_wsS RX4 51 yX4_isSteep wsX4_isSteep) := goodIn_app (goodIn_of _ (by decide +kernel)) ggX4_slope_X4_isSteep
set_option maxRecDepth 20000 in
theorem ggX4_slope_X4_in : GoodIn wsX4_slope wsX4_in := goodIn_r _ [9] (by decide +kernel) (by decide +kernel)
set_option maxRecDepth 20000 in
theorem gX4_slope_X4_in : GoodIn wsX4_slope (va_wsS RX4 26 yX4_in wsX4_in) := goodIn_app (goodIn_of _ (by decide +kernel)) ggX4_slope_X4_in
set_option maxRecDepth 20000 in
theorem ggX4_slope_X4_shear : GoodIn wsX4_slope wsX4_shear := goodIn_r _ [16, 6, 17, 18, 19, 4, 20, 21, 22, 23, 32, 33, 34, 35, 36, 37] (by decide +kernel) (by decide +kernel)
set_option maxRecDepth 20000 in
theorem gX4_slope_X4_shear : GoodIn wsX4_slope (wsV RX4 37 RX4 yX4_shear wsX4_shear) := goodIn_app (goodIn_of _ (by decide +kernel)) ggX4_slope_X4_shear
set_option maxRecDepth 20000 in
theorem ggX4_slope_X4_margin : GoodIn wsX4_slope wsX4_margin := goodIn_r _ [27, 13, 14, 15, 4, 16, 6, 17, 18, 19, 20, 21, 22, 23, 28, 29, 30, 31, 32, 33, 34, 35, 36, 37] (by decide +kernel) (by decide +kernel)
set_option maxRecDepth 20000 in
theorem gX4_slope_X4_margin : GoodIn wsX4_slope (wsV RX4 54 RX4 yX4_margin wsX4_margin) := goodIn_app (goodIn_of _ (by decide +kernel)) ggX4_slope_X4_margin
theorem dX4_slope_0 : decode cX4_slope 0 = .ok (.aload_n 0, 1) := by decide +kernel
theorem dX4_slope_1 : decode cX4_slope 1 = .ok (.iload_n 1, 1) := by decide +kernel
theorem dX4_slope_2 : decode cX4_slope 2 = .ok (.invokevirtual 47, 3) := by decide +kernel
theorem dX4_slope_5 : decode cX4_slope 5 = .ok (.ifCond .ne 5, 3) := by decide +kernel
theorem dX4_slope_8 : decode cX4_slope 8 = .ok (.iconst (-1), 1) := by decide +kernel
theorem dX4_slope_9 : decode cX4_slope 9 = .ok (.ireturn, 1) := by decide +kernel
theorem dX4_slope_10 : decode cX4_slope 10 = .ok (.iload_n 2, 1) := by decide +kernel
theorem dX4_slope_11 : decode cX4_slope 11 = .ok (.invokestatic 51, 3) := by decide +kernel
theorem dX4_slope_14 : decode cX4_slope 14 = .ok (.ifCond .eq 12, 3) := by decide +kernel
theorem dX4_slope_17 : decode cX4_slope 17 = .ok (.iload_n 3, 1) := by decide +kernel
theorem dX4_slope_18 : decode cX4_slope 18 = .ok (.iconst 0, 1) := by decide +kernel
theorem dX4_slope_19 : decode cX4_slope 19 = .ok (.iconst 1, 1) := by decide +kernel
theorem dX4_slope_20 : decode cX4_slope 20 = .ok (.invokestatic 26, 3) := by decide +kernel
theorem dX4_slope_23 : decode cX4_slope 23 = .ok (.ifCond .ne 6, 3) := by decide +kernel
theorem dX4_slope_26 : decode cX4_slope 26 = .ok (.bipush (-2), 2) := by decide +kernel
theorem dX4_slope_28 : decode cX4_slope 28 = .ok (.ireturn, 1) := by decide +kernel
theorem dX4_slope_29 : decode cX4_slope 29 = .ok (.iload_n 3, 1) := by decide +kernel
theorem dX4_slope_30 : decode cX4_slope 30 = .ok (.ifCond .ne 12, 3) := by decide +kernel
theorem dX4_slope_33 : decode cX4_slope 33 = .ok (.aload_n 0, 1) := by decide +kernel
theorem dX4_slope_34 : decode cX4_slope 34 = .ok (.iload_n 1, 1) := by decide +kernel
theorem dX4_slope_35 : decode cX4_slope 35 = .ok (.iload_n 2, 1) := by decide +kernel
theorem dX4_slope_36 : decode cX4_slope 36 = .ok (.invokevirtual 37, 3) := by decide +kernel
theorem dX4_slope_39 : decode cX4_slope 39 = .ok (.goto 9, 3) := by decide +kernel
theorem dX4_slope_42 : decode cX4_slope 42 = .ok (.aload_n 0, 1) := by decide +kernel
theorem dX4_slope_43 : decode cX4_slope 43 = .ok (.iload_n 1, 1) := by decide +kernel
theorem dX4_slope_44 : decode cX4_slope 44 = .ok (.iload_n 2, 1) := by decide +kernel
theorem dX4_slope_45 : decode cX4_slope 45 = .ok (.invokevirtual 54, 3) := by decide +kernel
theorem dX4_slope_48 : decode cX4_slope 48 = .ok (.ireturn, 1) := by decide +kernel
set_option maxRecDepth 20000 in
theorem ggX4_weakest_X4_isSteep : GoodIn wsX4_weakest wsX4_isSteep := goodIn_r _ [4, 5, 6, 3, 7] (by decide +kernel) (by decide +kernel)
set_option maxRecDepth 20000 in
theorem gX4_weakest_X4_isSteep : GoodIn wsX4_weakest (va_wsS RX4 51 yX4_isSteep wsX4_isSteep) := goodIn_app (goodIn_of _ (by decide +kernel)) ggX4_weakest_X4_isSteep
set_option maxRecDepth 20000 in
theorem ggX4_weakest_X4_in : GoodIn wsX4_weakest wsX4_in := goodIn_r _ [7] (by decide +kernel) (by decide +kernel)
set_option maxRecDepth 20000 in
theorem gX4_weakest_X4_in : GoodIn wsX4_weakest (va_wsS RX4 26 yX4_in wsX4_in) := goodIn_app (goodIn_of _ (by decide +kernel)) ggX4_weakest_X4_in
set_option maxRecDepth 20000 in
theorem ggX4_weakest_X4_top : GoodIn wsX4_weakest wsX4_top := goodIn_r _ [11, 12, 32, 33, 34, 35, 36, 37] (by decide +kernel) (by decide +kernel)
set_option maxRecDepth 20000 in
theorem gX4_weakest_X4_top : GoodIn wsX4_weakest (wsV RX4 57 RX4 yX4_top wsX4_top) := goodIn_app (goodIn_of _ (by decide +kernel)) ggX4_weakest_X4_top
set_option maxRecDepth 20000 in
theorem ggX4_weakest_X4_margin : GoodIn wsX4_weakest wsX4_margin := goodIn_r _ [16, 17, 18, 19, 3, 20, 12, 21, 22, 23, 24, 25, 26, 27, 28, 29, 30, 31, 32, 33, 34, 35, 36, 37] (by decide +kernel) (by decide +kernel)
set_option maxRecDepth 20000 in
theorem gX4_weakest_X4_margin : GoodIn wsX4_weakest (wsV RX4 54 RX4 yX4_margin wsX4_margin) := goodIn_app (goodIn_of _ (by decide +kernel)) ggX4_weakest_X4_margin
theorem dX4_weakest_0 : decode cX4_weakest 0 = .ok (.iload_n 1, 1) := by decide +kernel
theorem dX4_weakest_1 : decode cX4_weakest 1 = .ok (.invokestatic 51, 3) := by decide +kernel
theorem dX4_weakest_4 : decode cX4_weakest 4 = .ok (.ifCond .eq 12, 3) := by decide +kernel
theorem dX4_weakest_7 : decode cX4_weakest 7 = .ok (.iload_n 2, 1) := by decide +kernel
theorem dX4_weakest_8 : decode cX4_weakest 8 = .ok (.iconst 0, 1) := by decide +kernel
theorem dX4_weakest_9 : decode cX4_weakest 9 = .ok (.iconst 1, 1) := by decide +kernel
theorem dX4_weakest_10 : decode cX4_weakest 10 = .ok (.invokestatic 26, 3) := by decide +kernel
theorem dX4_weakest_13 : decode cX4_weakest 13 = .ok (.ifCond .ne 6, 3) := by decide +kernel
theorem dX4_weakest_16 : decode cX4_weakest 16 = .ok (.bipush (-2), 2) := by decide +kernel
theorem dX4_weakest_18 : decode cX4_weakest 18 = .ok (.ireturn, 1) := by decide +kernel
theorem dX4_weakest_19 : decode cX4_weakest 19 = .ok (.bipush (-6), 2) := by decide +kernel
theorem dX4_weakest_21 : decode cX4_weakest 21 = .ok (.istore_n 3, 1) := by decide +kernel
theorem dX4_weakest_22 : decode cX4_weakest 22 = .ok (.iconst 0, 1) := by decide +kernel
theorem dX4_weakest_23 : decode cX4_weakest 23 = .ok (.istore 4, 2) := by decide +kernel
theorem dX4_weakest_25 : decode cX4_weakest 25 = .ok (.iload 4, 2) := by decide +kernel
theorem dX4_weakest_27 : decode cX4_weakest 27 = .ok (.aload_n 0, 1) := by decide +kernel
theorem dX4_weakest_28 : decode cX4_weakest 28 = .ok (.invokevirtual 57, 3) := by decide +kernel
theorem dX4_weakest_31 : decode cX4_weakest 31 = .ok (.if_icmp .ge 36, 3) := by decide +kernel
theorem dX4_weakest_34 : decode cX4_weakest 34 = .ok (.iload_n 3, 1) := by decide +kernel
theorem dX4_weakest_35 : decode cX4_weakest 35 = .ok (.ifCond .lt 19, 3) := by decide +kernel
theorem dX4_weakest_38 : decode cX4_weakest 38 = .ok (.aload_n 0, 1) := by decide +kernel
theorem dX4_weakest_39 : decode cX4_weakest 39 = .ok (.iload 4, 2) := by decide +kernel
theorem dX4_weakest_41 : decode cX4_weakest 41 = .ok (.iload_n 1, 1) := by decide +kernel
theorem dX4_weakest_42 : decode cX4_weakest 42 = .ok (.invokevirtual 54, 3) := by decide +kernel
theorem dX4_weakest_45 : decode cX4_weakest 45 = .ok (.aload_n 0, 1) := by decide +kernel
theorem dX4_weakest_46 : decode cX4_weakest 46 = .ok (.iload_n 3, 1) := by decide +kernel
theorem dX4_weakest_47 : decode cX4_weakest 47 = .ok (.iload_n 1, 1) := by decide +kernel
theorem dX4_weakest_48 : decode cX4_weakest 48 = .ok (.invokevirtual 54, 3) := by decide +kernel
theorem dX4_weakest_51 : decode cX4_weakest 51 = .ok (.if_icmp .gt 8, 3) := by decide +kernel
theorem dX4_weakest_54 : decode cX4_weakest 54 = .ok (.iload 4, 2) := by decide +kernel
theorem dX4_weakest_56 : decode cX4_weakest 56 = .ok (.goto 4, 3) := by decide +kernel
theorem dX4_weakest_59 : decode cX4_weakest 59 = .ok (.iload_n 3, 1) := by decide +kernel
theorem dX4_weakest_60 : decode cX4_weakest 60 = .ok (.istore_n 3, 1) := by decide +kernel
theorem dX4_weakest_61 : decode cX4_weakest 61 = .ok (.iinc 4 1, 3) := by decide +kernel
theorem dX4_weakest_64 : decode cX4_weakest 64 = .ok (.goto (-39), 3) := by decide +kernel
theorem dX4_weakest_67 : decode cX4_weakest 67 = .ok (.iload_n 3, 1) := by decide +kernel
theorem dX4_weakest_68 : decode cX4_weakest 68 = .ok (.ifCond .lt 7, 3) := by decide +kernel
theorem dX4_weakest_71 : decode cX4_weakest 71 = .ok (.iload_n 2, 1) := by decide +kernel
theorem dX4_weakest_72 : decode cX4_weakest 72 = .ok (.ifCond .ne 7, 3) := by decide +kernel
theorem dX4_weakest_75 : decode cX4_weakest 75 = .ok (.iload_n 3, 1) := by decide +kernel
theorem dX4_weakest_76 : decode cX4_weakest 76 = .ok (.goto 9, 3) := by decide +kernel
theorem dX4_weakest_79 : decode cX4_weakest 79 = .ok (.aload_n 0, 1) := by decide +kernel
theorem dX4_weakest_80 : decode cX4_weakest 80 = .ok (.iload_n 3, 1) := by decide +kernel
theorem dX4_weakest_81 : decode cX4_weakest 81 = .ok (.iload_n 1, 1) := by decide +kernel
theorem dX4_weakest_82 : decode cX4_weakest 82 = .ok (.invokevirtual 54, 3) := by decide +kernel
theorem dX4_weakest_85 : decode cX4_weakest 85 = .ok (.ireturn, 1) := by decide +kernel
set_option maxRecDepth 20000 in
theorem ggX4_blow_X4_in : GoodIn wsX4_blow wsX4_in := goodIn_r _ [5] (by decide +kernel) (by decide +kernel)
set_option maxRecDepth 20000 in
theorem gX4_blow_X4_in : GoodIn wsX4_blow (va_wsS RX4 26 yX4_in wsX4_in) := goodIn_app (goodIn_of _ (by decide +kernel)) ggX4_blow_X4_in
theorem dX4_blow_0 : decode cX4_blow 0 = .ok (.iload_n 1, 1) := by decide +kernel
theorem dX4_blow_1 : decode cX4_blow 1 = .ok (.iconst 1, 1) := by decide +kernel
theorem dX4_blow_2 : decode cX4_blow 2 = .ok (.bipush 50, 2) := by decide +kernel
theorem dX4_blow_4 : decode cX4_blow 4 = .ok (.invokestatic 26, 3) := by decide +kernel
theorem dX4_blow_7 : decode cX4_blow 7 = .ok (.ifCond .ne 6, 3) := by decide +kernel
theorem dX4_blow_10 : decode cX4_blow 10 = .ok (.bipush (-2), 2) := by decide +kernel
theorem dX4_blow_12 : decode cX4_blow 12 = .ok (.ireturn, 1) := by decide +kernel
theorem dX4_blow_13 : decode cX4_blow 13 = .ok (.aload_n 0, 1) := by decide +kernel
theorem dX4_blow_14 : decode cX4_blow 14 = .ok (.getfield 7, 3) := by decide +kernel
theorem dX4_blow_17 : decode cX4_blow 17 = .ok (.iconst 1, 1) := by decide +kernel
theorem dX4_blow_18 : decode cX4_blow 18 = .ok (.iaload, 1) := by decide +kernel
theorem dX4_blow_19 : decode cX4_blow 19 = .ok (.istore_n 2, 1) := by decide +kernel
theorem dX4_blow_20 : decode cX4_blow 20 = .ok (.aload_n 0, 1) := by decide +kernel
theorem dX4_blow_21 : decode cX4_blow 21 = .ok (.getfield 7, 3) := by decide +kernel
theorem dX4_blow_24 : decode cX4_blow 24 = .ok (.iconst 1, 1) := by decide +kernel
theorem dX4_blow_25 : decode cX4_blow 25 = .ok (.iload_n 1, 1) := by decide +kernel
theorem dX4_blow_26 : decode cX4_blow 26 = .ok (.iastore, 1) := by decide +kernel
theorem dX4_blow_27 : decode cX4_blow 27 = .ok (.iload_n 2, 1) := by decide +kernel
theorem dX4_blow_28 : decode cX4_blow 28 = .ok (.ireturn, 1) := by decide +kernel
theorem dX4_weightOf_0 : decode cX4_weightOf 0 = .ok (.iload_n 0, 1) := by decide +kernel
theorem dX4_weightOf_1 : decode cX4_weightOf 1 = .ok (.bipush 20, 2) := by decide +kernel
theorem dX4_weightOf_3 : decode cX4_weightOf 3 = .ok (.if_icmp .le 9, 3) := by decide +kernel
theorem dX4_weightOf_6 : decode cX4_weightOf 6 = .ok (.iconst 4, 1) := by decide +kernel
theorem dX4_weightOf_7 : decode cX4_weightOf 7 = .ok (.iload_n 1, 1) := by decide +kernel
theorem dX4_weightOf_8 : decode cX4_weightOf 8 = .ok (.imul, 1) := by decide +kernel
theorem dX4_weightOf_9 : decode cX4_weightOf 9 = .ok (.goto 16, 3) := by decide +kernel
theorem dX4_weightOf_12 : decode cX4_weightOf 12 = .ok (.iload_n 0, 1) := by decide +kernel
theorem dX4_weightOf_13 : decode cX4_weightOf 13 = .ok (.bipush 10, 2) := by decide +kernel
theorem dX4_weightOf_15 : decode cX4_weightOf 15 = .ok (.if_icmp .le 9, 3) := by decide +kernel
theorem dX4_weightOf_18 : decode cX4_weightOf 18 = .ok (.iconst 2, 1) := by decide +kernel
theorem dX4_weightOf_19 : decode cX4_weightOf 19 = .ok (.iload_n 1, 1) := by decide +kernel
theorem dX4_weightOf_20 : decode cX4_weightOf 20 = .ok (.imul, 1) := by decide +kernel
theorem dX4_weightOf_21 : decode cX4_weightOf 21 = .ok (.goto 4, 3) := by decide +kernel
theorem dX4_weightOf_24 : decode cX4_weightOf 24 = .ok (.iload_n 1, 1) := by decide +kernel
theorem dX4_weightOf_25 : decode cX4_weightOf 25 = .ok (.ireturn, 1) := by decide +kernel
set_option maxRecDepth 20000 in
theorem ggX4_broken_X4_load : GoodIn wsX4_broken wsX4_load := goodIn_r _ [5, 6, 7, 8, 4, 9, 22, 23, 24, 25, 26, 27] (by decide +kernel) (by decide +kernel)
set_option maxRecDepth 20000 in
theorem gX4_broken_X4_load : GoodIn wsX4_broken (wsV RX4 34 RX4 yX4_load wsX4_load) := goodIn_app (goodIn_of _ (by decide +kernel)) ggX4_broken_X4_load
set_option maxRecDepth 20000 in
theorem ggX4_broken_X4_press : GoodIn wsX4_broken wsX4_press := goodIn_r _ [13, 14, 15, 16, 4, 17, 6, 7, 8, 9, 22, 23, 24, 25, 26, 27] (by decide +kernel) (by decide +kernel)
set_option maxRecDepth 20000 in
theorem gX4_broken_X4_press : GoodIn wsX4_broken (wsV RX4 61 RX4 yX4_press wsX4_press) := goodIn_app (goodIn_of _ (by decide +kernel)) ggX4_broken_X4_press
set_option maxRecDepth 20000 in
theorem ggX4_broken_X4_strength : GoodIn wsX4_broken wsX4_strength := goodIn_r _ [21, 6, 7, 8, 4, 9, 22, 23, 24, 25, 26, 27] (by decide +kernel) (by decide +kernel)
set_option maxRecDepth 20000 in
theorem gX4_broken_X4_strength : GoodIn wsX4_broken (wsV RX4 40 RX4 yX4_strength wsX4_strength) := goodIn_app (goodIn_of _ (by decide +kernel)) ggX4_broken_X4_strength
theorem dX4_broken_0 : decode cX4_broken 0 = .ok (.iload_n 1, 1) := by decide +kernel
theorem dX4_broken_1 : decode cX4_broken 1 = .ok (.iconst 2, 1) := by decide +kernel
theorem dX4_broken_2 : decode cX4_broken 2 = .ok (.isub, 1) := by decide +kernel
theorem dX4_broken_3 : decode cX4_broken 3 = .ok (.istore_n 3, 1) := by decide +kernel
theorem dX4_broken_4 : decode cX4_broken 4 = .ok (.iload_n 3, 1) := by decide +kernel
theorem dX4_broken_5 : decode cX4_broken 5 = .ok (.ifCond .lt 33, 3) := by decide +kernel
theorem dX4_broken_8 : decode cX4_broken 8 = .ok (.aload_n 0, 1) := by decide +kernel
theorem dX4_broken_9 : decode cX4_broken 9 = .ok (.iload_n 3, 1) := by decide +kernel
theorem dX4_broken_10 : decode cX4_broken 10 = .ok (.iload_n 1, 1) := by decide +kernel
theorem dX4_broken_11 : decode cX4_broken 11 = .ok (.invokevirtual 34, 3) := by decide +kernel
theorem dX4_broken_14 : decode cX4_broken 14 = .ok (.aload_n 0, 1) := by decide +kernel
theorem dX4_broken_15 : decode cX4_broken 15 = .ok (.iload_n 3, 1) := by decide +kernel
theorem dX4_broken_16 : decode cX4_broken 16 = .ok (.iload_n 1, 1) := by decide +kernel
theorem dX4_broken_17 : decode cX4_broken 17 = .ok (.iload_n 2, 1) := by decide +kernel
theorem dX4_broken_18 : decode cX4_broken 18 = .ok (.invokevirtual 61, 3) := by decide +kernel
theorem dX4_broken_21 : decode cX4_broken 21 = .ok (.iadd, 1) := by decide +kernel
theorem dX4_broken_22 : decode cX4_broken 22 = .ok (.aload_n 0, 1) := by decide +kernel
theorem dX4_broken_23 : decode cX4_broken 23 = .ok (.iload_n 3, 1) := by decide +kernel
theorem dX4_broken_24 : decode cX4_broken 24 = .ok (.invokevirtual 40, 3) := by decide +kernel
theorem dX4_broken_27 : decode cX4_broken 27 = .ok (.if_icmp .lt 5, 3) := by decide +kernel
theorem dX4_broken_30 : decode cX4_broken 30 = .ok (.iload_n 3, 1) := by decide +kernel
theorem dX4_broken_31 : decode cX4_broken 31 = .ok (.ireturn, 1) := by decide +kernel
theorem dX4_broken_32 : decode cX4_broken 32 = .ok (.iinc 3 (-1), 3) := by decide +kernel
theorem dX4_broken_35 : decode cX4_broken 35 = .ok (.goto (-31), 3) := by decide +kernel
theorem dX4_broken_38 : decode cX4_broken 38 = .ok (.bipush (-6), 2) := by decide +kernel
theorem dX4_broken_40 : decode cX4_broken 40 = .ok (.ireturn, 1) := by decide +kernel
set_option maxRecDepth 20000 in
theorem ggX4_tapAll_X4_weightOf : GoodIn wsX4_tapAll wsX4_weightOf := goodIn_r _ [8] (by decide +kernel) (by decide +kernel)
set_option maxRecDepth 20000 in
theorem gX4_tapAll_X4_weightOf : GoodIn wsX4_tapAll (va_wsS RX4 69 yX4_weightOf wsX4_weightOf) := goodIn_app (goodIn_of _ (by decide +kernel)) ggX4_tapAll_X4_weightOf
set_option maxRecDepth 20000 in
theorem ggX4_tapAll_X4_broken : GoodIn wsX4_tapAll wsX4_broken := goodIn_r _ [12, 13, 14, 15, 7, 16, 2, 17, 18, 19, 20, 21, 22, 23, 24, 25, 26, 27, 28, 29, 30, 31, 32, 33, 34, 35, 36, 37] (by decide +kernel) (by decide +kernel)
set_option maxRecDepth 20000 in
theorem gX4_tapAll_X4_broken : GoodIn wsX4_tapAll (wsV RX4 72 RX4 yX4_broken wsX4_broken) := goodIn_app (goodIn_of _ (by decide +kernel)) ggX4_tapAll_X4_broken
theorem dX4_tapAll_0 : decode cX4_tapAll 0 = .ok (.aload_n 0, 1) := by decide +kernel
theorem dX4_tapAll_1 : decode cX4_tapAll 1 = .ok (.iconst 0, 1) := by decide +kernel
theorem dX4_tapAll_2 : decode cX4_tapAll 2 = .ok (.putfield 65, 3) := by decide +kernel
theorem dX4_tapAll_5 : decode cX4_tapAll 5 = .ok (.aload_n 0, 1) := by decide +kernel
theorem dX4_tapAll_6 : decode cX4_tapAll 6 = .ok (.getfield 7, 3) := by decide +kernel
theorem dX4_tapAll_9 : decode cX4_tapAll 9 = .ok (.iconst 0, 1) := by decide +kernel
theorem dX4_tapAll_10 : decode cX4_tapAll 10 = .ok (.iaload, 1) := by decide +kernel
theorem dX4_tapAll_11 : decode cX4_tapAll 11 = .ok (.istore_n 3, 1) := by decide +kernel
theorem dX4_tapAll_12 : decode cX4_tapAll 12 = .ok (.iconst 1, 1) := by decide +kernel
theorem dX4_tapAll_13 : decode cX4_tapAll 13 = .ok (.istore 4, 2) := by decide +kernel
theorem dX4_tapAll_15 : decode cX4_tapAll 15 = .ok (.iload 4, 2) := by decide +kernel
theorem dX4_tapAll_17 : decode cX4_tapAll 17 = .ok (.iload_n 2, 1) := by decide +kernel
theorem dX4_tapAll_18 : decode cX4_tapAll 18 = .ok (.if_icmp .gt 64, 3) := by decide +kernel
theorem dX4_tapAll_21 : decode cX4_tapAll 21 = .ok (.aload_n 0, 1) := by decide +kernel
theorem dX4_tapAll_22 : decode cX4_tapAll 22 = .ok (.iload_n 3, 1) := by decide +kernel
theorem dX4_tapAll_23 : decode cX4_tapAll 23 = .ok (.iload 4, 2) := by decide +kernel
theorem dX4_tapAll_25 : decode cX4_tapAll 25 = .ok (.iload_n 1, 1) := by decide +kernel
theorem dX4_tapAll_26 : decode cX4_tapAll 26 = .ok (.invokestatic 69, 3) := by decide +kernel
theorem dX4_tapAll_29 : decode cX4_tapAll 29 = .ok (.invokevirtual 72, 3) := by decide +kernel
theorem dX4_tapAll_32 : decode cX4_tapAll 32 = .ok (.istore 5, 2) := by decide +kernel
theorem dX4_tapAll_34 : decode cX4_tapAll 34 = .ok (.iload 5, 2) := by decide +kernel
theorem dX4_tapAll_36 : decode cX4_tapAll 36 = .ok (.ifCond .lt 40, 3) := by decide +kernel
theorem dX4_tapAll_39 : decode cX4_tapAll 39 = .ok (.aload_n 0, 1) := by decide +kernel
theorem dX4_tapAll_40 : decode cX4_tapAll 40 = .ok (.getfield 20, 3) := by decide +kernel
theorem dX4_tapAll_43 : decode cX4_tapAll 43 = .ok (.aload_n 0, 1) := by decide +kernel
theorem dX4_tapAll_44 : decode cX4_tapAll 44 = .ok (.getfield 65, 3) := by decide +kernel
theorem dX4_tapAll_47 : decode cX4_tapAll 47 = .ok (.iload 4, 2) := by decide +kernel
theorem dX4_tapAll_49 : decode cX4_tapAll 49 = .ok (.iastore, 1) := by decide +kernel
theorem dX4_tapAll_50 : decode cX4_tapAll 50 = .ok (.aload_n 0, 1) := by decide +kernel
theorem dX4_tapAll_51 : decode cX4_tapAll 51 = .ok (.getfield 23, 3) := by decide +kernel
theorem dX4_tapAll_54 : decode cX4_tapAll 54 = .ok (.aload_n 0, 1) := by decide +kernel
theorem dX4_tapAll_55 : decode cX4_tapAll 55 = .ok (.getfield 65, 3) := by decide +kernel
theorem dX4_tapAll_58 : decode cX4_tapAll 58 = .ok (.iload 5, 2) := by decide +kernel
theorem dX4_tapAll_60 : decode cX4_tapAll 60 = .ok (.iastore, 1) := by decide +kernel
theorem dX4_tapAll_61 : decode cX4_tapAll 61 = .ok (.aload_n 0, 1) := by decide +kernel
theorem dX4_tapAll_62 : decode cX4_tapAll 62 = .ok (.dup, 1) := by decide +kernel
theorem dX4_tapAll_63 : decode cX4_tapAll 63 = .ok (.getfield 65, 3) := by decide +kernel
theorem dX4_tapAll_66 : decode cX4_tapAll 66 = .ok (.iconst 1, 1) := by decide +kernel
theorem dX4_tapAll_67 : decode cX4_tapAll 67 = .ok (.iadd, 1) := by decide +kernel
theorem dX4_tapAll_68 : decode cX4_tapAll 68 = .ok (.putfield 65, 3) := by decide +kernel
theorem dX4_tapAll_71 : decode cX4_tapAll 71 = .ok (.iload 5, 2) := by decide +kernel
theorem dX4_tapAll_73 : decode cX4_tapAll 73 = .ok (.iconst 1, 1) := by decide +kernel
theorem dX4_tapAll_74 : decode cX4_tapAll 74 = .ok (.iadd, 1) := by decide +kernel
theorem dX4_tapAll_75 : decode cX4_tapAll 75 = .ok (.istore_n 3, 1) := by decide +kernel
theorem dX4_tapAll_76 : decode cX4_tapAll 76 = .ok (.iinc 4 1, 3) := by decide +kernel
theorem dX4_tapAll_79 : decode cX4_tapAll 79 = .ok (.goto (-64), 3) := by decide +kernel
theorem dX4_tapAll_82 : decode cX4_tapAll 82 = .ok (.return_, 1) := by decide +kernel
set_option maxRecDepth 20000 in
theorem ggX4_isClean_X4_at : GoodIn wsX4_isClean wsX4_at := goodIn_r _ [5] (by decide +kernel) (by decide +kernel)
set_option maxRecDepth 20000 in
theorem gX4_isClean_X4_at : GoodIn wsX4_isClean (va_wsS RX4 30 yX4_at wsX4_at) := goodIn_app (goodIn_of _ (by decide +kernel)) ggX4_isClean_X4_at
theorem dX4_isClean_0 : decode cX4_isClean 0 = .ok (.aload_n 0, 1) := by decide +kernel
theorem dX4_isClean_1 : decode cX4_isClean 1 = .ok (.getfield 7, 3) := by decide +kernel
theorem dX4_isClean_4 : decode cX4_isClean 4 = .ok (.iload_n 1, 1) := by decide +kernel
theorem dX4_isClean_5 : decode cX4_isClean 5 = .ok (.iconst 1, 1) := by decide +kernel
theorem dX4_isClean_6 : decode cX4_isClean 6 = .ok (.iadd, 1) := by decide +kernel
theorem dX4_isClean_7 : decode cX4_isClean 7 = .ok (.iconst 3, 1) := by decide +kernel
theorem dX4_isClean_8 : decode cX4_isClean 8 = .ok (.invokestatic 30, 3) := by decide +kernel
theorem dX4_isClean_11 : decode cX4_isClean 11 = .ok (.iaload, 1) := by decide +kernel
theorem dX4_isClean_12 : decode cX4_isClean 12 = .ok (.aload_n 0, 1) := by decide +kernel
theorem dX4_isClean_13 : decode cX4_isClean 13 = .ok (.getfield 7, 3) := by decide +kernel
theorem dX4_isClean_16 : decode cX4_isClean 16 = .ok (.iload_n 1, 1) := by decide +kernel
theorem dX4_isClean_17 : decode cX4_isClean 17 = .ok (.iconst 3, 1) := by decide +kernel
theorem dX4_isClean_18 : decode cX4_isClean 18 = .ok (.invokestatic 30, 3) := by decide +kernel
theorem dX4_isClean_21 : decode cX4_isClean 21 = .ok (.iaload, 1) := by decide +kernel
theorem dX4_isClean_22 : decode cX4_isClean 22 = .ok (.isub, 1) := by decide +kernel
theorem dX4_isClean_23 : decode cX4_isClean 23 = .ok (.istore_n 2, 1) := by decide +kernel
theorem dX4_isClean_24 : decode cX4_isClean 24 = .ok (.iload_n 2, 1) := by decide +kernel
theorem dX4_isClean_25 : decode cX4_isClean 25 = .ok (.iconst 1, 1) := by decide +kernel
theorem dX4_isClean_26 : decode cX4_isClean 26 = .ok (.if_icmp .gt 8, 3) := by decide +kernel
theorem dX4_isClean_29 : decode cX4_isClean 29 = .ok (.iload_n 2, 1) := by decide +kernel
theorem dX4_isClean_30 : decode cX4_isClean 30 = .ok (.iconst (-1), 1) := by decide +kernel
theorem dX4_isClean_31 : decode cX4_isClean 31 = .ok (.if_icmp .ge 7, 3) := by decide +kernel
theorem dX4_isClean_34 : decode cX4_isClean 34 = .ok (.iconst 1, 1) := by decide +kernel
theorem dX4_isClean_35 : decode cX4_isClean 35 = .ok (.goto 4, 3) := by decide +kernel
theorem dX4_isClean_38 : decode cX4_isClean 38 = .ok (.iconst 0, 1) := by decide +kernel
theorem dX4_isClean_39 : decode cX4_isClean 39 = .ok (.ireturn, 1) := by decide +kernel
set_option maxRecDepth 20000 in
theorem ggX4_taps_X4_in : GoodIn wsX4_taps wsX4_in := goodIn_r _ [8] (by decide +kernel) (by decide +kernel)
set_option maxRecDepth 20000 in
theorem gX4_taps_X4_in : GoodIn wsX4_taps (va_wsS RX4 26 yX4_in wsX4_in) := goodIn_app (goodIn_of _ (by decide +kernel)) ggX4_taps_X4_in
set_option maxRecDepth 20000 in
theorem ggX4_taps_X4_tapAll : GoodIn wsX4_taps wsX4_tapAll := goodIn_r _ [12, 2, 1, 3, 4, 13, 14, 7, 15, 16, 17, 18, 19, 20, 21, 22, 23, 24, 25, 26, 27, 28, 29, 30, 31, 32, 33, 34, 35, 36, 37, 38, 43, 44, 45, 46, 47, 48] (by decide +kernel) (by decide +kernel)
set_option maxRecDepth 20000 in
theorem gX4_taps_X4_tapAll : GoodIn wsX4_taps (wsV RX4 75 RX4 yX4_tapAll wsX4_tapAll) := goodIn_app (goodIn_of _ (by decide +kernel)) ggX4_taps_X4_tapAll
set_option maxRecDepth 20000 in
theorem ggX4_taps_X4_isClean : GoodIn wsX4_taps wsX4_isClean := goodIn_r _ [42, 1, 24, 25, 7, 26, 43, 44, 45, 46, 47, 48] (by decide +kernel) (by decide +kernel)
set_option maxRecDepth 20000 in
theorem gX4_taps_X4_isClean : GoodIn wsX4_taps (wsV RX4 79 RX4 yX4_isClean wsX4_isClean) := goodIn_app (goodIn_of _ (by decide +kernel)) ggX4_taps_X4_isClean
theorem dX4_taps_0 : decode cX4_taps 0 = .ok (.iload_n 2, 1) := by decide +kernel
theorem dX4_taps_1 : decode cX4_taps 1 = .ok (.iconst 0, 1) := by decide +kernel
theorem dX4_taps_2 : decode cX4_taps 2 = .ok (.iconst 2, 1) := by decide +kernel
theorem dX4_taps_3 : decode cX4_taps 3 = .ok (.invokestatic 26, 3) := by decide +kernel
theorem dX4_taps_6 : decode cX4_taps 6 = .ok (.ifCond .ne 6, 3) := by decide +kernel
theorem dX4_taps_9 : decode cX4_taps 9 = .ok (.bipush (-2), 2) := by decide +kernel
theorem dX4_taps_11 : decode cX4_taps 11 = .ok (.ireturn, 1) := by decide +kernel
theorem dX4_taps_12 : decode cX4_taps 12 = .ok (.aload_n 0, 1) := by decide +kernel
theorem dX4_taps_13 : decode cX4_taps 13 = .ok (.aload_n 0, 1) := by decide +kernel
theorem dX4_taps_14 : decode cX4_taps 14 = .ok (.getfield 7, 3) := by decide +kernel
theorem dX4_taps_17 : decode cX4_taps 17 = .ok (.iconst 1, 1) := by decide +kernel
theorem dX4_taps_18 : decode cX4_taps 18 = .ok (.iaload, 1) := by decide +kernel
theorem dX4_taps_19 : decode cX4_taps 19 = .ok (.bipush 30, 2) := by decide +kernel
theorem dX4_taps_21 : decode cX4_taps 21 = .ok (.invokevirtual 75, 3) := by decide +kernel
theorem dX4_taps_24 : decode cX4_taps 24 = .ok (.iload_n 1, 1) := by decide +kernel
theorem dX4_taps_25 : decode cX4_taps 25 = .ok (.iconst (-1), 1) := by decide +kernel
theorem dX4_taps_26 : decode cX4_taps 26 = .ok (.if_icmp .ne 8, 3) := by decide +kernel
theorem dX4_taps_29 : decode cX4_taps 29 = .ok (.aload_n 0, 1) := by decide +kernel
theorem dX4_taps_30 : decode cX4_taps 30 = .ok (.getfield 65, 3) := by decide +kernel
theorem dX4_taps_33 : decode cX4_taps 33 = .ok (.ireturn, 1) := by decide +kernel
theorem dX4_taps_34 : decode cX4_taps 34 = .ok (.iload_n 1, 1) := by decide +kernel
theorem dX4_taps_35 : decode cX4_taps 35 = .ok (.iconst 0, 1) := by decide +kernel
theorem dX4_taps_36 : decode cX4_taps 36 = .ok (.aload_n 0, 1) := by decide +kernel
theorem dX4_taps_37 : decode cX4_taps 37 = .ok (.getfield 65, 3) := by decide +kernel
theorem dX4_taps_40 : decode cX4_taps 40 = .ok (.iconst 1, 1) := by decide +kernel
theorem dX4_taps_41 : decode cX4_taps 41 = .ok (.isub, 1) := by decide +kernel
theorem dX4_taps_42 : decode cX4_taps 42 = .ok (.invokestatic 26, 3) := by decide +kernel
theorem dX4_taps_45 : decode cX4_taps 45 = .ok (.ifCond .ne 6, 3) := by decide +kernel
theorem dX4_taps_48 : decode cX4_taps 48 = .ok (.bipush (-6), 2) := by decide +kernel
theorem dX4_taps_50 : decode cX4_taps 50 = .ok (.ireturn, 1) := by decide +kernel
theorem dX4_taps_51 : decode cX4_taps 51 = .ok (.iload_n 2, 1) := by decide +kernel
theorem dX4_taps_52 : decode cX4_taps 52 = .ok (.ifCond .ne 12, 3) := by decide +kernel
theorem dX4_taps_55 : decode cX4_taps 55 = .ok (.aload_n 0, 1) := by decide +kernel
theorem dX4_taps_56 : decode cX4_taps 56 = .ok (.getfield 20, 3) := by decide +kernel
theorem dX4_taps_59 : decode cX4_taps 59 = .ok (.iload_n 1, 1) := by decide +kernel
theorem dX4_taps_60 : decode cX4_taps 60 = .ok (.iaload, 1) := by decide +kernel
theorem dX4_taps_61 : decode cX4_taps 61 = .ok (.goto 35, 3) := by decide +kernel
theorem dX4_taps_64 : decode cX4_taps 64 = .ok (.iload_n 2, 1) := by decide +kernel
theorem dX4_taps_65 : decode cX4_taps 65 = .ok (.iconst 1, 1) := by decide +kernel
theorem dX4_taps_66 : decode cX4_taps 66 = .ok (.if_icmp .ne 12, 3) := by decide +kernel
theorem dX4_taps_69 : decode cX4_taps 69 = .ok (.aload_n 0, 1) := by decide +kernel
theorem dX4_taps_70 : decode cX4_taps 70 = .ok (.getfield 23, 3) := by decide +kernel
theorem dX4_taps_73 : decode cX4_taps 73 = .ok (.iload_n 1, 1) := by decide +kernel
theorem dX4_taps_74 : decode cX4_taps 74 = .ok (.iaload, 1) := by decide +kernel
theorem dX4_taps_75 : decode cX4_taps 75 = .ok (.goto 21, 3) := by decide +kernel
theorem dX4_taps_78 : decode cX4_taps 78 = .ok (.aload_n 0, 1) := by decide +kernel
theorem dX4_taps_79 : decode cX4_taps 79 = .ok (.aload_n 0, 1) := by decide +kernel
theorem dX4_taps_80 : decode cX4_taps 80 = .ok (.getfield 23, 3) := by decide +kernel
theorem dX4_taps_83 : decode cX4_taps 83 = .ok (.iload_n 1, 1) := by decide +kernel
theorem dX4_taps_84 : decode cX4_taps 84 = .ok (.iaload, 1) := by decide +kernel
theorem dX4_taps_85 : decode cX4_taps 85 = .ok (.invokevirtual 79, 3) := by decide +kernel
theorem dX4_taps_88 : decode cX4_taps 88 = .ok (.ifCond .eq 7, 3) := by decide +kernel
theorem dX4_taps_91 : decode cX4_taps 91 = .ok (.iconst 1, 1) := by decide +kernel
theorem dX4_taps_92 : decode cX4_taps 92 = .ok (.goto 4, 3) := by decide +kernel
theorem dX4_taps_95 : decode cX4_taps 95 = .ok (.iconst 0, 1) := by decide +kernel
theorem dX4_taps_96 : decode cX4_taps 96 = .ok (.ireturn, 1) := by decide +kernel
set_option maxRecDepth 20000 in
theorem ggX4_need_X4_in : GoodIn wsX4_need wsX4_in := goodIn_r _ [5] (by decide +kernel) (by decide +kernel)
set_option maxRecDepth 20000 in
theorem gX4_need_X4_in : GoodIn wsX4_need (va_wsS RX4 26 yX4_in wsX4_in) := goodIn_app (goodIn_of _ (by decide +kernel)) ggX4_need_X4_in
set_option maxRecDepth 20000 in
theorem ggX4_need_X4_tapAll : GoodIn wsX4_need wsX4_tapAll := goodIn_r _ [9, 1, 10, 11, 12, 13, 14, 4, 15, 16, 17, 18, 19, 20, 21, 22, 23, 24, 25, 26, 27, 28, 29, 30, 31, 32, 33, 34, 35, 36, 37, 38, 39, 40, 41, 42, 43, 44] (by decide +kernel) (by decide +kernel)
set_option maxRecDepth 20000 in
theorem gX4_need_X4_tapAll : GoodIn wsX4_need (wsV RX4 75 RX4 yX4_tapAll wsX4_tapAll) := goodIn_app (goodIn_of _ (by decide +kernel)) ggX4_need_X4_tapAll
theorem dX4_need_0 : decode cX4_need 0 = .ok (.iload_n 1, 1) := by decide +kernel
theorem dX4_need_1 : decode cX4_need 1 = .ok (.iconst 1, 1) := by decide +kernel
theorem dX4_need_2 : decode cX4_need 2 = .ok (.bipush 30, 2) := by decide +kernel
theorem dX4_need_4 : decode cX4_need 4 = .ok (.invokestatic 26, 3) := by decide +kernel
theorem dX4_need_7 : decode cX4_need 7 = .ok (.ifCond .ne 6, 3) := by decide +kernel
theorem dX4_need_10 : decode cX4_need 10 = .ok (.bipush (-2), 2) := by decide +kernel
theorem dX4_need_12 : decode cX4_need 12 = .ok (.ireturn, 1) := by decide +kernel
theorem dX4_need_13 : decode cX4_need 13 = .ok (.iconst 1, 1) := by decide +kernel
theorem dX4_need_14 : decode cX4_need 14 = .ok (.istore_n 2, 1) := by decide +kernel
theorem dX4_need_15 : decode cX4_need 15 = .ok (.iload_n 2, 1) := by decide +kernel
theorem dX4_need_16 : decode cX4_need 16 = .ok (.bipush 50, 2) := by decide +kernel
theorem dX4_need_18 : decode cX4_need 18 = .ok (.if_icmp .gt 24, 3) := by decide +kernel
theorem dX4_need_21 : decode cX4_need 21 = .ok (.aload_n 0, 1) := by decide +kernel
theorem dX4_need_22 : decode cX4_need 22 = .ok (.iload_n 2, 1) := by decide +kernel
theorem dX4_need_23 : decode cX4_need 23 = .ok (.iload_n 1, 1) := by decide +kernel
theorem dX4_need_24 : decode cX4_need 24 = .ok (.invokevirtual 75, 3) := by decide +kernel
theorem dX4_need_27 : decode cX4_need 27 = .ok (.aload_n 0, 1) := by decide +kernel
theorem dX4_need_28 : decode cX4_need 28 = .ok (.getfield 65, 3) := by decide +kernel
theorem dX4_need_31 : decode cX4_need 31 = .ok (.ifCond .le 5, 3) := by decide +kernel
theorem dX4_need_34 : decode cX4_need 34 = .ok (.iload_n 2, 1) := by decide +kernel
theorem dX4_need_35 : decode cX4_need 35 = .ok (.ireturn, 1) := by decide +kernel
theorem dX4_need_36 : decode cX4_need 36 = .ok (.iinc 2 1, 3) := by decide +kernel
theorem dX4_need_39 : decode cX4_need 39 = .ok (.goto (-24), 3) := by decide +kernel
theorem dX4_need_42 : decode cX4_need 42 = .ok (.bipush (-6), 2) := by decide +kernel
theorem dX4_need_44 : decode cX4_need 44 = .ok (.ireturn, 1) := by decide +kernel
set_option maxRecDepth 20000 in
theorem ggX4_doesGo_X4_shear : GoodIn wsX4_doesGo wsX4_shear := goodIn_r _ [6, 1, 7, 8, 9, 5, 10, 11, 12, 13, 26, 27, 28, 29, 30, 31] (by decide +kernel) (by decide +kernel)
set_option maxRecDepth 20000 in
theorem gX4_doesGo_X4_shear : GoodIn wsX4_doesGo (wsV RX4 37 RX4 yX4_shear wsX4_shear) := goodIn_app (goodIn_of _ (by decide +kernel)) ggX4_doesGo_X4_shear
set_option maxRecDepth 20000 in
theorem ggX4_doesGo_X4_press : GoodIn wsX4_doesGo wsX4_press := goodIn_r _ [17, 18, 19, 20, 5, 21, 1, 11, 12, 13, 26, 27, 28, 29, 30, 31] (by decide +kernel) (by decide +kernel)
set_option maxRecDepth 20000 in
theorem gX4_doesGo_X4_press : GoodIn wsX4_doesGo (wsV RX4 61 RX4 yX4_press wsX4_press) := goodIn_app (goodIn_of _ (by decide +kernel)) ggX4_doesGo_X4_press
set_option maxRecDepth 20000 in
theorem ggX4_doesGo_X4_strength : GoodIn wsX4_doesGo wsX4_strength := goodIn_r _ [25, 1, 11, 12, 5, 13, 26, 27, 28, 29, 30, 31] (by decide +kernel) (by decide +kernel)
set_option maxRecDepth 20000 in
theorem gX4_doesGo_X4_strength : GoodIn wsX4_doesGo (wsV RX4 40 RX4 yX4_strength wsX4_strength) := goodIn_app (goodIn_of _ (by decide +kernel)) ggX4_doesGo_X4_strength
theorem dX4_doesGo_0 : decode cX4_doesGo 0 = .ok (.aload_n 0, 1) := by decide +kernel
theorem dX4_doesGo_1 : decode cX4_doesGo 1 = .ok (.iload_n 1, 1) := by decide +kernel
theorem dX4_doesGo_2 : decode cX4_doesGo 2 = .ok (.iload_n 2, 1) := by decide +kernel
theorem dX4_doesGo_3 : decode cX4_doesGo 3 = .ok (.invokevirtual 37, 3) := by decide +kernel
theorem dX4_doesGo_6 : decode cX4_doesGo 6 = .ok (.aload_n 0, 1) := by decide +kernel
theorem dX4_doesGo_7 : decode cX4_doesGo 7 = .ok (.iload_n 1, 1) := by decide +kernel
theorem dX4_doesGo_8 : decode cX4_doesGo 8 = .ok (.aload_n 0, 1) := by decide +kernel
theorem dX4_doesGo_9 : decode cX4_doesGo 9 = .ok (.getfield 7, 3) := by decide +kernel
theorem dX4_doesGo_12 : decode cX4_doesGo 12 = .ok (.iconst 0, 1) := by decide +kernel
theorem dX4_doesGo_13 : decode cX4_doesGo 13 = .ok (.iaload, 1) := by decide +kernel
theorem dX4_doesGo_14 : decode cX4_doesGo 14 = .ok (.iload_n 3, 1) := by decide +kernel
theorem dX4_doesGo_15 : decode cX4_doesGo 15 = .ok (.invokevirtual 61, 3) := by decide +kernel
theorem dX4_doesGo_18 : decode cX4_doesGo 18 = .ok (.iadd, 1) := by decide +kernel
theorem dX4_doesGo_19 : decode cX4_doesGo 19 = .ok (.aload_n 0, 1) := by decide +kernel
theorem dX4_doesGo_20 : decode cX4_doesGo 20 = .ok (.iload_n 1, 1) := by decide +kernel
theorem dX4_doesGo_21 : decode cX4_doesGo 21 = .ok (.invokevirtual 40, 3) := by decide +kernel
theorem dX4_doesGo_24 : decode cX4_doesGo 24 = .ok (.if_icmp .lt 7, 3) := by decide +kernel
theorem dX4_doesGo_27 : decode cX4_doesGo 27 = .ok (.iconst 1, 1) := by decide +kernel
theorem dX4_doesGo_28 : decode cX4_doesGo 28 = .ok (.goto 4, 3) := by decide +kernel
theorem dX4_doesGo_31 : decode cX4_doesGo 31 = .ok (.iconst 0, 1) := by decide +kernel
theorem dX4_doesGo_32 : decode cX4_doesGo 32 = .ok (.ireturn, 1) := by decide +kernel
set_option maxRecDepth 20000 in
theorem ggX4_goes_X4_isLayer : GoodIn wsX4_goes wsX4_isLayer := goodIn_r _ [5, 6, 7, 8, 4, 9, 44, 45, 46, 47, 48, 49] (by decide +kernel) (by decide +kernel)
set_option maxRecDepth 20000 in
theorem gX4_goes_X4_isLayer : GoodIn wsX4_goes (wsV RX4 47 RX4 yX4_isLayer wsX4_isLayer) := goodIn_app (goodIn_of _ (by decide +kernel)) ggX4_goes_X4_isLayer
set_option maxRecDepth 20000 in
theorem ggX4_goes_X4_isSteep : GoodIn wsX4_goes wsX4_isSteep := goodIn_r _ [12, 7, 8, 4, 9] (by decide +kernel) (by decide +kernel)
set_option maxRecDepth 20000 in
theorem gX4_goes_X4_isSteep : GoodIn wsX4_goes (va_wsS RX4 51 yX4_isSteep wsX4_isSteep) := goodIn_app (goodIn_of _ (by decide +kernel)) ggX4_goes_X4_isSteep
set_option maxRecDepth 20000 in
theorem ggX4_goes_X4_in : GoodIn wsX4_goes wsX4_in := goodIn_r _ [9] (by decide +kernel) (by decide +kernel)
set_option maxRecDepth 20000 in
theorem gX4_goes_X4_in : GoodIn wsX4_goes (va_wsS RX4 26 yX4_in wsX4_in) := goodIn_app (goodIn_of _ (by decide +kernel)) ggX4_goes_X4_in
set_option maxRecDepth 20000 in
theorem ggX4_goes_X4_top : GoodIn wsX4_goes wsX4_top := goodIn_r _ [16, 6, 44, 45, 46, 47, 48, 49] (by decide +kernel) (by decide +kernel)
set_option maxRecDepth 20000 in
theorem gX4_goes_X4_top : GoodIn wsX4_goes (wsV RX4 57 RX4 yX4_top wsX4_top) := goodIn_app (goodIn_of _ (by decide +kernel)) ggX4_goes_X4_top
set_option maxRecDepth 20000 in
theorem ggX4_goes_X4_doesGo : GoodIn wsX4_goes wsX4_doesGo := goodIn_r _ [20, 6, 21, 22, 23, 4, 24, 25, 26, 27, 28, 29, 30, 31, 32, 33, 34, 35, 36, 37, 38, 39, 40, 41, 42, 43, 44, 45, 46, 47, 48, 49] (by decide +kernel) (by decide +kernel)
set_option maxRecDepth 20000 in
theorem gX4_goes_X4_doesGo : GoodIn wsX4_goes (wsV RX4 82 RX4 yX4_doesGo wsX4_doesGo) := goodIn_app (goodIn_of _ (by decide +kernel)) ggX4_goes_X4_doesGo
theorem dX4_goes_0 : decode cX4_goes 0 = .ok (.aload_n 0, 1) := by decide +kernel
theorem dX4_goes_1 : decode cX4_goes 1 = .ok (.iload_n 1, 1) := by decide +kernel
theorem dX4_goes_2 : decode cX4_goes 2 = .ok (.invokevirtual 47, 3) := by decide +kernel
theorem dX4_goes_5 : decode cX4_goes 5 = .ok (.ifCond .ne 5, 3) := by decide +kernel
theorem dX4_goes_8 : decode cX4_goes 8 = .ok (.iconst (-1), 1) := by decide +kernel
theorem dX4_goes_9 : decode cX4_goes 9 = .ok (.ireturn, 1) := by decide +kernel
theorem dX4_goes_10 : decode cX4_goes 10 = .ok (.iload_n 2, 1) := by decide +kernel
theorem dX4_goes_11 : decode cX4_goes 11 = .ok (.invokestatic 51, 3) := by decide +kernel
theorem dX4_goes_14 : decode cX4_goes 14 = .ok (.ifCond .eq 13, 3) := by decide +kernel
theorem dX4_goes_17 : decode cX4_goes 17 = .ok (.iload_n 3, 1) := by decide +kernel
theorem dX4_goes_18 : decode cX4_goes 18 = .ok (.iconst 0, 1) := by decide +kernel
theorem dX4_goes_19 : decode cX4_goes 19 = .ok (.bipush 99, 2) := by decide +kernel
theorem dX4_goes_21 : decode cX4_goes 21 = .ok (.invokestatic 26, 3) := by decide +kernel
theorem dX4_goes_24 : decode cX4_goes 24 = .ok (.ifCond .ne 6, 3) := by decide +kernel
theorem dX4_goes_27 : decode cX4_goes 27 = .ok (.bipush (-2), 2) := by decide +kernel
theorem dX4_goes_29 : decode cX4_goes 29 = .ok (.ireturn, 1) := by decide +kernel
theorem dX4_goes_30 : decode cX4_goes 30 = .ok (.iload_n 1, 1) := by decide +kernel
theorem dX4_goes_31 : decode cX4_goes 31 = .ok (.aload_n 0, 1) := by decide +kernel
theorem dX4_goes_32 : decode cX4_goes 32 = .ok (.invokevirtual 57, 3) := by decide +kernel
theorem dX4_goes_35 : decode cX4_goes 35 = .ok (.if_icmp .ne 6, 3) := by decide +kernel
theorem dX4_goes_38 : decode cX4_goes 38 = .ok (.bipush (-3), 2) := by decide +kernel
theorem dX4_goes_40 : decode cX4_goes 40 = .ok (.ireturn, 1) := by decide +kernel
theorem dX4_goes_41 : decode cX4_goes 41 = .ok (.aload_n 0, 1) := by decide +kernel
theorem dX4_goes_42 : decode cX4_goes 42 = .ok (.iload_n 1, 1) := by decide +kernel
theorem dX4_goes_43 : decode cX4_goes 43 = .ok (.iload_n 2, 1) := by decide +kernel
theorem dX4_goes_44 : decode cX4_goes 44 = .ok (.iload_n 3, 1) := by decide +kernel
theorem dX4_goes_45 : decode cX4_goes 45 = .ok (.invokevirtual 82, 3) := by decide +kernel
theorem dX4_goes_48 : decode cX4_goes 48 = .ok (.ifCond .eq 7, 3) := by decide +kernel
theorem dX4_goes_51 : decode cX4_goes 51 = .ok (.iconst 1, 1) := by decide +kernel
theorem dX4_goes_52 : decode cX4_goes 52 = .ok (.goto 4, 3) := by decide +kernel
theorem dX4_goes_55 : decode cX4_goes 55 = .ok (.iconst 0, 1) := by decide +kernel
theorem dX4_goes_56 : decode cX4_goes 56 = .ok (.ireturn, 1) := by decide +kernel
set_option maxRecDepth 20000 in
theorem ggX4_steep_X4_in : GoodIn wsX4_steep wsX4_in := goodIn_r _ [4] (by decide +kernel) (by decide +kernel)
set_option maxRecDepth 20000 in
theorem gX4_steep_X4_in : GoodIn wsX4_steep (va_wsS RX4 26 yX4_in wsX4_in) := goodIn_app (goodIn_of _ (by decide +kernel)) ggX4_steep_X4_in
set_option maxRecDepth 20000 in
theorem ggX4_steep_X4_top : GoodIn wsX4_steep wsX4_top := goodIn_r _ [8, 9, 37, 38, 39, 40, 41, 42] (by decide +kernel) (by decide +kernel)
set_option maxRecDepth 20000 in
theorem gX4_steep_X4_top : GoodIn wsX4_steep (wsV RX4 57 RX4 yX4_top wsX4_top) := goodIn_app (goodIn_of _ (by decide +kernel)) ggX4_steep_X4_top
set_option maxRecDepth 20000 in
theorem ggX4_steep_X4_doesGo : GoodIn wsX4_steep wsX4_doesGo := goodIn_r _ [13, 9, 14, 15, 16, 3, 17, 18, 19, 20, 21, 22, 23, 24, 25, 26, 27, 28, 29, 30, 31, 32, 33, 34, 35, 36, 37, 38, 39, 40, 41, 42] (by decide +kernel) (by decide +kernel)
set_option maxRecDepth 20000 in
theorem gX4_steep_X4_doesGo : GoodIn wsX4_steep (wsV RX4 82 RX4 yX4_doesGo wsX4_doesGo) := goodIn_app (goodIn_of _ (by decide +kernel)) ggX4_steep_X4_doesGo
theorem dX4_steep_0 : decode cX4_steep 0 = .ok (.iload_n 1, 1) := by decide +kernel
theorem dX4_steep_1 : decode cX4_steep 1 = .ok (.iconst 0, 1) := by decide +kernel
theorem dX4_steep_2 : decode cX4_steep 2 = .ok (.bipush 99, 2) := by decide +kernel
theorem dX4_steep_4 : decode cX4_steep 4 = .ok (.invokestatic 26, 3) := by decide +kernel
theorem dX4_steep_7 : decode cX4_steep 7 = .ok (.ifCond .eq 12, 3) := by decide +kernel
theorem dX4_steep_10 : decode cX4_steep 10 = .ok (.iload_n 2, 1) := by decide +kernel
theorem dX4_steep_11 : decode cX4_steep 11 = .ok (.iconst 0, 1) := by decide +kernel
theorem dX4_steep_12 : decode cX4_steep 12 = .ok (.iconst 1, 1) := by decide +kernel
theorem dX4_steep_13 : decode cX4_steep 13 = .ok (.invokestatic 26, 3) := by decide +kernel
theorem dX4_steep_16 : decode cX4_steep 16 = .ok (.ifCond .ne 6, 3) := by decide +kernel
theorem dX4_steep_19 : decode cX4_steep 19 = .ok (.bipush (-2), 2) := by decide +kernel
theorem dX4_steep_21 : decode cX4_steep 21 = .ok (.ireturn, 1) := by decide +kernel
theorem dX4_steep_22 : decode cX4_steep 22 = .ok (.iconst 0, 1) := by decide +kernel
theorem dX4_steep_23 : decode cX4_steep 23 = .ok (.istore_n 3, 1) := by decide +kernel
theorem dX4_steep_24 : decode cX4_steep 24 = .ok (.iload_n 3, 1) := by decide +kernel
theorem dX4_steep_25 : decode cX4_steep 25 = .ok (.bipush 100, 2) := by decide +kernel
theorem dX4_steep_27 : decode cX4_steep 27 = .ok (.if_icmp .gt 50, 3) := by decide +kernel
theorem dX4_steep_30 : decode cX4_steep 30 = .ok (.aload_n 0, 1) := by decide +kernel
theorem dX4_steep_31 : decode cX4_steep 31 = .ok (.invokevirtual 57, 3) := by decide +kernel
theorem dX4_steep_34 : decode cX4_steep 34 = .ok (.iconst 1, 1) := by decide +kernel
theorem dX4_steep_35 : decode cX4_steep 35 = .ok (.isub, 1) := by decide +kernel
theorem dX4_steep_36 : decode cX4_steep 36 = .ok (.istore 4, 2) := by decide +kernel
theorem dX4_steep_38 : decode cX4_steep 38 = .ok (.iload 4, 2) := by decide +kernel
theorem dX4_steep_40 : decode cX4_steep 40 = .ok (.ifCond .lt 31, 3) := by decide +kernel
theorem dX4_steep_43 : decode cX4_steep 43 = .ok (.aload_n 0, 1) := by decide +kernel
theorem dX4_steep_44 : decode cX4_steep 44 = .ok (.iload 4, 2) := by decide +kernel
theorem dX4_steep_46 : decode cX4_steep 46 = .ok (.iload_n 3, 1) := by decide +kernel
theorem dX4_steep_47 : decode cX4_steep 47 = .ok (.iload_n 1, 1) := by decide +kernel
theorem dX4_steep_48 : decode cX4_steep 48 = .ok (.invokevirtual 82, 3) := by decide +kernel
theorem dX4_steep_51 : decode cX4_steep 51 = .ok (.ifCond .eq 14, 3) := by decide +kernel
theorem dX4_steep_54 : decode cX4_steep 54 = .ok (.iload_n 2, 1) := by decide +kernel
theorem dX4_steep_55 : decode cX4_steep 55 = .ok (.ifCond .ne 7, 3) := by decide +kernel
theorem dX4_steep_58 : decode cX4_steep 58 = .ok (.iload_n 3, 1) := by decide +kernel
theorem dX4_steep_59 : decode cX4_steep 59 = .ok (.goto 5, 3) := by decide +kernel
theorem dX4_steep_62 : decode cX4_steep 62 = .ok (.iload 4, 2) := by decide +kernel
theorem dX4_steep_64 : decode cX4_steep 64 = .ok (.ireturn, 1) := by decide +kernel
theorem dX4_steep_65 : decode cX4_steep 65 = .ok (.iinc 4 (-1), 3) := by decide +kernel
theorem dX4_steep_68 : decode cX4_steep 68 = .ok (.goto (-30), 3) := by decide +kernel
theorem dX4_steep_71 : decode cX4_steep 71 = .ok (.iinc 3 1, 3) := by decide +kernel
theorem dX4_steep_74 : decode cX4_steep 74 = .ok (.goto (-50), 3) := by decide +kernel
theorem dX4_steep_77 : decode cX4_steep 77 = .ok (.bipush (-6), 2) := by decide +kernel
theorem dX4_steep_79 : decode cX4_steep 79 = .ok (.ireturn, 1) := by decide +kernel
set_option maxRecDepth 20000 in
theorem ggX4_pack_X4_in : GoodIn wsX4_pack wsX4_in := goodIn_r _ [5] (by decide +kernel) (by decide +kernel)
set_option maxRecDepth 20000 in
theorem gX4_pack_X4_in : GoodIn wsX4_pack (va_wsS RX4 26 yX4_in wsX4_in) := goodIn_app (goodIn_of _ (by decide +kernel)) ggX4_pack_X4_in
set_option maxRecDepth 20000 in
theorem ggX4_pack_X4_top : GoodIn wsX4_pack wsX4_top := goodIn_r _ [9, 1, 13, 14, 15, 16, 17, 18] (by decide +kernel) (by decide +kernel)
set_option maxRecDepth 20000 in
theorem gX4_pack_X4_top : GoodIn wsX4_pack (wsV RX4 57 RX4 yX4_top wsX4_top) := goodIn_app (goodIn_of _ (by decide +kernel)) ggX4_pack_X4_top
set_option maxRecDepth 20000 in
theorem ggX4_pack_X4_at : GoodIn wsX4_pack wsX4_at := goodIn_r _ [12] (by decide +kernel) (by decide +kernel)
set_option maxRecDepth 20000 in
theorem gX4_pack_X4_at : GoodIn wsX4_pack (va_wsS RX4 30 yX4_at wsX4_at) := goodIn_app (goodIn_of _ (by decide +kernel)) ggX4_pack_X4_at
theorem dX4_pack_0 : decode cX4_pack 0 = .ok (.iload_n 1, 1) := by decide +kernel
theorem dX4_pack_1 : decode cX4_pack 1 = .ok (.iconst 1, 1) := by decide +kernel
theorem dX4_pack_2 : decode cX4_pack 2 = .ok (.sipush 200, 3) := by decide +kernel
theorem dX4_pack_5 : decode cX4_pack 5 = .ok (.invokestatic 26, 3) := by decide +kernel
theorem dX4_pack_8 : decode cX4_pack 8 = .ok (.ifCond .ne 6, 3) := by decide +kernel
theorem dX4_pack_11 : decode cX4_pack 11 = .ok (.bipush (-2), 2) := by decide +kernel
theorem dX4_pack_13 : decode cX4_pack 13 = .ok (.ireturn, 1) := by decide +kernel
theorem dX4_pack_14 : decode cX4_pack 14 = .ok (.aload_n 0, 1) := by decide +kernel
theorem dX4_pack_15 : decode cX4_pack 15 = .ok (.getfield 7, 3) := by decide +kernel
theorem dX4_pack_18 : decode cX4_pack 18 = .ok (.iconst 0, 1) := by decide +kernel
theorem dX4_pack_19 : decode cX4_pack 19 = .ok (.iaload, 1) := by decide +kernel
theorem dX4_pack_20 : decode cX4_pack 20 = .ok (.ifCond .ne 6, 3) := by decide +kernel
theorem dX4_pack_23 : decode cX4_pack 23 = .ok (.bipush (-3), 2) := by decide +kernel
theorem dX4_pack_25 : decode cX4_pack 25 = .ok (.ireturn, 1) := by decide +kernel
theorem dX4_pack_26 : decode cX4_pack 26 = .ok (.aload_n 0, 1) := by decide +kernel
theorem dX4_pack_27 : decode cX4_pack 27 = .ok (.getfield 7, 3) := by decide +kernel
theorem dX4_pack_30 : decode cX4_pack 30 = .ok (.aload_n 0, 1) := by decide +kernel
theorem dX4_pack_31 : decode cX4_pack 31 = .ok (.invokevirtual 57, 3) := by decide +kernel
theorem dX4_pack_34 : decode cX4_pack 34 = .ok (.iconst 1, 1) := by decide +kernel
theorem dX4_pack_35 : decode cX4_pack 35 = .ok (.invokestatic 30, 3) := by decide +kernel
theorem dX4_pack_38 : decode cX4_pack 38 = .ok (.iaload, 1) := by decide +kernel
theorem dX4_pack_39 : decode cX4_pack 39 = .ok (.istore_n 2, 1) := by decide +kernel
theorem dX4_pack_40 : decode cX4_pack 40 = .ok (.iload_n 2, 1) := by decide +kernel
theorem dX4_pack_41 : decode cX4_pack 41 = .ok (.iload_n 1, 1) := by decide +kernel
theorem dX4_pack_42 : decode cX4_pack 42 = .ok (.iadd, 1) := by decide +kernel
theorem dX4_pack_43 : decode cX4_pack 43 = .ok (.sipush 600, 3) := by decide +kernel
theorem dX4_pack_46 : decode cX4_pack 46 = .ok (.if_icmp .le 9, 3) := by decide +kernel
theorem dX4_pack_49 : decode cX4_pack 49 = .ok (.sipush 600, 3) := by decide +kernel
theorem dX4_pack_52 : decode cX4_pack 52 = .ok (.goto 6, 3) := by decide +kernel
theorem dX4_pack_55 : decode cX4_pack 55 = .ok (.iload_n 2, 1) := by decide +kernel
theorem dX4_pack_56 : decode cX4_pack 56 = .ok (.iload_n 1, 1) := by decide +kernel
theorem dX4_pack_57 : decode cX4_pack 57 = .ok (.iadd, 1) := by decide +kernel
theorem dX4_pack_58 : decode cX4_pack 58 = .ok (.istore_n 3, 1) := by decide +kernel
theorem dX4_pack_59 : decode cX4_pack 59 = .ok (.aload_n 0, 1) := by decide +kernel
theorem dX4_pack_60 : decode cX4_pack 60 = .ok (.getfield 7, 3) := by decide +kernel
theorem dX4_pack_63 : decode cX4_pack 63 = .ok (.aload_n 0, 1) := by decide +kernel
theorem dX4_pack_64 : decode cX4_pack 64 = .ok (.invokevirtual 57, 3) := by decide +kernel
theorem dX4_pack_67 : decode cX4_pack 67 = .ok (.iconst 0, 1) := by decide +kernel
theorem dX4_pack_68 : decode cX4_pack 68 = .ok (.invokestatic 30, 3) := by decide +kernel
theorem dX4_pack_71 : decode cX4_pack 71 = .ok (.iaload, 1) := by decide +kernel
theorem dX4_pack_72 : decode cX4_pack 72 = .ok (.iload_n 2, 1) := by decide +kernel
theorem dX4_pack_73 : decode cX4_pack 73 = .ok (.imul, 1) := by decide +kernel
theorem dX4_pack_74 : decode cX4_pack 74 = .ok (.iload_n 3, 1) := by decide +kernel
theorem dX4_pack_75 : decode cX4_pack 75 = .ok (.idiv, 1) := by decide +kernel
theorem dX4_pack_76 : decode cX4_pack 76 = .ok (.istore 4, 2) := by decide +kernel
theorem dX4_pack_78 : decode cX4_pack 78 = .ok (.aload_n 0, 1) := by decide +kernel
theorem dX4_pack_79 : decode cX4_pack 79 = .ok (.getfield 7, 3) := by decide +kernel
theorem dX4_pack_82 : decode cX4_pack 82 = .ok (.aload_n 0, 1) := by decide +kernel
theorem dX4_pack_83 : decode cX4_pack 83 = .ok (.invokevirtual 57, 3) := by decide +kernel
theorem dX4_pack_86 : decode cX4_pack 86 = .ok (.iconst 1, 1) := by decide +kernel
theorem dX4_pack_87 : decode cX4_pack 87 = .ok (.invokestatic 30, 3) := by decide +kernel
theorem dX4_pack_90 : decode cX4_pack 90 = .ok (.iload_n 3, 1) := by decide +kernel
theorem dX4_pack_91 : decode cX4_pack 91 = .ok (.iastore, 1) := by decide +kernel
theorem dX4_pack_92 : decode cX4_pack 92 = .ok (.aload_n 0, 1) := by decide +kernel
theorem dX4_pack_93 : decode cX4_pack 93 = .ok (.getfield 7, 3) := by decide +kernel
theorem dX4_pack_96 : decode cX4_pack 96 = .ok (.aload_n 0, 1) := by decide +kernel
theorem dX4_pack_97 : decode cX4_pack 97 = .ok (.invokevirtual 57, 3) := by decide +kernel
theorem dX4_pack_100 : decode cX4_pack 100 = .ok (.iconst 0, 1) := by decide +kernel
theorem dX4_pack_101 : decode cX4_pack 101 = .ok (.invokestatic 30, 3) := by decide +kernel
theorem dX4_pack_104 : decode cX4_pack 104 = .ok (.iload 4, 2) := by decide +kernel
theorem dX4_pack_106 : decode cX4_pack 106 = .ok (.iconst 1, 1) := by decide +kernel
theorem dX4_pack_107 : decode cX4_pack 107 = .ok (.if_icmp .ge 7, 3) := by decide +kernel
theorem dX4_pack_110 : decode cX4_pack 110 = .ok (.iconst 1, 1) := by decide +kernel
theorem dX4_pack_111 : decode cX4_pack 111 = .ok (.goto 5, 3) := by decide +kernel
theorem dX4_pack_114 : decode cX4_pack 114 = .ok (.iload 4, 2) := by decide +kernel
theorem dX4_pack_116 : decode cX4_pack 116 = .ok (.iastore, 1) := by decide +kernel
theorem dX4_pack_117 : decode cX4_pack 117 = .ok (.aload_n 0, 1) := by decide +kernel
theorem dX4_pack_118 : decode cX4_pack 118 = .ok (.getfield 7, 3) := by decide +kernel
theorem dX4_pack_121 : decode cX4_pack 121 = .ok (.aload_n 0, 1) := by decide +kernel
theorem dX4_pack_122 : decode cX4_pack 122 = .ok (.invokevirtual 57, 3) := by decide +kernel
theorem dX4_pack_125 : decode cX4_pack 125 = .ok (.iconst 3, 1) := by decide +kernel
theorem dX4_pack_126 : decode cX4_pack 126 = .ok (.invokestatic 30, 3) := by decide +kernel
theorem dX4_pack_129 : decode cX4_pack 129 = .ok (.dup2, 1) := by decide +kernel
theorem dX4_pack_130 : decode cX4_pack 130 = .ok (.iaload, 1) := by decide +kernel
theorem dX4_pack_131 : decode cX4_pack 131 = .ok (.aload_n 0, 1) := by decide +kernel
theorem dX4_pack_132 : decode cX4_pack 132 = .ok (.getfield 7, 3) := by decide +kernel
theorem dX4_pack_135 : decode cX4_pack 135 = .ok (.aload_n 0, 1) := by decide +kernel
theorem dX4_pack_136 : decode cX4_pack 136 = .ok (.invokevirtual 57, 3) := by decide +kernel
theorem dX4_pack_139 : decode cX4_pack 139 = .ok (.iconst 3, 1) := by decide +kernel
theorem dX4_pack_140 : decode cX4_pack 140 = .ok (.invokestatic 30, 3) := by decide +kernel
theorem dX4_pack_143 : decode cX4_pack 143 = .ok (.iaload, 1) := by decide +kernel
theorem dX4_pack_144 : decode cX4_pack 144 = .ok (.iconst 5, 1) := by decide +kernel
theorem dX4_pack_145 : decode cX4_pack 145 = .ok (.if_icmp .ge 7, 3) := by decide +kernel
theorem dX4_pack_148 : decode cX4_pack 148 = .ok (.iconst 1, 1) := by decide +kernel
theorem dX4_pack_149 : decode cX4_pack 149 = .ok (.goto 4, 3) := by decide +kernel
theorem dX4_pack_152 : decode cX4_pack 152 = .ok (.iconst 0, 1) := by decide +kernel
theorem dX4_pack_153 : decode cX4_pack 153 = .ok (.iadd, 1) := by decide +kernel
theorem dX4_pack_154 : decode cX4_pack 154 = .ok (.iastore, 1) := by decide +kernel
theorem dX4_pack_155 : decode cX4_pack 155 = .ok (.aload_n 0, 1) := by decide +kernel
theorem dX4_pack_156 : decode cX4_pack 156 = .ok (.getfield 7, 3) := by decide +kernel
theorem dX4_pack_159 : decode cX4_pack 159 = .ok (.aload_n 0, 1) := by decide +kernel
theorem dX4_pack_160 : decode cX4_pack 160 = .ok (.invokevirtual 57, 3) := by decide +kernel
theorem dX4_pack_163 : decode cX4_pack 163 = .ok (.iconst 3, 1) := by decide +kernel
theorem dX4_pack_164 : decode cX4_pack 164 = .ok (.invokestatic 30, 3) := by decide +kernel
theorem dX4_pack_167 : decode cX4_pack 167 = .ok (.iaload, 1) := by decide +kernel
theorem dX4_pack_168 : decode cX4_pack 168 = .ok (.ireturn, 1) := by decide +kernel
set_option maxRecDepth 20000 in
theorem ggX4_allThick_X4_depth : GoodIn wsX4_allThick wsX4_depth := goodIn_r _ [6, 1, 7, 8, 5, 9, 10, 11, 12, 13, 14, 15] (by decide +kernel) (by decide +kernel)
set_option maxRecDepth 20000 in
theorem gX4_allThick_X4_depth : GoodIn wsX4_allThick (wsV RX4 44 RX4 yX4_depth wsX4_depth) := goodIn_app (goodIn_of _ (by decide +kernel)) ggX4_allThick_X4_depth
theorem dX4_allThick_0 : decode cX4_allThick 0 = .ok (.aload_n 0, 1) := by decide +kernel
theorem dX4_allThick_1 : decode cX4_allThick 1 = .ok (.iconst (-1), 1) := by decide +kernel
theorem dX4_allThick_2 : decode cX4_allThick 2 = .ok (.aload_n 0, 1) := by decide +kernel
theorem dX4_allThick_3 : decode cX4_allThick 3 = .ok (.getfield 7, 3) := by decide +kernel
theorem dX4_allThick_6 : decode cX4_allThick 6 = .ok (.iconst 0, 1) := by decide +kernel
theorem dX4_allThick_7 : decode cX4_allThick 7 = .ok (.iaload, 1) := by decide +kernel
theorem dX4_allThick_8 : decode cX4_allThick 8 = .ok (.invokevirtual 44, 3) := by decide +kernel
theorem dX4_allThick_11 : decode cX4_allThick 11 = .ok (.ireturn, 1) := by decide +kernel
set_option maxRecDepth 20000 in
theorem ggX4_settleOne_X4_at : GoodIn wsX4_settleOne wsX4_at := goodIn_r _ [5] (by decide +kernel) (by decide +kernel)
set_option maxRecDepth 20000 in
theorem gX4_settleOne_X4_at : GoodIn wsX4_settleOne (va_wsS RX4 30 yX4_at wsX4_at) := goodIn_app (goodIn_of _ (by decide +kernel)) ggX4_settleOne_X4_at
theorem dX4_settleOne_0 : decode cX4_settleOne 0 = .ok (.aload_n 0, 1) := by decide +kernel
theorem dX4_settleOne_1 : decode cX4_settleOne 1 = .ok (.getfield 7, 3) := by decide +kernel
theorem dX4_settleOne_4 : decode cX4_settleOne 4 = .ok (.iload_n 1, 1) := by decide +kernel
theorem dX4_settleOne_5 : decode cX4_settleOne 5 = .ok (.iconst 0, 1) := by decide +kernel
theorem dX4_settleOne_6 : decode cX4_settleOne 6 = .ok (.invokestatic 30, 3) := by decide +kernel
theorem dX4_settleOne_9 : decode cX4_settleOne 9 = .ok (.iaload, 1) := by decide +kernel
theorem dX4_settleOne_10 : decode cX4_settleOne 10 = .ok (.aload_n 0, 1) := by decide +kernel
theorem dX4_settleOne_11 : decode cX4_settleOne 11 = .ok (.getfield 7, 3) := by decide +kernel
theorem dX4_settleOne_14 : decode cX4_settleOne 14 = .ok (.iload_n 1, 1) := by decide +kernel
theorem dX4_settleOne_15 : decode cX4_settleOne 15 = .ok (.iconst 1, 1) := by decide +kernel
theorem dX4_settleOne_16 : decode cX4_settleOne 16 = .ok (.invokestatic 30, 3) := by decide +kernel
theorem dX4_settleOne_19 : decode cX4_settleOne 19 = .ok (.iaload, 1) := by decide +kernel
theorem dX4_settleOne_20 : decode cX4_settleOne 20 = .ok (.imul, 1) := by decide +kernel
theorem dX4_settleOne_21 : decode cX4_settleOne 21 = .ok (.istore_n 3, 1) := by decide +kernel
theorem dX4_settleOne_22 : decode cX4_settleOne 22 = .ok (.aload_n 0, 1) := by decide +kernel
theorem dX4_settleOne_23 : decode cX4_settleOne 23 = .ok (.getfield 7, 3) := by decide +kernel
theorem dX4_settleOne_26 : decode cX4_settleOne 26 = .ok (.iload_n 1, 1) := by decide +kernel
theorem dX4_settleOne_27 : decode cX4_settleOne 27 = .ok (.iconst 0, 1) := by decide +kernel
theorem dX4_settleOne_28 : decode cX4_settleOne 28 = .ok (.invokestatic 30, 3) := by decide +kernel
theorem dX4_settleOne_31 : decode cX4_settleOne 31 = .ok (.iaload, 1) := by decide +kernel
theorem dX4_settleOne_32 : decode cX4_settleOne 32 = .ok (.bipush 100, 2) := by decide +kernel
theorem dX4_settleOne_34 : decode cX4_settleOne 34 = .ok (.iload_n 2, 1) := by decide +kernel
theorem dX4_settleOne_35 : decode cX4_settleOne 35 = .ok (.isub, 1) := by decide +kernel
theorem dX4_settleOne_36 : decode cX4_settleOne 36 = .ok (.imul, 1) := by decide +kernel
theorem dX4_settleOne_37 : decode cX4_settleOne 37 = .ok (.bipush 100, 2) := by decide +kernel
theorem dX4_settleOne_39 : decode cX4_settleOne 39 = .ok (.idiv, 1) := by decide +kernel
theorem dX4_settleOne_40 : decode cX4_settleOne 40 = .ok (.istore 4, 2) := by decide +kernel
theorem dX4_settleOne_42 : decode cX4_settleOne 42 = .ok (.iload 4, 2) := by decide +kernel
theorem dX4_settleOne_44 : decode cX4_settleOne 44 = .ok (.iconst 1, 1) := by decide +kernel
theorem dX4_settleOne_45 : decode cX4_settleOne 45 = .ok (.if_icmp .ge 7, 3) := by decide +kernel
theorem dX4_settleOne_48 : decode cX4_settleOne 48 = .ok (.iconst 1, 1) := by decide +kernel
theorem dX4_settleOne_49 : decode cX4_settleOne 49 = .ok (.goto 5, 3) := by decide +kernel
theorem dX4_settleOne_52 : decode cX4_settleOne 52 = .ok (.iload 4, 2) := by decide +kernel
theorem dX4_settleOne_54 : decode cX4_settleOne 54 = .ok (.istore 4, 2) := by decide +kernel
theorem dX4_settleOne_56 : decode cX4_settleOne 56 = .ok (.iload_n 3, 1) := by decide +kernel
theorem dX4_settleOne_57 : decode cX4_settleOne 57 = .ok (.iload 4, 2) := by decide +kernel
theorem dX4_settleOne_59 : decode cX4_settleOne 59 = .ok (.idiv, 1) := by decide +kernel
theorem dX4_settleOne_60 : decode cX4_settleOne 60 = .ok (.istore 5, 2) := by decide +kernel
theorem dX4_settleOne_62 : decode cX4_settleOne 62 = .ok (.aload_n 0, 1) := by decide +kernel
theorem dX4_settleOne_63 : decode cX4_settleOne 63 = .ok (.getfield 7, 3) := by decide +kernel
theorem dX4_settleOne_66 : decode cX4_settleOne 66 = .ok (.iload_n 1, 1) := by decide +kernel
theorem dX4_settleOne_67 : decode cX4_settleOne 67 = .ok (.iconst 0, 1) := by decide +kernel
theorem dX4_settleOne_68 : decode cX4_settleOne 68 = .ok (.invokestatic 30, 3) := by decide +kernel
theorem dX4_settleOne_71 : decode cX4_settleOne 71 = .ok (.iload 4, 2) := by decide +kernel
theorem dX4_settleOne_73 : decode cX4_settleOne 73 = .ok (.iastore, 1) := by decide +kernel
theorem dX4_settleOne_74 : decode cX4_settleOne 74 = .ok (.aload_n 0, 1) := by decide +kernel
theorem dX4_settleOne_75 : decode cX4_settleOne 75 = .ok (.getfield 7, 3) := by decide +kernel
theorem dX4_settleOne_78 : decode cX4_settleOne 78 = .ok (.iload_n 1, 1) := by decide +kernel
theorem dX4_settleOne_79 : decode cX4_settleOne 79 = .ok (.iconst 1, 1) := by decide +kernel
theorem dX4_settleOne_80 : decode cX4_settleOne 80 = .ok (.invokestatic 30, 3) := by decide +kernel
theorem dX4_settleOne_83 : decode cX4_settleOne 83 = .ok (.iload 5, 2) := by decide +kernel
theorem dX4_settleOne_85 : decode cX4_settleOne 85 = .ok (.sipush 600, 3) := by decide +kernel
theorem dX4_settleOne_88 : decode cX4_settleOne 88 = .ok (.if_icmp .le 9, 3) := by decide +kernel
theorem dX4_settleOne_91 : decode cX4_settleOne 91 = .ok (.sipush 600, 3) := by decide +kernel
theorem dX4_settleOne_94 : decode cX4_settleOne 94 = .ok (.goto 5, 3) := by decide +kernel
theorem dX4_settleOne_97 : decode cX4_settleOne 97 = .ok (.iload 5, 2) := by decide +kernel
theorem dX4_settleOne_99 : decode cX4_settleOne 99 = .ok (.iastore, 1) := by decide +kernel
theorem dX4_settleOne_100 : decode cX4_settleOne 100 = .ok (.return_, 1) := by decide +kernel
set_option maxRecDepth 20000 in
theorem ggX4_settle_X4_in : GoodIn wsX4_settle wsX4_in := goodIn_r _ [5] (by decide +kernel) (by decide +kernel)
set_option maxRecDepth 20000 in
theorem gX4_settle_X4_in : GoodIn wsX4_settle (va_wsS RX4 26 yX4_in wsX4_in) := goodIn_app (goodIn_of _ (by decide +kernel)) ggX4_settle_X4_in
set_option maxRecDepth 20000 in
theorem ggX4_settle_X4_at : GoodIn wsX4_settle wsX4_at := goodIn_r _ [8] (by decide +kernel) (by decide +kernel)
set_option maxRecDepth 20000 in
theorem gX4_settle_X4_at : GoodIn wsX4_settle (va_wsS RX4 30 yX4_at wsX4_at) := goodIn_app (goodIn_of _ (by decide +kernel)) ggX4_settle_X4_at
set_option maxRecDepth 20000 in
theorem ggX4_settle_X4_settleOne : GoodIn wsX4_settle wsX4_settleOne := goodIn_r _ [12, 1, 6, 7, 4, 8, 21, 22, 23, 24, 25, 26] (by decide +kernel) (by decide +kernel)
set_option maxRecDepth 20000 in
theorem gX4_settle_X4_settleOne : GoodIn wsX4_settle (wsV RX4 85 RX4 yX4_settleOne wsX4_settleOne) := goodIn_app (goodIn_of _ (by decide +kernel)) ggX4_settle_X4_settleOne
set_option maxRecDepth 20000 in
theorem ggX4_settle_X4_allThick : GoodIn wsX4_settle wsX4_allThick := goodIn_r _ [16, 1, 17, 18, 19, 4, 20, 6, 7, 8, 21, 22, 23, 24, 25, 26] (by decide +kernel) (by decide +kernel)
set_option maxRecDepth 20000 in
theorem gX4_settle_X4_allThick : GoodIn wsX4_settle (wsV RX4 88 RX4 yX4_allThick wsX4_allThick) := goodIn_app (goodIn_of _ (by decide +kernel)) ggX4_settle_X4_allThick
theorem dX4_settle_0 : decode cX4_settle 0 = .ok (.iload_n 1, 1) := by decide +kernel
theorem dX4_settle_1 : decode cX4_settle 1 = .ok (.iconst 1, 1) := by decide +kernel
theorem dX4_settle_2 : decode cX4_settle 2 = .ok (.bipush 50, 2) := by decide +kernel
theorem dX4_settle_4 : decode cX4_settle 4 = .ok (.invokestatic 26, 3) := by decide +kernel
theorem dX4_settle_7 : decode cX4_settle 7 = .ok (.ifCond .ne 6, 3) := by decide +kernel
theorem dX4_settle_10 : decode cX4_settle 10 = .ok (.bipush (-2), 2) := by decide +kernel
theorem dX4_settle_12 : decode cX4_settle 12 = .ok (.ireturn, 1) := by decide +kernel
theorem dX4_settle_13 : decode cX4_settle 13 = .ok (.aload_n 0, 1) := by decide +kernel
theorem dX4_settle_14 : decode cX4_settle 14 = .ok (.getfield 7, 3) := by decide +kernel
theorem dX4_settle_17 : decode cX4_settle 17 = .ok (.iconst 0, 1) := by decide +kernel
theorem dX4_settle_18 : decode cX4_settle 18 = .ok (.iaload, 1) := by decide +kernel
theorem dX4_settle_19 : decode cX4_settle 19 = .ok (.ifCond .ne 6, 3) := by decide +kernel
theorem dX4_settle_22 : decode cX4_settle 22 = .ok (.bipush (-3), 2) := by decide +kernel
theorem dX4_settle_24 : decode cX4_settle 24 = .ok (.ireturn, 1) := by decide +kernel
theorem dX4_settle_25 : decode cX4_settle 25 = .ok (.iconst 0, 1) := by decide +kernel
theorem dX4_settle_26 : decode cX4_settle 26 = .ok (.istore_n 2, 1) := by decide +kernel
theorem dX4_settle_27 : decode cX4_settle 27 = .ok (.iload_n 2, 1) := by decide +kernel
theorem dX4_settle_28 : decode cX4_settle 28 = .ok (.aload_n 0, 1) := by decide +kernel
theorem dX4_settle_29 : decode cX4_settle 29 = .ok (.getfield 7, 3) := by decide +kernel
theorem dX4_settle_32 : decode cX4_settle 32 = .ok (.iconst 0, 1) := by decide +kernel
theorem dX4_settle_33 : decode cX4_settle 33 = .ok (.iaload, 1) := by decide +kernel
theorem dX4_settle_34 : decode cX4_settle 34 = .ok (.if_icmp .ge 29, 3) := by decide +kernel
theorem dX4_settle_37 : decode cX4_settle 37 = .ok (.aload_n 0, 1) := by decide +kernel
theorem dX4_settle_38 : decode cX4_settle 38 = .ok (.getfield 7, 3) := by decide +kernel
theorem dX4_settle_41 : decode cX4_settle 41 = .ok (.iload_n 2, 1) := by decide +kernel
theorem dX4_settle_42 : decode cX4_settle 42 = .ok (.iconst 2, 1) := by decide +kernel
theorem dX4_settle_43 : decode cX4_settle 43 = .ok (.invokestatic 30, 3) := by decide +kernel
theorem dX4_settle_46 : decode cX4_settle 46 = .ok (.iaload, 1) := by decide +kernel
theorem dX4_settle_47 : decode cX4_settle 47 = .ok (.iconst 4, 1) := by decide +kernel
theorem dX4_settle_48 : decode cX4_settle 48 = .ok (.if_icmp .eq 9, 3) := by decide +kernel
theorem dX4_settle_51 : decode cX4_settle 51 = .ok (.aload_n 0, 1) := by decide +kernel
theorem dX4_settle_52 : decode cX4_settle 52 = .ok (.iload_n 2, 1) := by decide +kernel
theorem dX4_settle_53 : decode cX4_settle 53 = .ok (.iload_n 1, 1) := by decide +kernel
theorem dX4_settle_54 : decode cX4_settle 54 = .ok (.invokevirtual 85, 3) := by decide +kernel
theorem dX4_settle_57 : decode cX4_settle 57 = .ok (.iinc 2 1, 3) := by decide +kernel
theorem dX4_settle_60 : decode cX4_settle 60 = .ok (.goto (-33), 3) := by decide +kernel
theorem dX4_settle_63 : decode cX4_settle 63 = .ok (.aload_n 0, 1) := by decide +kernel
theorem dX4_settle_64 : decode cX4_settle 64 = .ok (.invokevirtual 88, 3) := by decide +kernel
theorem dX4_settle_67 : decode cX4_settle 67 = .ok (.ireturn, 1) := by decide +kernel
set_option maxRecDepth 20000 in
theorem ggX4_melt_X4_in : GoodIn wsX4_melt wsX4_in := goodIn_r _ [5] (by decide +kernel) (by decide +kernel)
set_option maxRecDepth 20000 in
theorem gX4_melt_X4_in : GoodIn wsX4_melt (va_wsS RX4 26 yX4_in wsX4_in) := goodIn_app (goodIn_of _ (by decide +kernel)) ggX4_melt_X4_in
set_option maxRecDepth 20000 in
theorem ggX4_melt_X4_top : GoodIn wsX4_melt wsX4_top := goodIn_r _ [9, 1, 13, 14, 15, 16, 17, 18] (by decide +kernel) (by decide +kernel)
set_option maxRecDepth 20000 in
theorem gX4_melt_X4_top : GoodIn wsX4_melt (wsV RX4 57 RX4 yX4_top wsX4_top) := goodIn_app (goodIn_of _ (by decide +kernel)) ggX4_melt_X4_top
set_option maxRecDepth 20000 in
theorem ggX4_melt_X4_at : GoodIn wsX4_melt wsX4_at := goodIn_r _ [12] (by decide +kernel) (by decide +kernel)
set_option maxRecDepth 20000 in
theorem gX4_melt_X4_at : GoodIn wsX4_melt (va_wsS RX4 30 yX4_at wsX4_at) := goodIn_app (goodIn_of _ (by decide +kernel)) ggX4_melt_X4_at
theorem dX4_melt_0 : decode cX4_melt 0 = .ok (.iload_n 1, 1) := by decide +kernel
theorem dX4_melt_1 : decode cX4_melt 1 = .ok (.iconst 1, 1) := by decide +kernel
theorem dX4_melt_2 : decode cX4_melt 2 = .ok (.sipush 300, 3) := by decide +kernel
theorem dX4_melt_5 : decode cX4_melt 5 = .ok (.invokestatic 26, 3) := by decide +kernel
theorem dX4_melt_8 : decode cX4_melt 8 = .ok (.ifCond .ne 6, 3) := by decide +kernel
theorem dX4_melt_11 : decode cX4_melt 11 = .ok (.bipush (-2), 2) := by decide +kernel
theorem dX4_melt_13 : decode cX4_melt 13 = .ok (.ireturn, 1) := by decide +kernel
theorem dX4_melt_14 : decode cX4_melt 14 = .ok (.aload_n 0, 1) := by decide +kernel
theorem dX4_melt_15 : decode cX4_melt 15 = .ok (.getfield 7, 3) := by decide +kernel
theorem dX4_melt_18 : decode cX4_melt 18 = .ok (.iconst 0, 1) := by decide +kernel
theorem dX4_melt_19 : decode cX4_melt 19 = .ok (.iaload, 1) := by decide +kernel
theorem dX4_melt_20 : decode cX4_melt 20 = .ok (.ifCond .ne 6, 3) := by decide +kernel
theorem dX4_melt_23 : decode cX4_melt 23 = .ok (.bipush (-3), 2) := by decide +kernel
theorem dX4_melt_25 : decode cX4_melt 25 = .ok (.ireturn, 1) := by decide +kernel
theorem dX4_melt_26 : decode cX4_melt 26 = .ok (.iload_n 1, 1) := by decide +kernel
theorem dX4_melt_27 : decode cX4_melt 27 = .ok (.istore_n 2, 1) := by decide +kernel
theorem dX4_melt_28 : decode cX4_melt 28 = .ok (.aload_n 0, 1) := by decide +kernel
theorem dX4_melt_29 : decode cX4_melt 29 = .ok (.getfield 7, 3) := by decide +kernel
theorem dX4_melt_32 : decode cX4_melt 32 = .ok (.iconst 0, 1) := by decide +kernel
theorem dX4_melt_33 : decode cX4_melt 33 = .ok (.iaload, 1) := by decide +kernel
theorem dX4_melt_34 : decode cX4_melt 34 = .ok (.ifCond .le 49, 3) := by decide +kernel
theorem dX4_melt_37 : decode cX4_melt 37 = .ok (.aload_n 0, 1) := by decide +kernel
theorem dX4_melt_38 : decode cX4_melt 38 = .ok (.getfield 7, 3) := by decide +kernel
theorem dX4_melt_41 : decode cX4_melt 41 = .ok (.aload_n 0, 1) := by decide +kernel
theorem dX4_melt_42 : decode cX4_melt 42 = .ok (.invokevirtual 57, 3) := by decide +kernel
theorem dX4_melt_45 : decode cX4_melt 45 = .ok (.iconst 0, 1) := by decide +kernel
theorem dX4_melt_46 : decode cX4_melt 46 = .ok (.invokestatic 30, 3) := by decide +kernel
theorem dX4_melt_49 : decode cX4_melt 49 = .ok (.iaload, 1) := by decide +kernel
theorem dX4_melt_50 : decode cX4_melt 50 = .ok (.iload_n 2, 1) := by decide +kernel
theorem dX4_melt_51 : decode cX4_melt 51 = .ok (.if_icmp .gt 32, 3) := by decide +kernel
theorem dX4_melt_54 : decode cX4_melt 54 = .ok (.iload_n 2, 1) := by decide +kernel
theorem dX4_melt_55 : decode cX4_melt 55 = .ok (.aload_n 0, 1) := by decide +kernel
theorem dX4_melt_56 : decode cX4_melt 56 = .ok (.getfield 7, 3) := by decide +kernel
theorem dX4_melt_59 : decode cX4_melt 59 = .ok (.aload_n 0, 1) := by decide +kernel
theorem dX4_melt_60 : decode cX4_melt 60 = .ok (.invokevirtual 57, 3) := by decide +kernel
theorem dX4_melt_63 : decode cX4_melt 63 = .ok (.iconst 0, 1) := by decide +kernel
theorem dX4_melt_64 : decode cX4_melt 64 = .ok (.invokestatic 30, 3) := by decide +kernel
theorem dX4_melt_67 : decode cX4_melt 67 = .ok (.iaload, 1) := by decide +kernel
theorem dX4_melt_68 : decode cX4_melt 68 = .ok (.isub, 1) := by decide +kernel
theorem dX4_melt_69 : decode cX4_melt 69 = .ok (.istore_n 2, 1) := by decide +kernel
theorem dX4_melt_70 : decode cX4_melt 70 = .ok (.aload_n 0, 1) := by decide +kernel
theorem dX4_melt_71 : decode cX4_melt 71 = .ok (.getfield 7, 3) := by decide +kernel
theorem dX4_melt_74 : decode cX4_melt 74 = .ok (.iconst 0, 1) := by decide +kernel
theorem dX4_melt_75 : decode cX4_melt 75 = .ok (.dup2, 1) := by decide +kernel
theorem dX4_melt_76 : decode cX4_melt 76 = .ok (.iaload, 1) := by decide +kernel
theorem dX4_melt_77 : decode cX4_melt 77 = .ok (.iconst 1, 1) := by decide +kernel
theorem dX4_melt_78 : decode cX4_melt 78 = .ok (.isub, 1) := by decide +kernel
theorem dX4_melt_79 : decode cX4_melt 79 = .ok (.iastore, 1) := by decide +kernel
theorem dX4_melt_80 : decode cX4_melt 80 = .ok (.goto (-52), 3) := by decide +kernel
theorem dX4_melt_83 : decode cX4_melt 83 = .ok (.aload_n 0, 1) := by decide +kernel
theorem dX4_melt_84 : decode cX4_melt 84 = .ok (.getfield 7, 3) := by decide +kernel
theorem dX4_melt_87 : decode cX4_melt 87 = .ok (.iconst 0, 1) := by decide +kernel
theorem dX4_melt_88 : decode cX4_melt 88 = .ok (.iaload, 1) := by decide +kernel
theorem dX4_melt_89 : decode cX4_melt 89 = .ok (.ifCond .le 20, 3) := by decide +kernel
theorem dX4_melt_92 : decode cX4_melt 92 = .ok (.aload_n 0, 1) := by decide +kernel
theorem dX4_melt_93 : decode cX4_melt 93 = .ok (.getfield 7, 3) := by decide +kernel
theorem dX4_melt_96 : decode cX4_melt 96 = .ok (.aload_n 0, 1) := by decide +kernel
theorem dX4_melt_97 : decode cX4_melt 97 = .ok (.invokevirtual 57, 3) := by decide +kernel
theorem dX4_melt_100 : decode cX4_melt 100 = .ok (.iconst 0, 1) := by decide +kernel
theorem dX4_melt_101 : decode cX4_melt 101 = .ok (.invokestatic 30, 3) := by decide +kernel
theorem dX4_melt_104 : decode cX4_melt 104 = .ok (.dup2, 1) := by decide +kernel
theorem dX4_melt_105 : decode cX4_melt 105 = .ok (.iaload, 1) := by decide +kernel
theorem dX4_melt_106 : decode cX4_melt 106 = .ok (.iload_n 2, 1) := by decide +kernel
theorem dX4_melt_107 : decode cX4_melt 107 = .ok (.isub, 1) := by decide +kernel
theorem dX4_melt_108 : decode cX4_melt 108 = .ok (.iastore, 1) := by decide +kernel
theorem dX4_melt_109 : decode cX4_melt 109 = .ok (.aload_n 0, 1) := by decide +kernel
theorem dX4_melt_110 : decode cX4_melt 110 = .ok (.invokevirtual 57, 3) := by decide +kernel
theorem dX4_melt_113 : decode cX4_melt 113 = .ok (.istore_n 3, 1) := by decide +kernel
theorem dX4_melt_114 : decode cX4_melt 114 = .ok (.iload_n 3, 1) := by decide +kernel
theorem dX4_melt_115 : decode cX4_melt 115 = .ok (.ifCond .lt 34, 3) := by decide +kernel
theorem dX4_melt_118 : decode cX4_melt 118 = .ok (.aload_n 0, 1) := by decide +kernel
theorem dX4_melt_119 : decode cX4_melt 119 = .ok (.getfield 7, 3) := by decide +kernel
theorem dX4_melt_122 : decode cX4_melt 122 = .ok (.iload_n 3, 1) := by decide +kernel
theorem dX4_melt_123 : decode cX4_melt 123 = .ok (.iconst 2, 1) := by decide +kernel
theorem dX4_melt_124 : decode cX4_melt 124 = .ok (.invokestatic 30, 3) := by decide +kernel
theorem dX4_melt_127 : decode cX4_melt 127 = .ok (.iaload, 1) := by decide +kernel
theorem dX4_melt_128 : decode cX4_melt 128 = .ok (.iconst 4, 1) := by decide +kernel
theorem dX4_melt_129 : decode cX4_melt 129 = .ok (.if_icmp .eq 20, 3) := by decide +kernel
theorem dX4_melt_132 : decode cX4_melt 132 = .ok (.aload_n 0, 1) := by decide +kernel
theorem dX4_melt_133 : decode cX4_melt 133 = .ok (.getfield 7, 3) := by decide +kernel
theorem dX4_melt_136 : decode cX4_melt 136 = .ok (.iload_n 3, 1) := by decide +kernel
theorem dX4_melt_137 : decode cX4_melt 137 = .ok (.iconst 4, 1) := by decide +kernel
theorem dX4_melt_138 : decode cX4_melt 138 = .ok (.invokestatic 30, 3) := by decide +kernel
theorem dX4_melt_141 : decode cX4_melt 141 = .ok (.iconst 1, 1) := by decide +kernel
theorem dX4_melt_142 : decode cX4_melt 142 = .ok (.iastore, 1) := by decide +kernel
theorem dX4_melt_143 : decode cX4_melt 143 = .ok (.iinc 3 (-1), 3) := by decide +kernel
theorem dX4_melt_146 : decode cX4_melt 146 = .ok (.goto (-32), 3) := by decide +kernel
theorem dX4_melt_149 : decode cX4_melt 149 = .ok (.aload_n 0, 1) := by decide +kernel
theorem dX4_melt_150 : decode cX4_melt 150 = .ok (.getfield 7, 3) := by decide +kernel
theorem dX4_melt_153 : decode cX4_melt 153 = .ok (.iconst 0, 1) := by decide +kernel
theorem dX4_melt_154 : decode cX4_melt 154 = .ok (.iaload, 1) := by decide +kernel
theorem dX4_melt_155 : decode cX4_melt 155 = .ok (.ireturn, 1) := by decide +kernel
set_option maxRecDepth 20000 in
theorem ggX4_freeze_X4_at : GoodIn wsX4_freeze wsX4_at := goodIn_r _ [5] (by decide +kernel) (by decide +kernel)
set_option maxRecDepth 20000 in
theorem gX4_freeze_X4_at : GoodIn wsX4_freeze (va_wsS RX4 30 yX4_at wsX4_at) := goodIn_app (goodIn_of _ (by decide +kernel)) ggX4_freeze_X4_at
theorem dX4_freeze_0 : decode cX4_freeze 0 = .ok (.iconst 0, 1) := by decide +kernel
theorem dX4_freeze_1 : decode cX4_freeze 1 = .ok (.istore_n 1, 1) := by decide +kernel
theorem dX4_freeze_2 : decode cX4_freeze 2 = .ok (.iconst 0, 1) := by decide +kernel
theorem dX4_freeze_3 : decode cX4_freeze 3 = .ok (.istore_n 2, 1) := by decide +kernel
theorem dX4_freeze_4 : decode cX4_freeze 4 = .ok (.iload_n 2, 1) := by decide +kernel
theorem dX4_freeze_5 : decode cX4_freeze 5 = .ok (.aload_n 0, 1) := by decide +kernel
theorem dX4_freeze_6 : decode cX4_freeze 6 = .ok (.getfield 7, 3) := by decide +kernel
theorem dX4_freeze_9 : decode cX4_freeze 9 = .ok (.iconst 0, 1) := by decide +kernel
theorem dX4_freeze_10 : decode cX4_freeze 10 = .ok (.iaload, 1) := by decide +kernel
theorem dX4_freeze_11 : decode cX4_freeze 11 = .ok (.if_icmp .ge 59, 3) := by decide +kernel
theorem dX4_freeze_14 : decode cX4_freeze 14 = .ok (.aload_n 0, 1) := by decide +kernel
theorem dX4_freeze_15 : decode cX4_freeze 15 = .ok (.getfield 7, 3) := by decide +kernel
theorem dX4_freeze_18 : decode cX4_freeze 18 = .ok (.iload_n 2, 1) := by decide +kernel
theorem dX4_freeze_19 : decode cX4_freeze 19 = .ok (.iconst 4, 1) := by decide +kernel
theorem dX4_freeze_20 : decode cX4_freeze 20 = .ok (.invokestatic 30, 3) := by decide +kernel
theorem dX4_freeze_23 : decode cX4_freeze 23 = .ok (.iaload, 1) := by decide +kernel
theorem dX4_freeze_24 : decode cX4_freeze 24 = .ok (.iconst 1, 1) := by decide +kernel
theorem dX4_freeze_25 : decode cX4_freeze 25 = .ok (.if_icmp .ne 39, 3) := by decide +kernel
theorem dX4_freeze_28 : decode cX4_freeze 28 = .ok (.aload_n 0, 1) := by decide +kernel
theorem dX4_freeze_29 : decode cX4_freeze 29 = .ok (.getfield 7, 3) := by decide +kernel
theorem dX4_freeze_32 : decode cX4_freeze 32 = .ok (.iload_n 2, 1) := by decide +kernel
theorem dX4_freeze_33 : decode cX4_freeze 33 = .ok (.iconst 2, 1) := by decide +kernel
theorem dX4_freeze_34 : decode cX4_freeze 34 = .ok (.invokestatic 30, 3) := by decide +kernel
theorem dX4_freeze_37 : decode cX4_freeze 37 = .ok (.iconst 4, 1) := by decide +kernel
theorem dX4_freeze_38 : decode cX4_freeze 38 = .ok (.iastore, 1) := by decide +kernel
theorem dX4_freeze_39 : decode cX4_freeze 39 = .ok (.aload_n 0, 1) := by decide +kernel
theorem dX4_freeze_40 : decode cX4_freeze 40 = .ok (.getfield 7, 3) := by decide +kernel
theorem dX4_freeze_43 : decode cX4_freeze 43 = .ok (.iload_n 2, 1) := by decide +kernel
theorem dX4_freeze_44 : decode cX4_freeze 44 = .ok (.iconst 3, 1) := by decide +kernel
theorem dX4_freeze_45 : decode cX4_freeze 45 = .ok (.invokestatic 30, 3) := by decide +kernel
theorem dX4_freeze_48 : decode cX4_freeze 48 = .ok (.iconst 5, 1) := by decide +kernel
theorem dX4_freeze_49 : decode cX4_freeze 49 = .ok (.iastore, 1) := by decide +kernel
theorem dX4_freeze_50 : decode cX4_freeze 50 = .ok (.aload_n 0, 1) := by decide +kernel
theorem dX4_freeze_51 : decode cX4_freeze 51 = .ok (.getfield 7, 3) := by decide +kernel
theorem dX4_freeze_54 : decode cX4_freeze 54 = .ok (.iload_n 2, 1) := by decide +kernel
theorem dX4_freeze_55 : decode cX4_freeze 55 = .ok (.iconst 4, 1) := by decide +kernel
theorem dX4_freeze_56 : decode cX4_freeze 56 = .ok (.invokestatic 30, 3) := by decide +kernel
theorem dX4_freeze_59 : decode cX4_freeze 59 = .ok (.iconst 0, 1) := by decide +kernel
theorem dX4_freeze_60 : decode cX4_freeze 60 = .ok (.iastore, 1) := by decide +kernel
theorem dX4_freeze_61 : decode cX4_freeze 61 = .ok (.iinc 1 1, 3) := by decide +kernel
theorem dX4_freeze_64 : decode cX4_freeze 64 = .ok (.iinc 2 1, 3) := by decide +kernel
theorem dX4_freeze_67 : decode cX4_freeze 67 = .ok (.goto (-63), 3) := by decide +kernel
theorem dX4_freeze_70 : decode cX4_freeze 70 = .ok (.iload_n 1, 1) := by decide +kernel
theorem dX4_freeze_71 : decode cX4_freeze 71 = .ok (.ireturn, 1) := by decide +kernel
theorem dX4_slide_0 : decode cX4_slide 0 = .ok (.aload_n 0, 1) := by decide +kernel
theorem dX4_slide_1 : decode cX4_slide 1 = .ok (.getfield 7, 3) := by decide +kernel
theorem dX4_slide_4 : decode cX4_slide 4 = .ok (.iconst 0, 1) := by decide +kernel
theorem dX4_slide_5 : decode cX4_slide 5 = .ok (.iaload, 1) := by decide +kernel
theorem dX4_slide_6 : decode cX4_slide 6 = .ok (.ifCond .ne 6, 3) := by decide +kernel
theorem dX4_slide_9 : decode cX4_slide 9 = .ok (.bipush (-3), 2) := by decide +kernel
theorem dX4_slide_11 : decode cX4_slide 11 = .ok (.ireturn, 1) := by decide +kernel
theorem dX4_slide_12 : decode cX4_slide 12 = .ok (.aload_n 0, 1) := by decide +kernel
theorem dX4_slide_13 : decode cX4_slide 13 = .ok (.getfield 7, 3) := by decide +kernel
theorem dX4_slide_16 : decode cX4_slide 16 = .ok (.iconst 0, 1) := by decide +kernel
theorem dX4_slide_17 : decode cX4_slide 17 = .ok (.dup2, 1) := by decide +kernel
theorem dX4_slide_18 : decode cX4_slide 18 = .ok (.iaload, 1) := by decide +kernel
theorem dX4_slide_19 : decode cX4_slide 19 = .ok (.iconst 1, 1) := by decide +kernel
theorem dX4_slide_20 : decode cX4_slide 20 = .ok (.isub, 1) := by decide +kernel
theorem dX4_slide_21 : decode cX4_slide 21 = .ok (.iastore, 1) := by decide +kernel
theorem dX4_slide_22 : decode cX4_slide 22 = .ok (.aload_n 0, 1) := by decide +kernel
theorem dX4_slide_23 : decode cX4_slide 23 = .ok (.getfield 7, 3) := by decide +kernel
theorem dX4_slide_26 : decode cX4_slide 26 = .ok (.iconst 0, 1) := by decide +kernel
theorem dX4_slide_27 : decode cX4_slide 27 = .ok (.iaload, 1) := by decide +kernel
theorem dX4_slide_28 : decode cX4_slide 28 = .ok (.ireturn, 1) := by decide +kernel
set_option maxRecDepth 20000 in
theorem ggX4_heatIn_X4_in : GoodIn wsX4_heatIn wsX4_in := goodIn_r _ [4] (by decide +kernel) (by decide +kernel)
set_option maxRecDepth 20000 in
theorem gX4_heatIn_X4_in : GoodIn wsX4_heatIn (va_wsS RX4 26 yX4_in wsX4_in) := goodIn_app (goodIn_of _ (by decide +kernel)) ggX4_heatIn_X4_in
theorem dX4_heatIn_0 : decode cX4_heatIn 0 = .ok (.iload_n 1, 1) := by decide +kernel
theorem dX4_heatIn_1 : decode cX4_heatIn 1 = .ok (.bipush 6, 2) := by decide +kernel
theorem dX4_heatIn_3 : decode cX4_heatIn 3 = .ok (.bipush 18, 2) := by decide +kernel
theorem dX4_heatIn_5 : decode cX4_heatIn 5 = .ok (.invokestatic 26, 3) := by decide +kernel
theorem dX4_heatIn_8 : decode cX4_heatIn 8 = .ok (.ifCond .ne 5, 3) := by decide +kernel
theorem dX4_heatIn_11 : decode cX4_heatIn 11 = .ok (.iconst 0, 1) := by decide +kernel
theorem dX4_heatIn_12 : decode cX4_heatIn 12 = .ok (.ireturn, 1) := by decide +kernel
theorem dX4_heatIn_13 : decode cX4_heatIn 13 = .ok (.bipush 45, 2) := by decide +kernel
theorem dX4_heatIn_15 : decode cX4_heatIn 15 = .ok (.iload_n 0, 1) := by decide +kernel
theorem dX4_heatIn_16 : decode cX4_heatIn 16 = .ok (.imul, 1) := by decide +kernel
theorem dX4_heatIn_17 : decode cX4_heatIn 17 = .ok (.bipush 15, 2) := by decide +kernel
theorem dX4_heatIn_19 : decode cX4_heatIn 19 = .ok (.iload_n 1, 1) := by decide +kernel
theorem dX4_heatIn_20 : decode cX4_heatIn 20 = .ok (.imul, 1) := by decide +kernel
theorem dX4_heatIn_21 : decode cX4_heatIn 21 = .ok (.isub, 1) := by decide +kernel
theorem dX4_heatIn_22 : decode cX4_heatIn 22 = .ok (.istore_n 2, 1) := by decide +kernel
theorem dX4_heatIn_23 : decode cX4_heatIn 23 = .ok (.iload_n 2, 1) := by decide +kernel
theorem dX4_heatIn_24 : decode cX4_heatIn 24 = .ok (.ifCond .ge 8, 3) := by decide +kernel
theorem dX4_heatIn_27 : decode cX4_heatIn 27 = .ok (.iload_n 2, 1) := by decide +kernel
theorem dX4_heatIn_28 : decode cX4_heatIn 28 = .ok (.ineg, 1) := by decide +kernel
theorem dX4_heatIn_29 : decode cX4_heatIn 29 = .ok (.goto 4, 3) := by decide +kernel
theorem dX4_heatIn_32 : decode cX4_heatIn 32 = .ok (.iload_n 2, 1) := by decide +kernel
theorem dX4_heatIn_33 : decode cX4_heatIn 33 = .ok (.istore_n 2, 1) := by decide +kernel
theorem dX4_heatIn_34 : decode cX4_heatIn 34 = .ok (.iload_n 2, 1) := by decide +kernel
theorem dX4_heatIn_35 : decode cX4_heatIn 35 = .ok (.sipush 180, 3) := by decide +kernel
theorem dX4_heatIn_38 : decode cX4_heatIn 38 = .ok (.if_icmp .le 11, 3) := by decide +kernel
theorem dX4_heatIn_41 : decode cX4_heatIn 41 = .ok (.sipush 360, 3) := by decide +kernel
theorem dX4_heatIn_44 : decode cX4_heatIn 44 = .ok (.iload_n 2, 1) := by decide +kernel
theorem dX4_heatIn_45 : decode cX4_heatIn 45 = .ok (.isub, 1) := by decide +kernel
theorem dX4_heatIn_46 : decode cX4_heatIn 46 = .ok (.goto 4, 3) := by decide +kernel
theorem dX4_heatIn_49 : decode cX4_heatIn 49 = .ok (.iload_n 2, 1) := by decide +kernel
theorem dX4_heatIn_50 : decode cX4_heatIn 50 = .ok (.istore_n 2, 1) := by decide +kernel
theorem dX4_heatIn_51 : decode cX4_heatIn 51 = .ok (.iload_n 2, 1) := by decide +kernel
theorem dX4_heatIn_52 : decode cX4_heatIn 52 = .ok (.bipush 90, 2) := by decide +kernel
theorem dX4_heatIn_54 : decode cX4_heatIn 54 = .ok (.if_icmp .le 7, 3) := by decide +kernel
theorem dX4_heatIn_57 : decode cX4_heatIn 57 = .ok (.iconst 0, 1) := by decide +kernel
theorem dX4_heatIn_58 : decode cX4_heatIn 58 = .ok (.goto 7, 3) := by decide +kernel
theorem dX4_heatIn_61 : decode cX4_heatIn 61 = .ok (.bipush 90, 2) := by decide +kernel
theorem dX4_heatIn_63 : decode cX4_heatIn 63 = .ok (.iload_n 2, 1) := by decide +kernel
theorem dX4_heatIn_64 : decode cX4_heatIn 64 = .ok (.isub, 1) := by decide +kernel
theorem dX4_heatIn_65 : decode cX4_heatIn 65 = .ok (.ireturn, 1) := by decide +kernel
set_option maxRecDepth 20000 in
theorem ggX4_heatTill_X4_heatIn : GoodIn wsX4_heatTill wsX4_heatIn := goodIn_r _ [4, 5, 6, 3, 7] (by decide +kernel) (by decide +kernel)
set_option maxRecDepth 20000 in
theorem gX4_heatTill_X4_heatIn : GoodIn wsX4_heatTill (va_wsS RX4 91 yX4_heatIn wsX4_heatIn) := goodIn_app (goodIn_of _ (by decide +kernel)) ggX4_heatTill_X4_heatIn
theorem dX4_heatTill_0 : decode cX4_heatTill 0 = .ok (.iconst 0, 1) := by decide +kernel
theorem dX4_heatTill_1 : decode cX4_heatTill 1 = .ok (.istore_n 2, 1) := by decide +kernel
theorem dX4_heatTill_2 : decode cX4_heatTill 2 = .ok (.iconst 0, 1) := by decide +kernel
theorem dX4_heatTill_3 : decode cX4_heatTill 3 = .ok (.istore_n 3, 1) := by decide +kernel
theorem dX4_heatTill_4 : decode cX4_heatTill 4 = .ok (.iload_n 3, 1) := by decide +kernel
theorem dX4_heatTill_5 : decode cX4_heatTill 5 = .ok (.iload_n 1, 1) := by decide +kernel
theorem dX4_heatTill_6 : decode cX4_heatTill 6 = .ok (.if_icmp .gt 17, 3) := by decide +kernel
theorem dX4_heatTill_9 : decode cX4_heatTill 9 = .ok (.iload_n 2, 1) := by decide +kernel
theorem dX4_heatTill_10 : decode cX4_heatTill 10 = .ok (.iload_n 0, 1) := by decide +kernel
theorem dX4_heatTill_11 : decode cX4_heatTill 11 = .ok (.iload_n 3, 1) := by decide +kernel
theorem dX4_heatTill_12 : decode cX4_heatTill 12 = .ok (.invokestatic 91, 3) := by decide +kernel
theorem dX4_heatTill_15 : decode cX4_heatTill 15 = .ok (.iadd, 1) := by decide +kernel
theorem dX4_heatTill_16 : decode cX4_heatTill 16 = .ok (.istore_n 2, 1) := by decide +kernel
theorem dX4_heatTill_17 : decode cX4_heatTill 17 = .ok (.iinc 3 1, 3) := by decide +kernel
theorem dX4_heatTill_20 : decode cX4_heatTill 20 = .ok (.goto (-16), 3) := by decide +kernel
theorem dX4_heatTill_23 : decode cX4_heatTill 23 = .ok (.iload_n 2, 1) := by decide +kernel
theorem dX4_heatTill_24 : decode cX4_heatTill 24 = .ok (.ireturn, 1) := by decide +kernel
set_option maxRecDepth 20000 in
theorem ggX4_isSide_X4_in : GoodIn wsX4_isSide wsX4_in := goodIn_r _ [4] (by decide +kernel) (by decide +kernel)
set_option maxRecDepth 20000 in
theorem gX4_isSide_X4_in : GoodIn wsX4_isSide (va_wsS RX4 26 yX4_in wsX4_in) := goodIn_app (goodIn_of _ (by decide +kernel)) ggX4_isSide_X4_in
theorem dX4_isSide_0 : decode cX4_isSide 0 = .ok (.iload_n 0, 1) := by decide +kernel
theorem dX4_isSide_1 : decode cX4_isSide 1 = .ok (.iconst 0, 1) := by decide +kernel
theorem dX4_isSide_2 : decode cX4_isSide 2 = .ok (.bipush 7, 2) := by decide +kernel
theorem dX4_isSide_4 : decode cX4_isSide 4 = .ok (.invokestatic 26, 3) := by decide +kernel
theorem dX4_isSide_7 : decode cX4_isSide 7 = .ok (.ireturn, 1) := by decide +kernel
set_option maxRecDepth 20000 in
theorem ggX4_heat_X4_isSide : GoodIn wsX4_heat wsX4_isSide := goodIn_r _ [4, 5, 6, 3, 7] (by decide +kernel) (by decide +kernel)
set_option maxRecDepth 20000 in
theorem gX4_heat_X4_isSide : GoodIn wsX4_heat (va_wsS RX4 94 yX4_isSide wsX4_isSide) := goodIn_app (goodIn_of _ (by decide +kernel)) ggX4_heat_X4_isSide
set_option maxRecDepth 20000 in
theorem ggX4_heat_X4_in : GoodIn wsX4_heat wsX4_in := goodIn_r _ [7] (by decide +kernel) (by decide +kernel)
set_option maxRecDepth 20000 in
theorem gX4_heat_X4_in : GoodIn wsX4_heat (va_wsS RX4 26 yX4_in wsX4_in) := goodIn_app (goodIn_of _ (by decide +kernel)) ggX4_heat_X4_in
set_option maxRecDepth 20000 in
theorem ggX4_heat_X4_heatIn : GoodIn wsX4_heat wsX4_heatIn := goodIn_r _ [10, 5, 6, 3, 7] (by decide +kernel) (by decide +kernel)
set_option maxRecDepth 20000 in
theorem gX4_heat_X4_heatIn : GoodIn wsX4_heat (va_wsS RX4 91 yX4_heatIn wsX4_heatIn) := goodIn_app (goodIn_of _ (by decide +kernel)) ggX4_heat_X4_heatIn
set_option maxRecDepth 20000 in
theorem ggX4_heat_X4_heatTill : GoodIn wsX4_heat wsX4_heatTill := goodIn_r _ [13, 8, 9, 3, 10, 5, 6, 7] (by decide +kernel) (by decide +kernel)
set_option maxRecDepth 20000 in
theorem gX4_heat_X4_heatTill : GoodIn wsX4_heat (va_wsS RX4 97 yX4_heatTill wsX4_heatTill) := goodIn_app (goodIn_of _ (by decide +kernel)) ggX4_heat_X4_heatTill
theorem dX4_heat_0 : decode cX4_heat 0 = .ok (.iload_n 1, 1) := by decide +kernel
theorem dX4_heat_1 : decode cX4_heat 1 = .ok (.invokestatic 94, 3) := by decide +kernel
theorem dX4_heat_4 : decode cX4_heat 4 = .ok (.ifCond .ne 5, 3) := by decide +kernel
theorem dX4_heat_7 : decode cX4_heat 7 = .ok (.iconst (-1), 1) := by decide +kernel
theorem dX4_heat_8 : decode cX4_heat 8 = .ok (.ireturn, 1) := by decide +kernel
theorem dX4_heat_9 : decode cX4_heat 9 = .ok (.iload_n 2, 1) := by decide +kernel
theorem dX4_heat_10 : decode cX4_heat 10 = .ok (.iconst 0, 1) := by decide +kernel
theorem dX4_heat_11 : decode cX4_heat 11 = .ok (.bipush 23, 2) := by decide +kernel
theorem dX4_heat_13 : decode cX4_heat 13 = .ok (.invokestatic 26, 3) := by decide +kernel
theorem dX4_heat_16 : decode cX4_heat 16 = .ok (.ifCond .eq 12, 3) := by decide +kernel
theorem dX4_heat_19 : decode cX4_heat 19 = .ok (.iload_n 3, 1) := by decide +kernel
theorem dX4_heat_20 : decode cX4_heat 20 = .ok (.iconst 0, 1) := by decide +kernel
theorem dX4_heat_21 : decode cX4_heat 21 = .ok (.iconst 1, 1) := by decide +kernel
theorem dX4_heat_22 : decode cX4_heat 22 = .ok (.invokestatic 26, 3) := by decide +kernel
theorem dX4_heat_25 : decode cX4_heat 25 = .ok (.ifCond .ne 6, 3) := by decide +kernel
theorem dX4_heat_28 : decode cX4_heat 28 = .ok (.bipush (-2), 2) := by decide +kernel
theorem dX4_heat_30 : decode cX4_heat 30 = .ok (.ireturn, 1) := by decide +kernel
theorem dX4_heat_31 : decode cX4_heat 31 = .ok (.iload_n 3, 1) := by decide +kernel
theorem dX4_heat_32 : decode cX4_heat 32 = .ok (.ifCond .ne 11, 3) := by decide +kernel
theorem dX4_heat_35 : decode cX4_heat 35 = .ok (.iload_n 1, 1) := by decide +kernel
theorem dX4_heat_36 : decode cX4_heat 36 = .ok (.iload_n 2, 1) := by decide +kernel
theorem dX4_heat_37 : decode cX4_heat 37 = .ok (.invokestatic 91, 3) := by decide +kernel
theorem dX4_heat_40 : decode cX4_heat 40 = .ok (.goto 8, 3) := by decide +kernel
theorem dX4_heat_43 : decode cX4_heat 43 = .ok (.iload_n 1, 1) := by decide +kernel
theorem dX4_heat_44 : decode cX4_heat 44 = .ok (.iload_n 2, 1) := by decide +kernel
theorem dX4_heat_45 : decode cX4_heat 45 = .ok (.invokestatic 97, 3) := by decide +kernel
theorem dX4_heat_48 : decode cX4_heat 48 = .ok (.ireturn, 1) := by decide +kernel
set_option maxRecDepth 20000 in
theorem ggX4_warmHour_X4_heatTill : GoodIn wsX4_warmHour wsX4_heatTill := goodIn_r _ [4, 5, 6, 3, 7, 8, 9, 10] (by decide +kernel) (by decide +kernel)
set_option maxRecDepth 20000 in
theorem gX4_warmHour_X4_heatTill : GoodIn wsX4_warmHour (va_wsS RX4 97 yX4_heatTill wsX4_heatTill) := goodIn_app (goodIn_of _ (by decide +kernel)) ggX4_warmHour_X4_heatTill
theorem dX4_warmHour_0 : decode cX4_warmHour 0 = .ok (.iconst 0, 1) := by decide +kernel
theorem dX4_warmHour_1 : decode cX4_warmHour 1 = .ok (.istore_n 2, 1) := by decide +kernel
theorem dX4_warmHour_2 : decode cX4_warmHour 2 = .ok (.iload_n 2, 1) := by decide +kernel
theorem dX4_warmHour_3 : decode cX4_warmHour 3 = .ok (.bipush 24, 2) := by decide +kernel
theorem dX4_warmHour_5 : decode cX4_warmHour 5 = .ok (.if_icmp .ge 20, 3) := by decide +kernel
theorem dX4_warmHour_8 : decode cX4_warmHour 8 = .ok (.iload_n 0, 1) := by decide +kernel
theorem dX4_warmHour_9 : decode cX4_warmHour 9 = .ok (.iload_n 2, 1) := by decide +kernel
theorem dX4_warmHour_10 : decode cX4_warmHour 10 = .ok (.invokestatic 97, 3) := by decide +kernel
theorem dX4_warmHour_13 : decode cX4_warmHour 13 = .ok (.iload_n 1, 1) := by decide +kernel
theorem dX4_warmHour_14 : decode cX4_warmHour 14 = .ok (.if_icmp .lt 5, 3) := by decide +kernel
theorem dX4_warmHour_17 : decode cX4_warmHour 17 = .ok (.iload_n 2, 1) := by decide +kernel
theorem dX4_warmHour_18 : decode cX4_warmHour 18 = .ok (.ireturn, 1) := by decide +kernel
theorem dX4_warmHour_19 : decode cX4_warmHour 19 = .ok (.iinc 2 1, 3) := by decide +kernel
theorem dX4_warmHour_22 : decode cX4_warmHour 22 = .ok (.goto (-20), 3) := by decide +kernel
theorem dX4_warmHour_25 : decode cX4_warmHour 25 = .ok (.bipush (-6), 2) := by decide +kernel
theorem dX4_warmHour_27 : decode cX4_warmHour 27 = .ok (.ireturn, 1) := by decide +kernel
set_option maxRecDepth 20000 in
theorem ggX4_warm_X4_isSide : GoodIn wsX4_warm wsX4_isSide := goodIn_r _ [4, 5, 6, 3, 7] (by decide +kernel) (by decide +kernel)
set_option maxRecDepth 20000 in
theorem gX4_warm_X4_isSide : GoodIn wsX4_warm (va_wsS RX4 94 yX4_isSide wsX4_isSide) := goodIn_app (goodIn_of _ (by decide +kernel)) ggX4_warm_X4_isSide
set_option maxRecDepth 20000 in
theorem ggX4_warm_X4_in : GoodIn wsX4_warm wsX4_in := goodIn_r _ [7] (by decide +kernel) (by decide +kernel)
set_option maxRecDepth 20000 in
theorem gX4_warm_X4_in : GoodIn wsX4_warm (va_wsS RX4 26 yX4_in wsX4_in) := goodIn_app (goodIn_of _ (by decide +kernel)) ggX4_warm_X4_in
set_option maxRecDepth 20000 in
theorem ggX4_warm_X4_warmHour : GoodIn wsX4_warm wsX4_warmHour := goodIn_r _ [10, 11, 12, 3, 13, 14, 15, 16, 5, 6, 7] (by decide +kernel) (by decide +kernel)
set_option maxRecDepth 20000 in
theorem gX4_warm_X4_warmHour : GoodIn wsX4_warm (va_wsS RX4 100 yX4_warmHour wsX4_warmHour) := goodIn_app (goodIn_of _ (by decide +kernel)) ggX4_warm_X4_warmHour
theorem dX4_warm_0 : decode cX4_warm 0 = .ok (.iload_n 1, 1) := by decide +kernel
theorem dX4_warm_1 : decode cX4_warm 1 = .ok (.invokestatic 94, 3) := by decide +kernel
theorem dX4_warm_4 : decode cX4_warm 4 = .ok (.ifCond .ne 5, 3) := by decide +kernel
theorem dX4_warm_7 : decode cX4_warm 7 = .ok (.iconst (-1), 1) := by decide +kernel
theorem dX4_warm_8 : decode cX4_warm 8 = .ok (.ireturn, 1) := by decide +kernel
theorem dX4_warm_9 : decode cX4_warm 9 = .ok (.iload_n 2, 1) := by decide +kernel
theorem dX4_warm_10 : decode cX4_warm 10 = .ok (.iconst 1, 1) := by decide +kernel
theorem dX4_warm_11 : decode cX4_warm 11 = .ok (.sipush 999, 3) := by decide +kernel
theorem dX4_warm_14 : decode cX4_warm 14 = .ok (.invokestatic 26, 3) := by decide +kernel
theorem dX4_warm_17 : decode cX4_warm 17 = .ok (.ifCond .eq 11, 3) := by decide +kernel
theorem dX4_warm_20 : decode cX4_warm 20 = .ok (.iload_n 1, 1) := by decide +kernel
theorem dX4_warm_21 : decode cX4_warm 21 = .ok (.iload_n 2, 1) := by decide +kernel
theorem dX4_warm_22 : decode cX4_warm 22 = .ok (.invokestatic 100, 3) := by decide +kernel
theorem dX4_warm_25 : decode cX4_warm 25 = .ok (.goto 5, 3) := by decide +kernel
theorem dX4_warm_28 : decode cX4_warm 28 = .ok (.bipush (-2), 2) := by decide +kernel
theorem dX4_warm_30 : decode cX4_warm 30 = .ok (.ireturn, 1) := by decide +kernel
set_option maxRecDepth 20000 in
theorem ggX4_order_X4_in : GoodIn wsX4_order wsX4_in := goodIn_r _ [4] (by decide +kernel) (by decide +kernel)
set_option maxRecDepth 20000 in
theorem gX4_order_X4_in : GoodIn wsX4_order (va_wsS RX4 26 yX4_in wsX4_in) := goodIn_app (goodIn_of _ (by decide +kernel)) ggX4_order_X4_in
set_option maxRecDepth 20000 in
theorem ggX4_order_X4_warmHour : GoodIn wsX4_order wsX4_warmHour := goodIn_r _ [7, 8, 9, 3, 10, 11, 12, 13, 1, 2, 4] (by decide +kernel) (by decide +kernel)
set_option maxRecDepth 20000 in
theorem gX4_order_X4_warmHour : GoodIn wsX4_order (va_wsS RX4 100 yX4_warmHour wsX4_warmHour) := goodIn_app (goodIn_of _ (by decide +kernel)) ggX4_order_X4_warmHour
theorem dX4_order_0 : decode cX4_order 0 = .ok (.iload_n 1, 1) := by decide +kernel
theorem dX4_order_1 : decode cX4_order 1 = .ok (.iconst 1, 1) := by decide +kernel
theorem dX4_order_2 : decode cX4_order 2 = .ok (.sipush 999, 3) := by decide +kernel
theorem dX4_order_5 : decode cX4_order 5 = .ok (.invokestatic 26, 3) := by decide +kernel
theorem dX4_order_8 : decode cX4_order 8 = .ok (.ifCond .ne 6, 3) := by decide +kernel
theorem dX4_order_11 : decode cX4_order 11 = .ok (.bipush (-2), 2) := by decide +kernel
theorem dX4_order_13 : decode cX4_order 13 = .ok (.ireturn, 1) := by decide +kernel
theorem dX4_order_14 : decode cX4_order 14 = .ok (.iconst 0, 1) := by decide +kernel
theorem dX4_order_15 : decode cX4_order 15 = .ok (.istore_n 3, 1) := by decide +kernel
theorem dX4_order_16 : decode cX4_order 16 = .ok (.iconst 0, 1) := by decide +kernel
theorem dX4_order_17 : decode cX4_order 17 = .ok (.istore 4, 2) := by decide +kernel
theorem dX4_order_19 : decode cX4_order 19 = .ok (.iload 4, 2) := by decide +kernel
theorem dX4_order_21 : decode cX4_order 21 = .ok (.bipush 24, 2) := by decide +kernel
theorem dX4_order_23 : decode cX4_order 23 = .ok (.if_icmp .ge 47, 3) := by decide +kernel
theorem dX4_order_26 : decode cX4_order 26 = .ok (.iconst 0, 1) := by decide +kernel
theorem dX4_order_27 : decode cX4_order 27 = .ok (.istore 5, 2) := by decide +kernel
theorem dX4_order_29 : decode cX4_order 29 = .ok (.iload 5, 2) := by decide +kernel
theorem dX4_order_31 : decode cX4_order 31 = .ok (.bipush 8, 2) := by decide +kernel
theorem dX4_order_33 : decode cX4_order 33 = .ok (.if_icmp .ge 31, 3) := by decide +kernel
theorem dX4_order_36 : decode cX4_order 36 = .ok (.iload 5, 2) := by decide +kernel
theorem dX4_order_38 : decode cX4_order 38 = .ok (.iload_n 1, 1) := by decide +kernel
theorem dX4_order_39 : decode cX4_order 39 = .ok (.invokestatic 100, 3) := by decide +kernel
theorem dX4_order_42 : decode cX4_order 42 = .ok (.iload 4, 2) := by decide +kernel
theorem dX4_order_44 : decode cX4_order 44 = .ok (.if_icmp .ne 14, 3) := by decide +kernel
theorem dX4_order_47 : decode cX4_order 47 = .ok (.iload_n 3, 1) := by decide +kernel
theorem dX4_order_48 : decode cX4_order 48 = .ok (.iload_n 2, 1) := by decide +kernel
theorem dX4_order_49 : decode cX4_order 49 = .ok (.if_icmp .ne 6, 3) := by decide +kernel
theorem dX4_order_52 : decode cX4_order 52 = .ok (.iload 5, 2) := by decide +kernel
theorem dX4_order_54 : decode cX4_order 54 = .ok (.ireturn, 1) := by decide +kernel
theorem dX4_order_55 : decode cX4_order 55 = .ok (.iinc 3 1, 3) := by decide +kernel
theorem dX4_order_58 : decode cX4_order 58 = .ok (.iinc 5 1, 3) := by decide +kernel
theorem dX4_order_61 : decode cX4_order 61 = .ok (.goto (-32), 3) := by decide +kernel
theorem dX4_order_64 : decode cX4_order 64 = .ok (.iinc 4 1, 3) := by decide +kernel
theorem dX4_order_67 : decode cX4_order 67 = .ok (.goto (-48), 3) := by decide +kernel
theorem dX4_order_70 : decode cX4_order 70 = .ok (.iload_n 2, 1) := by decide +kernel
theorem dX4_order_71 : decode cX4_order 71 = .ok (.iconst (-1), 1) := by decide +kernel
theorem dX4_order_72 : decode cX4_order 72 = .ok (.if_icmp .ne 7, 3) := by decide +kernel
theorem dX4_order_75 : decode cX4_order 75 = .ok (.iload_n 3, 1) := by decide +kernel
theorem dX4_order_76 : decode cX4_order 76 = .ok (.goto 5, 3) := by decide +kernel
theorem dX4_order_79 : decode cX4_order 79 = .ok (.bipush (-6), 2) := by decide +kernel
theorem dX4_order_81 : decode cX4_order 81 = .ok (.ireturn, 1) := by decide +kernel
set_option maxRecDepth 20000 in
theorem ggX4_image_X4_in : GoodIn wsX4_image wsX4_in := goodIn_r _ [7] (by decide +kernel) (by decide +kernel)
set_option maxRecDepth 20000 in
theorem gX4_image_X4_in : GoodIn wsX4_image (va_wsS RX4 26 yX4_in wsX4_in) := goodIn_app (goodIn_of _ (by decide +kernel)) ggX4_image_X4_in
theorem dX4_image_0 : decode cX4_image 0 = .ok (.iload_n 1, 1) := by decide +kernel
theorem dX4_image_1 : decode cX4_image 1 = .ok (.iconst 0, 1) := by decide +kernel
theorem dX4_image_2 : decode cX4_image 2 = .ok (.iconst 1, 1) := by decide +kernel
theorem dX4_image_3 : decode cX4_image 3 = .ok (.invokestatic 26, 3) := by decide +kernel
theorem dX4_image_6 : decode cX4_image 6 = .ok (.ifCond .ne 6, 3) := by decide +kernel
theorem dX4_image_9 : decode cX4_image 9 = .ok (.bipush (-2), 2) := by decide +kernel
theorem dX4_image_11 : decode cX4_image 11 = .ok (.ireturn, 1) := by decide +kernel
theorem dX4_image_12 : decode cX4_image 12 = .ok (.iconst 0, 1) := by decide +kernel
theorem dX4_image_13 : decode cX4_image 13 = .ok (.istore_n 2, 1) := by decide +kernel
theorem dX4_image_14 : decode cX4_image 14 = .ok (.iload_n 2, 1) := by decide +kernel
theorem dX4_image_15 : decode cX4_image 15 = .ok (.bipush 57, 2) := by decide +kernel
theorem dX4_image_17 : decode cX4_image 17 = .ok (.if_icmp .ge 26, 3) := by decide +kernel
theorem dX4_image_20 : decode cX4_image 20 = .ok (.aload_n 0, 1) := by decide +kernel
theorem dX4_image_21 : decode cX4_image 21 = .ok (.getfield 13, 3) := by decide +kernel
theorem dX4_image_24 : decode cX4_image 24 = .ok (.bipush 57, 2) := by decide +kernel
theorem dX4_image_26 : decode cX4_image 26 = .ok (.iload_n 1, 1) := by decide +kernel
theorem dX4_image_27 : decode cX4_image 27 = .ok (.imul, 1) := by decide +kernel
theorem dX4_image_28 : decode cX4_image 28 = .ok (.iload_n 2, 1) := by decide +kernel
theorem dX4_image_29 : decode cX4_image 29 = .ok (.iadd, 1) := by decide +kernel
theorem dX4_image_30 : decode cX4_image 30 = .ok (.aload_n 0, 1) := by decide +kernel
theorem dX4_image_31 : decode cX4_image 31 = .ok (.getfield 7, 3) := by decide +kernel
theorem dX4_image_34 : decode cX4_image 34 = .ok (.iload_n 2, 1) := by decide +kernel
theorem dX4_image_35 : decode cX4_image 35 = .ok (.iaload, 1) := by decide +kernel
theorem dX4_image_36 : decode cX4_image 36 = .ok (.iastore, 1) := by decide +kernel
theorem dX4_image_37 : decode cX4_image 37 = .ok (.iinc 2 1, 3) := by decide +kernel
theorem dX4_image_40 : decode cX4_image 40 = .ok (.goto (-26), 3) := by decide +kernel
theorem dX4_image_43 : decode cX4_image 43 = .ok (.aload_n 0, 1) := by decide +kernel
theorem dX4_image_44 : decode cX4_image 44 = .ok (.getfield 16, 3) := by decide +kernel
theorem dX4_image_47 : decode cX4_image 47 = .ok (.iload_n 1, 1) := by decide +kernel
theorem dX4_image_48 : decode cX4_image 48 = .ok (.iconst 1, 1) := by decide +kernel
theorem dX4_image_49 : decode cX4_image 49 = .ok (.bastore, 1) := by decide +kernel
theorem dX4_image_50 : decode cX4_image 50 = .ok (.iconst 1, 1) := by decide +kernel
theorem dX4_image_51 : decode cX4_image 51 = .ok (.ireturn, 1) := by decide +kernel
set_option maxRecDepth 20000 in
theorem ggX4_restore_X4_in : GoodIn wsX4_restore wsX4_in := goodIn_r _ [7] (by decide +kernel) (by decide +kernel)
set_option maxRecDepth 20000 in
theorem gX4_restore_X4_in : GoodIn wsX4_restore (va_wsS RX4 26 yX4_in wsX4_in) := goodIn_app (goodIn_of _ (by decide +kernel)) ggX4_restore_X4_in
theorem dX4_restore_0 : decode cX4_restore 0 = .ok (.iload_n 1, 1) := by decide +kernel
theorem dX4_restore_1 : decode cX4_restore 1 = .ok (.iconst 0, 1) := by decide +kernel
theorem dX4_restore_2 : decode cX4_restore 2 = .ok (.iconst 1, 1) := by decide +kernel
theorem dX4_restore_3 : decode cX4_restore 3 = .ok (.invokestatic 26, 3) := by decide +kernel
theorem dX4_restore_6 : decode cX4_restore 6 = .ok (.ifCond .ne 6, 3) := by decide +kernel
theorem dX4_restore_9 : decode cX4_restore 9 = .ok (.bipush (-2), 2) := by decide +kernel
theorem dX4_restore_11 : decode cX4_restore 11 = .ok (.ireturn, 1) := by decide +kernel
theorem dX4_restore_12 : decode cX4_restore 12 = .ok (.aload_n 0, 1) := by decide +kernel
theorem dX4_restore_13 : decode cX4_restore 13 = .ok (.getfield 16, 3) := by decide +kernel
theorem dX4_restore_16 : decode cX4_restore 16 = .ok (.iload_n 1, 1) := by decide +kernel
theorem dX4_restore_17 : decode cX4_restore 17 = .ok (.baload, 1) := by decide +kernel
theorem dX4_restore_18 : decode cX4_restore 18 = .ok (.ifCond .ne 6, 3) := by decide +kernel
theorem dX4_restore_21 : decode cX4_restore 21 = .ok (.bipush (-3), 2) := by decide +kernel
theorem dX4_restore_23 : decode cX4_restore 23 = .ok (.ireturn, 1) := by decide +kernel
theorem dX4_restore_24 : decode cX4_restore 24 = .ok (.iconst 0, 1) := by decide +kernel
theorem dX4_restore_25 : decode cX4_restore 25 = .ok (.istore_n 2, 1) := by decide +kernel
theorem dX4_restore_26 : decode cX4_restore 26 = .ok (.iload_n 2, 1) := by decide +kernel
theorem dX4_restore_27 : decode cX4_restore 27 = .ok (.bipush 57, 2) := by decide +kernel
theorem dX4_restore_29 : decode cX4_restore 29 = .ok (.if_icmp .ge 26, 3) := by decide +kernel
theorem dX4_restore_32 : decode cX4_restore 32 = .ok (.aload_n 0, 1) := by decide +kernel
theorem dX4_restore_33 : decode cX4_restore 33 = .ok (.getfield 7, 3) := by decide +kernel
theorem dX4_restore_36 : decode cX4_restore 36 = .ok (.iload_n 2, 1) := by decide +kernel
theorem dX4_restore_37 : decode cX4_restore 37 = .ok (.aload_n 0, 1) := by decide +kernel
theorem dX4_restore_38 : decode cX4_restore 38 = .ok (.getfield 13, 3) := by decide +kernel
theorem dX4_restore_41 : decode cX4_restore 41 = .ok (.bipush 57, 2) := by decide +kernel
theorem dX4_restore_43 : decode cX4_restore 43 = .ok (.iload_n 1, 1) := by decide +kernel
theorem dX4_restore_44 : decode cX4_restore 44 = .ok (.imul, 1) := by decide +kernel
theorem dX4_restore_45 : decode cX4_restore 45 = .ok (.iload_n 2, 1) := by decide +kernel
theorem dX4_restore_46 : decode cX4_restore 46 = .ok (.iadd, 1) := by decide +kernel
theorem dX4_restore_47 : decode cX4_restore 47 = .ok (.iaload, 1) := by decide +kernel
theorem dX4_restore_48 : decode cX4_restore 48 = .ok (.iastore, 1) := by decide +kernel
theorem dX4_restore_49 : decode cX4_restore 49 = .ok (.iinc 2 1, 3) := by decide +kernel
theorem dX4_restore_52 : decode cX4_restore 52 = .ok (.goto (-26), 3) := by decide +kernel
theorem dX4_restore_55 : decode cX4_restore 55 = .ok (.iconst 1, 1) := by decide +kernel
theorem dX4_restore_56 : decode cX4_restore 56 = .ok (.ireturn, 1) := by decide +kernel
set_option maxRecDepth 20000 in
theorem ggX4_allWeight_X4_at : GoodIn wsX4_allWeight wsX4_at := goodIn_r _ [5] (by decide +kernel) (by decide +kernel)
set_option maxRecDepth 20000 in
theorem gX4_allWeight_X4_at : GoodIn wsX4_allWeight (va_wsS RX4 30 yX4_at wsX4_at) := goodIn_app (goodIn_of _ (by decide +kernel)) ggX4_allWeight_X4_at
theorem dX4_allWeight_0 : decode cX4_allWeight 0 = .ok (.iconst 0, 1) := by decide +kernel
theorem dX4_allWeight_1 : decode cX4_allWeight 1 = .ok (.istore_n 1, 1) := by decide +kernel
theorem dX4_allWeight_2 : decode cX4_allWeight 2 = .ok (.iconst 0, 1) := by decide +kernel
theorem dX4_allWeight_3 : decode cX4_allWeight 3 = .ok (.istore_n 2, 1) := by decide +kernel
theorem dX4_allWeight_4 : decode cX4_allWeight 4 = .ok (.iload_n 2, 1) := by decide +kernel
theorem dX4_allWeight_5 : decode cX4_allWeight 5 = .ok (.aload_n 0, 1) := by decide +kernel
theorem dX4_allWeight_6 : decode cX4_allWeight 6 = .ok (.getfield 7, 3) := by decide +kernel
theorem dX4_allWeight_9 : decode cX4_allWeight 9 = .ok (.iconst 0, 1) := by decide +kernel
theorem dX4_allWeight_10 : decode cX4_allWeight 10 = .ok (.iaload, 1) := by decide +kernel
theorem dX4_allWeight_11 : decode cX4_allWeight 11 = .ok (.if_icmp .ge 33, 3) := by decide +kernel
theorem dX4_allWeight_14 : decode cX4_allWeight 14 = .ok (.iload_n 1, 1) := by decide +kernel
theorem dX4_allWeight_15 : decode cX4_allWeight 15 = .ok (.aload_n 0, 1) := by decide +kernel
theorem dX4_allWeight_16 : decode cX4_allWeight 16 = .ok (.getfield 7, 3) := by decide +kernel
theorem dX4_allWeight_19 : decode cX4_allWeight 19 = .ok (.iload_n 2, 1) := by decide +kernel
theorem dX4_allWeight_20 : decode cX4_allWeight 20 = .ok (.iconst 0, 1) := by decide +kernel
theorem dX4_allWeight_21 : decode cX4_allWeight 21 = .ok (.invokestatic 30, 3) := by decide +kernel
theorem dX4_allWeight_24 : decode cX4_allWeight 24 = .ok (.iaload, 1) := by decide +kernel
theorem dX4_allWeight_25 : decode cX4_allWeight 25 = .ok (.aload_n 0, 1) := by decide +kernel
theorem dX4_allWeight_26 : decode cX4_allWeight 26 = .ok (.getfield 7, 3) := by decide +kernel
theorem dX4_allWeight_29 : decode cX4_allWeight 29 = .ok (.iload_n 2, 1) := by decide +kernel
theorem dX4_allWeight_30 : decode cX4_allWeight 30 = .ok (.iconst 1, 1) := by decide +kernel
theorem dX4_allWeight_31 : decode cX4_allWeight 31 = .ok (.invokestatic 30, 3) := by decide +kernel
theorem dX4_allWeight_34 : decode cX4_allWeight 34 = .ok (.iaload, 1) := by decide +kernel
theorem dX4_allWeight_35 : decode cX4_allWeight 35 = .ok (.imul, 1) := by decide +kernel
theorem dX4_allWeight_36 : decode cX4_allWeight 36 = .ok (.iadd, 1) := by decide +kernel
theorem dX4_allWeight_37 : decode cX4_allWeight 37 = .ok (.istore_n 1, 1) := by decide +kernel
theorem dX4_allWeight_38 : decode cX4_allWeight 38 = .ok (.iinc 2 1, 3) := by decide +kernel
theorem dX4_allWeight_41 : decode cX4_allWeight 41 = .ok (.goto (-37), 3) := by decide +kernel
theorem dX4_allWeight_44 : decode cX4_allWeight 44 = .ok (.iload_n 1, 1) := by decide +kernel
theorem dX4_allWeight_45 : decode cX4_allWeight 45 = .ok (.ireturn, 1) := by decide +kernel
set_option maxRecDepth 20000 in
theorem ggX4_count_X4_in : GoodIn wsX4_count wsX4_in := goodIn_r _ [6] (by decide +kernel) (by decide +kernel)
set_option maxRecDepth 20000 in
theorem gX4_count_X4_in : GoodIn wsX4_count (va_wsS RX4 26 yX4_in wsX4_in) := goodIn_app (goodIn_of _ (by decide +kernel)) ggX4_count_X4_in
set_option maxRecDepth 20000 in
theorem ggX4_count_X4_allThick : GoodIn wsX4_count wsX4_allThick := goodIn_r _ [10, 1, 11, 12, 13, 5, 14, 15, 16, 17, 22, 23, 24, 25, 26, 27] (by decide +kernel) (by decide +kernel)
set_option maxRecDepth 20000 in
theorem gX4_count_X4_allThick : GoodIn wsX4_count (wsV RX4 88 RX4 yX4_allThick wsX4_allThick) := goodIn_app (goodIn_of _ (by decide +kernel)) ggX4_count_X4_allThick
set_option maxRecDepth 20000 in
theorem ggX4_count_X4_allWeight : GoodIn wsX4_count wsX4_allWeight := goodIn_r _ [21, 1, 15, 16, 5, 17, 22, 23, 24, 25, 26, 27] (by decide +kernel) (by decide +kernel)
set_option maxRecDepth 20000 in
theorem gX4_count_X4_allWeight : GoodIn wsX4_count (wsV RX4 103 RX4 yX4_allWeight wsX4_allWeight) := goodIn_app (goodIn_of _ (by decide +kernel)) ggX4_count_X4_allWeight
theorem dX4_count_0 : decode cX4_count 0 = .ok (.iload_n 1, 1) := by decide +kernel
theorem dX4_count_1 : decode cX4_count 1 = .ok (.bipush 10, 2) := by decide +kernel
theorem dX4_count_3 : decode cX4_count 3 = .ok (.bipush 14, 2) := by decide +kernel
theorem dX4_count_5 : decode cX4_count 5 = .ok (.invokestatic 26, 3) := by decide +kernel
theorem dX4_count_8 : decode cX4_count 8 = .ok (.ifCond .eq 15, 3) := by decide +kernel
theorem dX4_count_11 : decode cX4_count 11 = .ok (.aload_n 0, 1) := by decide +kernel
theorem dX4_count_12 : decode cX4_count 12 = .ok (.getfield 7, 3) := by decide +kernel
theorem dX4_count_15 : decode cX4_count 15 = .ok (.iconst 2, 1) := by decide +kernel
theorem dX4_count_16 : decode cX4_count 16 = .ok (.iload_n 1, 1) := by decide +kernel
theorem dX4_count_17 : decode cX4_count 17 = .ok (.iadd, 1) := by decide +kernel
theorem dX4_count_18 : decode cX4_count 18 = .ok (.bipush 10, 2) := by decide +kernel
theorem dX4_count_20 : decode cX4_count 20 = .ok (.isub, 1) := by decide +kernel
theorem dX4_count_21 : decode cX4_count 21 = .ok (.iaload, 1) := by decide +kernel
theorem dX4_count_22 : decode cX4_count 22 = .ok (.ireturn, 1) := by decide +kernel
theorem dX4_count_23 : decode cX4_count 23 = .ok (.iload_n 1, 1) := by decide +kernel
theorem dX4_count_24 : decode cX4_count 24 = .ok (.tableswitch 90 0 4 #[36, 43, 48, 53, 60], 36) := by decide +kernel
theorem dX4_count_60 : decode cX4_count 60 = .ok (.aload_n 0, 1) := by decide +kernel
theorem dX4_count_61 : decode cX4_count 61 = .ok (.getfield 7, 3) := by decide +kernel
theorem dX4_count_64 : decode cX4_count 64 = .ok (.iconst 0, 1) := by decide +kernel
theorem dX4_count_65 : decode cX4_count 65 = .ok (.iaload, 1) := by decide +kernel
theorem dX4_count_66 : decode cX4_count 66 = .ok (.ireturn, 1) := by decide +kernel
theorem dX4_count_67 : decode cX4_count 67 = .ok (.aload_n 0, 1) := by decide +kernel
theorem dX4_count_68 : decode cX4_count 68 = .ok (.invokevirtual 88, 3) := by decide +kernel
theorem dX4_count_71 : decode cX4_count 71 = .ok (.ireturn, 1) := by decide +kernel
theorem dX4_count_72 : decode cX4_count 72 = .ok (.aload_n 0, 1) := by decide +kernel
theorem dX4_count_73 : decode cX4_count 73 = .ok (.invokevirtual 103, 3) := by decide +kernel
theorem dX4_count_76 : decode cX4_count 76 = .ok (.ireturn, 1) := by decide +kernel
theorem dX4_count_77 : decode cX4_count 77 = .ok (.aload_n 0, 1) := by decide +kernel
theorem dX4_count_78 : decode cX4_count 78 = .ok (.getfield 7, 3) := by decide +kernel
theorem dX4_count_81 : decode cX4_count 81 = .ok (.iconst 1, 1) := by decide +kernel
theorem dX4_count_82 : decode cX4_count 82 = .ok (.iaload, 1) := by decide +kernel
theorem dX4_count_83 : decode cX4_count 83 = .ok (.ireturn, 1) := by decide +kernel
theorem dX4_count_84 : decode cX4_count 84 = .ok (.aload_n 0, 1) := by decide +kernel
theorem dX4_count_85 : decode cX4_count 85 = .ok (.getfield 16, 3) := by decide +kernel
theorem dX4_count_88 : decode cX4_count 88 = .ok (.iconst 0, 1) := by decide +kernel
theorem dX4_count_89 : decode cX4_count 89 = .ok (.baload, 1) := by decide +kernel
theorem dX4_count_90 : decode cX4_count 90 = .ok (.ifCond .eq 7, 3) := by decide +kernel
theorem dX4_count_93 : decode cX4_count 93 = .ok (.iconst 1, 1) := by decide +kernel
theorem dX4_count_94 : decode cX4_count 94 = .ok (.goto 4, 3) := by decide +kernel
theorem dX4_count_97 : decode cX4_count 97 = .ok (.iconst 0, 1) := by decide +kernel
theorem dX4_count_98 : decode cX4_count 98 = .ok (.aload_n 0, 1) := by decide +kernel
theorem dX4_count_99 : decode cX4_count 99 = .ok (.getfield 16, 3) := by decide +kernel
theorem dX4_count_102 : decode cX4_count 102 = .ok (.iconst 1, 1) := by decide +kernel
theorem dX4_count_103 : decode cX4_count 103 = .ok (.baload, 1) := by decide +kernel
theorem dX4_count_104 : decode cX4_count 104 = .ok (.ifCond .eq 7, 3) := by decide +kernel
theorem dX4_count_107 : decode cX4_count 107 = .ok (.iconst 2, 1) := by decide +kernel
theorem dX4_count_108 : decode cX4_count 108 = .ok (.goto 4, 3) := by decide +kernel
theorem dX4_count_111 : decode cX4_count 111 = .ok (.iconst 0, 1) := by decide +kernel
theorem dX4_count_112 : decode cX4_count 112 = .ok (.iadd, 1) := by decide +kernel
theorem dX4_count_113 : decode cX4_count 113 = .ok (.ireturn, 1) := by decide +kernel
theorem dX4_count_114 : decode cX4_count 114 = .ok (.bipush (-2), 2) := by decide +kernel
theorem dX4_count_116 : decode cX4_count 116 = .ok (.ireturn, 1) := by decide +kernel
end
section
theorem dJ9_abs_0f7a4_0 : decode cJ9_abs_0f7a4 0 = .ok (.iload_n 0, 1) := by decide +kernel
theorem dJ9_abs_0f7a4_1 : decode cJ9_abs_0f7a4 1 = .ok (.ifCond .ge 8, 3) := by decide +kernel
theorem dJ9_abs_0f7a4_4 : decode cJ9_abs_0f7a4 4 = .ok (.iload_n 0, 1) := by decide +kernel
theorem dJ9_abs_0f7a4_5 : decode cJ9_abs_0f7a4 5 = .ok (.ineg, 1) := by decide +kernel
theorem dJ9_abs_0f7a4_6 : decode cJ9_abs_0f7a4 6 = .ok (.goto 4, 3) := by decide +kernel
theorem dJ9_abs_0f7a4_9 : decode cJ9_abs_0f7a4 9 = .ok (.iload_n 0, 1) := by decide +kernel
theorem dJ9_abs_0f7a4_10 : decode cJ9_abs_0f7a4 10 = .ok (.ireturn, 1) := by decide +kernel
theorem dJ9_max_7cf53_0 : decode cJ9_max_7cf53 0 = .ok (.iload_n 0, 1) := by decide +kernel
theorem dJ9_max_7cf53_1 : decode cJ9_max_7cf53 1 = .ok (.iload_n 1, 1) := by decide +kernel
theorem dJ9_max_7cf53_2 : decode cJ9_max_7cf53 2 = .ok (.if_icmp .lt 7, 3) := by decide +kernel
theorem dJ9_max_7cf53_5 : decode cJ9_max_7cf53 5 = .ok (.iload_n 0, 1) := by decide +kernel
theorem dJ9_max_7cf53_6 : decode cJ9_max_7cf53 6 = .ok (.goto 4, 3) := by decide +kernel
theorem dJ9_max_7cf53_9 : decode cJ9_max_7cf53 9 = .ok (.iload_n 1, 1) := by decide +kernel
theorem dJ9_max_7cf53_10 : decode cJ9_max_7cf53 10 = .ok (.ireturn, 1) := by decide +kernel
theorem dJ9_min_7cf53_0 : decode cJ9_min_7cf53 0 = .ok (.iload_n 0, 1) := by decide +kernel
theorem dJ9_min_7cf53_1 : decode cJ9_min_7cf53 1 = .ok (.iload_n 1, 1) := by decide +kernel
theorem dJ9_min_7cf53_2 : decode cJ9_min_7cf53 2 = .ok (.if_icmp .gt 7, 3) := by decide +kernel
theorem dJ9_min_7cf53_5 : decode cJ9_min_7cf53 5 = .ok (.iload_n 0, 1) := by decide +kernel
theorem dJ9_min_7cf53_6 : decode cJ9_min_7cf53 6 = .ok (.goto 4, 3) := by decide +kernel
theorem dJ9_min_7cf53_9 : decode cJ9_min_7cf53 9 = .ok (.iload_n 1, 1) := by decide +kernel
theorem dJ9_min_7cf53_10 : decode cJ9_min_7cf53 10 = .ok (.ireturn, 1) := by decide +kernel
set_option maxRecDepth 20000 in
theorem ggL_law_X3_init : GoodIn wsL_law wsX3_init := goodIn_r _ [8, 9, 10, 11, 12, 13, 14, 15, 16, 17, 18, 19, 20, 21, 22, 23, 24, 25, 26, 27, 28, 29, 30, 31, 32, 33, 34, 35, 36, 37, 38, 39, 40, 41, 42, 43, 44, 45, 46, 47, 477, 478, 479, 480, 481, 482, 483, 484, 468, 469, 470, 485, 486, 487] (by decide +kernel) (by decide +kernel)
set_option maxRecDepth 20000 in
theorem gL_law_X3_init : GoodIn wsL_law (wsX3_init) := ggL_law_X3_init
set_option maxRecDepth 20000 in
theorem ggL_law_X4_init : GoodIn wsL_law wsX4_init := goodIn_r _ [50, 51, 10, 11, 27, 52, 53, 32, 54, 55, 56, 471, 472, 473, 474, 475, 476] (by decide +kernel) (by decide +kernel)
set_option maxRecDepth 20000 in
theorem gL_law_X4_init : GoodIn wsL_law (wsX4_init) := ggL_law_X4_init
set_option maxRecDepth 20000 in
theorem ggL_law_X3_storm : GoodIn wsL_law wsX3_storm := goodIn_r _ [60, 15, 61, 62, 63, 2, 64, 65, 66, 67, 14, 68, 25, 28, 29, 30, 31, 33, 468, 469, 470, 477, 478, 479, 480, 481, 482, 483, 484] (by decide +kernel) (by decide +kernel)
set_option maxRecDepth 20000 in
theorem gL_law_X3_storm : GoodIn wsL_law (wsV RL 13 RX3 yX3_storm wsX3_storm) := goodIn_app (goodIn_of _ (by decide +kernel)) ggL_law_X3_storm
set_option maxRecDepth 20000 in
theorem ggL_law_X4_storm : GoodIn wsL_law wsX4_storm := goodIn_r _ [72, 52, 73, 74, 5, 75, 76, 77, 78, 471, 472, 473, 474, 475, 476] (by decide +kernel) (by decide +kernel)
set_option maxRecDepth 20000 in
theorem gL_law_X4_storm : GoodIn wsL_law (wsV RL 17 RX4 yX4_storm wsX4_storm) := goodIn_app (goodIn_of _ (by decide +kernel)) ggL_law_X4_storm
set_option maxRecDepth 20000 in
theorem ggL_law_X3_firm : GoodIn wsL_law wsX3_firm := goodIn_r _ [82, 15, 83, 62, 63, 2, 64, 468, 469, 470, 477, 478, 479, 480, 481, 482, 483, 484] (by decide +kernel) (by decide +kernel)
set_option maxRecDepth 20000 in
theorem gL_law_X3_firm : GoodIn wsL_law (wsV RL 18 RX3 yX3_firm wsX3_firm) := goodIn_app (goodIn_of _ (by decide +kernel)) ggL_law_X3_firm
set_option maxRecDepth 20000 in
theorem ggL_law_X4_firm : GoodIn wsL_law wsX4_firm := goodIn_r _ [87, 52, 73, 74, 5, 75, 471, 472, 473, 474, 475, 476] (by decide +kernel) (by decide +kernel)
set_option maxRecDepth 20000 in
theorem gL_law_X4_firm : GoodIn wsL_law (wsV RL 22 RX4 yX4_firm wsX4_firm) := goodIn_app (goodIn_of _ (by decide +kernel)) ggL_law_X4_firm
set_option maxRecDepth 20000 in
theorem ggL_law_X3_layer : GoodIn wsL_law wsX3_layer := goodIn_r _ [91, 15, 92, 93, 94, 95, 96, 61, 97, 98, 99, 14, 100, 25, 63, 2, 64, 101, 102, 103, 104, 40, 30, 31, 29, 33, 105, 106, 107, 108, 28, 109, 110, 111, 112, 113, 114, 115, 116, 468, 469, 470, 477, 478, 479, 480, 481, 482, 483, 484] (by decide +kernel) (by decide +kernel)
set_option maxRecDepth 20000 in
theorem gL_law_X3_layer : GoodIn wsL_law (wsV RL 23 RX3 yX3_layer wsX3_layer) := goodIn_app (goodIn_of _ (by decide +kernel)) ggL_law_X3_layer
set_option maxRecDepth 20000 in
theorem ggL_law_X4_layer : GoodIn wsL_law wsX4_layer := goodIn_r _ [120, 52, 121, 122, 123, 5, 124, 73, 74, 75, 76, 77, 78, 125, 126, 127, 128, 129, 130, 131, 132, 133, 134, 135, 136, 471, 472, 473, 474, 475, 476] (by decide +kernel) (by decide +kernel)
set_option maxRecDepth 20000 in
theorem gL_law_X4_layer : GoodIn wsL_law (wsV RL 26 RX4 yX4_layer wsX4_layer) := goodIn_app (goodIn_of _ (by decide +kernel)) ggL_law_X4_layer
set_option maxRecDepth 20000 in
theorem ggL_law_X3_slope : GoodIn wsL_law wsX3_slope := goodIn_r _ [140, 15, 97, 98, 99, 14, 100, 25, 63, 2, 64, 62, 141, 142, 143, 144, 145, 110, 111, 112, 113, 114, 115, 116, 28, 29, 146, 147, 148, 149, 150, 151, 102, 103, 104, 40, 30, 31, 33, 468, 469, 470, 477, 478, 479, 480, 481, 482, 483, 484] (by decide +kernel) (by decide +kernel)
set_option maxRecDepth 20000 in
theorem gL_law_X3_slope : GoodIn wsL_law (wsV RL 27 RX3 yX3_slope wsX3_slope) := goodIn_app (goodIn_of _ (by decide +kernel)) ggL_law_X3_slope
set_option maxRecDepth 20000 in
theorem ggL_law_X4_slope : GoodIn wsL_law wsX4_slope := goodIn_r _ [155, 121, 122, 123, 5, 124, 52, 73, 74, 75, 156, 157, 158, 159, 160, 161, 162, 133, 134, 135, 136, 76, 77, 78, 163, 164, 165, 166, 125, 126, 127, 128, 471, 472, 473, 474, 475, 476] (by decide +kernel) (by decide +kernel)
set_option maxRecDepth 20000 in
theorem gL_law_X4_slope : GoodIn wsL_law (wsV RL 31 RX4 yX4_slope wsX4_slope) := goodIn_app (goodIn_of _ (by decide +kernel)) ggL_law_X4_slope
set_option maxRecDepth 20000 in
theorem ggL_law_X3_weakest : GoodIn wsL_law wsX3_weakest := goodIn_r _ [170, 15, 62, 63, 2, 64, 171, 172, 173, 14, 174, 25, 175, 147, 148, 149, 150, 142, 143, 144, 145, 110, 111, 112, 113, 114, 115, 116, 28, 29, 151, 102, 103, 104, 40, 30, 31, 33, 146, 468, 469, 470, 477, 478, 479, 480, 481, 482, 483, 484] (by decide +kernel) (by decide +kernel)
set_option maxRecDepth 20000 in
theorem gL_law_X3_weakest : GoodIn wsL_law (wsV RL 32 RX3 yX3_weakest wsX3_weakest) := goodIn_app (goodIn_of _ (by decide +kernel)) ggL_law_X3_weakest
set_option maxRecDepth 20000 in
theorem ggL_law_X4_weakest : GoodIn wsL_law wsX4_weakest := goodIn_r _ [179, 156, 157, 5, 158, 73, 74, 75, 180, 181, 182, 183, 52, 163, 164, 165, 166, 159, 160, 161, 162, 133, 134, 135, 136, 76, 77, 78, 125, 126, 127, 128, 471, 472, 473, 474, 475, 476] (by decide +kernel) (by decide +kernel)
set_option maxRecDepth 20000 in
theorem gL_law_X4_weakest : GoodIn wsL_law (wsV RL 35 RX4 yX4_weakest wsX4_weakest) := goodIn_app (goodIn_of _ (by decide +kernel)) ggL_law_X4_weakest
set_option maxRecDepth 20000 in
theorem ggL_law_X3_blow : GoodIn wsL_law wsX3_blow := goodIn_r _ [187, 15, 188, 62, 63, 2, 64, 468, 469, 470, 477, 478, 479, 480, 481, 482, 483, 484] (by decide +kernel) (by decide +kernel)
set_option maxRecDepth 20000 in
theorem gL_law_X3_blow : GoodIn wsL_law (wsV RL 36 RX3 yX3_blow wsX3_blow) := goodIn_app (goodIn_of _ (by decide +kernel)) ggL_law_X3_blow
set_option maxRecDepth 20000 in
theorem ggL_law_X4_blow : GoodIn wsL_law wsX4_blow := goodIn_r _ [192, 52, 73, 74, 5, 75, 471, 472, 473, 474, 475, 476] (by decide +kernel) (by decide +kernel)
set_option maxRecDepth 20000 in
theorem gL_law_X4_blow : GoodIn wsL_law (wsV RL 40 RX4 yX4_blow wsX4_blow) := goodIn_app (goodIn_of _ (by decide +kernel)) ggL_law_X4_blow
set_option maxRecDepth 20000 in
theorem ggL_law_X3_taps : GoodIn wsL_law wsX3_taps := goodIn_r _ [196, 19, 15, 197, 198, 199, 62, 63, 2, 64, 200, 201, 202, 18, 203, 45, 204, 205, 46, 47, 206, 207, 208, 209, 210, 211, 14, 212, 145, 110, 111, 112, 113, 114, 115, 116, 28, 29, 213, 214, 215, 216, 217, 106, 107, 108, 218, 219, 151, 102, 103, 104, 40, 30, 31, 33, 220, 221, 222, 223, 224, 225, 226, 227, 228, 468, 469, 470, 485, 486, 487, 477, 478, 479, 480, 481, 482, 483, 484] (by decide +kernel) (by decide +kernel)
set_option maxRecDepth 20000 in
theorem gL_law_X3_taps : GoodIn wsL_law (wsV RL 41 RX3 yX3_taps wsX3_taps) := goodIn_app (goodIn_of _ (by decide +kernel)) ggL_law_X3_taps
set_option maxRecDepth 20000 in
theorem ggL_law_X4_taps : GoodIn wsL_law wsX4_taps := goodIn_r _ [232, 52, 233, 55, 56, 73, 74, 5, 75, 234, 235, 236, 237, 238, 239, 240, 241, 242, 243, 244, 133, 134, 135, 136, 76, 77, 78, 245, 246, 247, 248, 129, 130, 131, 132, 125, 126, 127, 128, 249, 250, 251, 252, 471, 472, 473, 474, 475, 476] (by decide +kernel) (by decide +kernel)
set_option maxRecDepth 20000 in
theorem gL_law_X4_taps : GoodIn wsL_law (wsV RL 44 RX4 yX4_taps wsX4_taps) := goodIn_app (goodIn_of _ (by decide +kernel)) ggL_law_X4_taps
set_option maxRecDepth 20000 in
theorem ggL_law_X3_need : GoodIn wsL_law wsX3_need := goodIn_r _ [256, 15, 61, 62, 63, 2, 64, 257, 207, 18, 208, 258, 210, 211, 14, 212, 145, 110, 111, 112, 113, 114, 115, 116, 28, 29, 213, 214, 215, 216, 217, 106, 107, 108, 218, 219, 151, 102, 103, 104, 40, 30, 31, 33, 468, 469, 470, 477, 478, 479, 480, 481, 482, 483, 484] (by decide +kernel) (by decide +kernel)
set_option maxRecDepth 20000 in
theorem gL_law_X3_need : GoodIn wsL_law (wsV RL 45 RX3 yX3_need wsX3_need) := goodIn_app (goodIn_of _ (by decide +kernel)) ggL_law_X3_need
set_option maxRecDepth 20000 in
theorem ggL_law_X4_need : GoodIn wsL_law wsX4_need := goodIn_r _ [262, 233, 73, 74, 5, 75, 234, 235, 236, 237, 52, 55, 56, 238, 239, 240, 241, 242, 243, 244, 133, 134, 135, 136, 76, 77, 78, 245, 246, 247, 248, 129, 130, 131, 132, 125, 126, 127, 128, 471, 472, 473, 474, 475, 476] (by decide +kernel) (by decide +kernel)
set_option maxRecDepth 20000 in
theorem gL_law_X4_need : GoodIn wsL_law (wsV RL 48 RX4 yX4_need wsX4_need) := goodIn_app (goodIn_of _ (by decide +kernel)) ggL_law_X4_need
set_option maxRecDepth 20000 in
theorem ggL_law_X3_goes : GoodIn wsL_law wsX3_goes := goodIn_r _ [266, 15, 61, 97, 98, 99, 14, 100, 25, 63, 2, 64, 62, 267, 268, 269, 270, 150, 142, 143, 144, 145, 110, 111, 112, 113, 114, 115, 116, 28, 29, 213, 214, 215, 216, 217, 106, 107, 108, 218, 219, 151, 102, 103, 104, 40, 30, 31, 33, 468, 469, 470, 477, 478, 479, 480, 481, 482, 483, 484] (by decide +kernel) (by decide +kernel)
set_option maxRecDepth 20000 in
theorem gL_law_X3_goes : GoodIn wsL_law (wsV RL 49 RX3 yX3_goes wsX3_goes) := goodIn_app (goodIn_of _ (by decide +kernel)) ggL_law_X3_goes
set_option maxRecDepth 20000 in
theorem ggL_law_X4_goes : GoodIn wsL_law wsX4_goes := goodIn_r _ [274, 121, 122, 123, 5, 124, 52, 73, 74, 75, 156, 157, 158, 180, 181, 182, 183, 275, 276, 277, 278, 159, 160, 161, 162, 133, 134, 135, 136, 76, 77, 78, 245, 246, 247, 248, 129, 130, 131, 132, 125, 126, 127, 128, 471, 472, 473, 474, 475, 476] (by decide +kernel) (by decide +kernel)
set_option maxRecDepth 20000 in
theorem gL_law_X4_goes : GoodIn wsL_law (wsV RL 52 RX4 yX4_goes wsX4_goes) := goodIn_app (goodIn_of _ (by decide +kernel)) ggL_law_X4_goes
set_option maxRecDepth 20000 in
theorem ggL_law_X3_steep : GoodIn wsL_law wsX3_steep := goodIn_r _ [282, 15, 62, 63, 2, 64, 283, 284, 285, 14, 286, 25, 287, 268, 269, 270, 150, 142, 143, 144, 145, 110, 111, 112, 113, 114, 115, 116, 28, 29, 213, 214, 215, 216, 217, 106, 107, 108, 218, 219, 151, 102, 103, 104, 40, 30, 31, 33, 468, 469, 470, 477, 478, 479, 480, 481, 482, 483, 484] (by decide +kernel) (by decide +kernel)
set_option maxRecDepth 20000 in
theorem gL_law_X3_steep : GoodIn wsL_law (wsV RL 53 RX3 yX3_steep wsX3_steep) := goodIn_app (goodIn_of _ (by decide +kernel)) ggL_law_X3_steep
set_option maxRecDepth 20000 in
theorem ggL_law_X4_steep : GoodIn wsL_law wsX4_steep := goodIn_r _ [291, 73, 74, 5, 75, 180, 181, 182, 183, 52, 275, 276, 277, 278, 159, 160, 161, 162, 133, 134, 135, 136, 76, 77, 78, 245, 246, 247, 248, 129, 130, 131, 132, 125, 126, 127, 128, 471, 472, 473, 474, 475, 476] (by decide +kernel) (by decide +kernel)
set_option maxRecDepth 20000 in
theorem gL_law_X4_steep : GoodIn wsL_law (wsV RL 56 RX4 yX4_steep wsX4_steep) := goodIn_app (goodIn_of _ (by decide +kernel)) ggL_law_X4_steep
set_option maxRecDepth 20000 in
theorem ggL_law_X3_pack : GoodIn wsL_law wsX3_pack := goodIn_r _ [295, 15, 61, 62, 63, 2, 64, 296, 297, 298, 14, 299, 25, 29, 300, 301, 227, 302, 28, 303, 304, 305, 31, 218, 219, 468, 469, 470, 477, 478, 479, 480, 481, 482, 483, 484] (by decide +kernel) (by decide +kernel)
set_option maxRecDepth 20000 in
theorem gL_law_X3_pack : GoodIn wsL_law (wsV RL 57 RX3 yX3_pack wsX3_pack) := goodIn_app (goodIn_of _ (by decide +kernel)) ggL_law_X3_pack
set_option maxRecDepth 20000 in
theorem ggL_law_X4_pack : GoodIn wsL_law wsX4_pack := goodIn_r _ [309, 52, 73, 74, 5, 75, 180, 181, 182, 183, 76, 77, 78, 471, 472, 473, 474, 475, 476] (by decide +kernel) (by decide +kernel)
set_option maxRecDepth 20000 in
theorem gL_law_X4_pack : GoodIn wsL_law (wsV RL 60 RX4 yX4_pack wsX4_pack) := goodIn_app (goodIn_of _ (by decide +kernel)) ggL_law_X4_pack
set_option maxRecDepth 20000 in
theorem ggL_law_X3_settle : GoodIn wsL_law wsX3_settle := goodIn_r _ [313, 15, 61, 62, 63, 2, 64, 314, 315, 316, 14, 317, 25, 30, 28, 29, 303, 304, 227, 305, 300, 301, 302, 218, 219, 318, 319, 320, 321, 217, 106, 107, 108, 468, 469, 470, 477, 478, 479, 480, 481, 482, 483, 484] (by decide +kernel) (by decide +kernel)
set_option maxRecDepth 20000 in
theorem gL_law_X3_settle : GoodIn wsL_law (wsV RL 61 RX3 yX3_settle wsX3_settle) := goodIn_app (goodIn_of _ (by decide +kernel)) ggL_law_X3_settle
set_option maxRecDepth 20000 in
theorem ggL_law_X4_settle : GoodIn wsL_law wsX4_settle := goodIn_r _ [325, 52, 73, 74, 5, 75, 76, 77, 78, 326, 327, 328, 329, 330, 331, 332, 333, 129, 130, 131, 132, 471, 472, 473, 474, 475, 476] (by decide +kernel) (by decide +kernel)
set_option maxRecDepth 20000 in
theorem gL_law_X4_settle : GoodIn wsL_law (wsV RL 64 RX4 yX4_settle wsX4_settle) := goodIn_app (goodIn_of _ (by decide +kernel)) ggL_law_X4_settle
set_option maxRecDepth 20000 in
theorem ggL_law_X3_melt : GoodIn wsL_law wsX3_melt := goodIn_r _ [337, 15, 61, 62, 63, 2, 64, 338, 339, 340, 14, 341, 25, 28, 342, 343, 344, 345, 30, 33, 468, 469, 470, 477, 478, 479, 480, 481, 482, 483, 484] (by decide +kernel) (by decide +kernel)
set_option maxRecDepth 20000 in
theorem gL_law_X3_melt : GoodIn wsL_law (wsV RL 65 RX3 yX3_melt wsX3_melt) := goodIn_app (goodIn_of _ (by decide +kernel)) ggL_law_X3_melt
set_option maxRecDepth 20000 in
theorem ggL_law_X4_melt : GoodIn wsL_law wsX4_melt := goodIn_r _ [349, 52, 73, 74, 5, 75, 180, 181, 182, 183, 76, 77, 78, 471, 472, 473, 474, 475, 476] (by decide +kernel) (by decide +kernel)
set_option maxRecDepth 20000 in
theorem gL_law_X4_melt : GoodIn wsL_law (wsV RL 68 RX4 yX4_melt wsX4_melt) := goodIn_app (goodIn_of _ (by decide +kernel)) ggL_law_X4_melt
set_option maxRecDepth 20000 in
theorem ggL_law_X3_freeze : GoodIn wsL_law wsX3_freeze := goodIn_r _ [353, 15, 354, 355, 356, 14, 357, 25, 33, 30, 31, 468, 469, 470, 477, 478, 479, 480, 481, 482, 483, 484] (by decide +kernel) (by decide +kernel)
set_option maxRecDepth 20000 in
theorem gL_law_X3_freeze : GoodIn wsL_law (wsV RL 69 RX3 yX3_freeze wsX3_freeze) := goodIn_app (goodIn_of _ (by decide +kernel)) ggL_law_X3_freeze
set_option maxRecDepth 20000 in
theorem ggL_law_X4_freeze : GoodIn wsL_law wsX4_freeze := goodIn_r _ [361, 52, 76, 77, 5, 78, 471, 472, 473, 474, 475, 476] (by decide +kernel) (by decide +kernel)
set_option maxRecDepth 20000 in
theorem gL_law_X4_freeze : GoodIn wsL_law (wsV RL 73 RX4 yX4_freeze wsX4_freeze) := goodIn_app (goodIn_of _ (by decide +kernel)) ggL_law_X4_freeze
set_option maxRecDepth 20000 in
theorem ggL_law_X3_slide : GoodIn wsL_law wsX3_slide := goodIn_r _ [365, 15, 61, 468, 469, 470, 477, 478, 479, 480, 481, 482, 483, 484] (by decide +kernel) (by decide +kernel)
set_option maxRecDepth 20000 in
theorem gL_law_X3_slide : GoodIn wsL_law (wsV RL 74 RX3 yX3_slide wsX3_slide) := goodIn_app (goodIn_of _ (by decide +kernel)) ggL_law_X3_slide
set_option maxRecDepth 20000 in
theorem ggL_law_X4_slide : GoodIn wsL_law wsX4_slide := goodIn_r _ [369, 52, 471, 472, 473, 474, 475, 476] (by decide +kernel) (by decide +kernel)
set_option maxRecDepth 20000 in
theorem gL_law_X4_slide : GoodIn wsL_law (wsV RL 77 RX4 yX4_slide wsX4_slide) := goodIn_app (goodIn_of _ (by decide +kernel)) ggL_law_X4_slide
set_option maxRecDepth 20000 in
theorem ggL_law_X3_heat : GoodIn wsL_law wsX3_heat := goodIn_r _ [373, 62, 63, 2, 64, 374, 375, 376, 377, 378, 226, 227, 228, 379, 301, 302, 380, 304, 305, 381, 382, 383, 384] (by decide +kernel) (by decide +kernel)
set_option maxRecDepth 20000 in
theorem gL_law_X3_heat : GoodIn wsL_law (wsV RL 78 RX3 yX3_heat wsX3_heat) := goodIn_app (goodIn_of _ (by decide +kernel)) ggL_law_X3_heat
set_option maxRecDepth 20000 in
theorem ggL_law_X4_heat : GoodIn wsL_law wsX4_heat := goodIn_r _ [388, 389, 390, 5, 391, 73, 74, 75, 392, 393, 394, 395, 396, 397] (by decide +kernel) (by decide +kernel)
set_option maxRecDepth 20000 in
theorem gL_law_X4_heat : GoodIn wsL_law (wsV RL 81 RX4 yX4_heat wsX4_heat) := goodIn_app (goodIn_of _ (by decide +kernel)) ggL_law_X4_heat
set_option maxRecDepth 20000 in
theorem ggL_law_X3_warm : GoodIn wsL_law wsX3_warm := goodIn_r _ [401, 62, 63, 2, 64, 402, 403, 376, 404, 384, 375, 377, 378, 226, 227, 228, 379, 301, 302, 380, 304, 305] (by decide +kernel) (by decide +kernel)
set_option maxRecDepth 20000 in
theorem gL_law_X3_warm : GoodIn wsL_law (wsV RL 82 RX3 yX3_warm wsX3_warm) := goodIn_app (goodIn_of _ (by decide +kernel)) ggL_law_X3_warm
set_option maxRecDepth 20000 in
theorem ggL_law_X4_warm : GoodIn wsL_law wsX4_warm := goodIn_r _ [408, 389, 390, 5, 391, 73, 74, 75, 409, 410, 411, 395, 396, 397, 392, 393, 394] (by decide +kernel) (by decide +kernel)
set_option maxRecDepth 20000 in
theorem gL_law_X4_warm : GoodIn wsL_law (wsV RL 85 RX4 yX4_warm wsX4_warm) := goodIn_app (goodIn_of _ (by decide +kernel)) ggL_law_X4_warm
set_option maxRecDepth 20000 in
theorem ggL_law_X3_order : GoodIn wsL_law wsX3_order := goodIn_r _ [415, 62, 63, 2, 64, 416, 417, 376, 418, 419, 403, 404, 384, 375, 377, 378, 226, 227, 228, 379, 301, 302, 380, 304, 305, 420, 421, 422] (by decide +kernel) (by decide +kernel)
set_option maxRecDepth 20000 in
theorem gL_law_X3_order : GoodIn wsL_law (wsV RL 86 RX3 yX3_order wsX3_order) := goodIn_app (goodIn_of _ (by decide +kernel)) ggL_law_X3_order
set_option maxRecDepth 20000 in
theorem ggL_law_X4_order : GoodIn wsL_law wsX4_order := goodIn_r _ [426, 73, 74, 5, 75, 409, 410, 411, 395, 396, 397, 392, 393, 394] (by decide +kernel) (by decide +kernel)
set_option maxRecDepth 20000 in
theorem gL_law_X4_order : GoodIn wsL_law (wsV RL 89 RX4 yX4_order wsX4_order) := goodIn_app (goodIn_of _ (by decide +kernel)) ggL_law_X4_order
set_option maxRecDepth 20000 in
theorem ggL_law_X3_image : GoodIn wsL_law wsX3_image := goodIn_r _ [430, 20, 12, 13, 14, 15, 62, 63, 2, 64, 21, 22, 23, 24, 10, 11, 25, 26, 27, 28, 29, 30, 31, 32, 33, 34, 35, 36, 37, 38, 39, 40, 431, 432, 433, 434, 435, 436, 437, 438, 468, 469, 470, 477, 478, 479, 480, 481, 482, 483, 484] (by decide +kernel) (by decide +kernel)
set_option maxRecDepth 20000 in
theorem gL_law_X3_image : GoodIn wsL_law (wsV RL 90 RX3 yX3_image wsX3_image) := goodIn_app (goodIn_of _ (by decide +kernel)) ggL_law_X3_image
set_option maxRecDepth 20000 in
theorem ggL_law_X4_image : GoodIn wsL_law wsX4_image := goodIn_r _ [442, 53, 52, 54, 73, 74, 5, 75, 471, 472, 473, 474, 475, 476] (by decide +kernel) (by decide +kernel)
set_option maxRecDepth 20000 in
theorem gL_law_X4_image : GoodIn wsL_law (wsV RL 93 RX4 yX4_image wsX4_image) := goodIn_app (goodIn_of _ (by decide +kernel)) ggL_law_X4_image
set_option maxRecDepth 20000 in
theorem ggL_law_X3_restore : GoodIn wsL_law wsX3_restore := goodIn_r _ [446, 20, 15, 62, 63, 2, 64, 431, 432, 433, 14, 434, 25, 26, 28, 435, 436, 437, 438, 29, 30, 31, 33, 40, 468, 469, 470, 477, 478, 479, 480, 481, 482, 483, 484] (by decide +kernel) (by decide +kernel)
set_option maxRecDepth 20000 in
theorem gL_law_X3_restore : GoodIn wsL_law (wsV RL 94 RX3 yX3_restore wsX3_restore) := goodIn_app (goodIn_of _ (by decide +kernel)) ggL_law_X3_restore
set_option maxRecDepth 20000 in
theorem ggL_law_X4_restore : GoodIn wsL_law wsX4_restore := goodIn_r _ [450, 54, 52, 53, 73, 74, 5, 75, 471, 472, 473, 474, 475, 476] (by decide +kernel) (by decide +kernel)
set_option maxRecDepth 20000 in
theorem gL_law_X4_restore : GoodIn wsL_law (wsV RL 97 RX4 yX4_restore wsX4_restore) := goodIn_app (goodIn_of _ (by decide +kernel)) ggL_law_X4_restore
set_option maxRecDepth 20000 in
theorem ggL_law_X3_count : GoodIn wsL_law wsX3_count := goodIn_r _ [454, 15, 83, 61, 188, 62, 63, 2, 64, 318, 319, 320, 14, 321, 25, 217, 106, 107, 108, 28, 455, 114, 115, 116, 29, 456, 457, 458, 459, 20, 468, 469, 470, 477, 478, 479, 480, 481, 482, 483, 484] (by decide +kernel) (by decide +kernel)
set_option maxRecDepth 20000 in
theorem gL_law_X3_count : GoodIn wsL_law (wsV RL 98 RX3 yX3_count wsX3_count) := goodIn_app (goodIn_of _ (by decide +kernel)) ggL_law_X3_count
set_option maxRecDepth 20000 in
theorem ggL_law_X4_count : GoodIn wsL_law wsX4_count := goodIn_r _ [463, 52, 54, 73, 74, 5, 75, 330, 331, 332, 333, 129, 130, 131, 132, 76, 77, 78, 464, 465, 466, 467, 471, 472, 473, 474, 475, 476] (by decide +kernel) (by decide +kernel)
set_option maxRecDepth 20000 in
theorem gL_law_X4_count : GoodIn wsL_law (wsV RL 101 RX4 yX4_count wsX4_count) := goodIn_app (goodIn_of _ (by decide +kernel)) ggL_law_X4_count
theorem dL_law_0 : decode cL_law 0 = .ok (.new 7, 3) := by decide +kernel
theorem dL_law_3 : decode cL_law 3 = .ok (.dup, 1) := by decide +kernel
theorem dL_law_4 : decode cL_law 4 = .ok (.invokespecial 9, 3) := by decide +kernel
theorem dL_law_7 : decode cL_law 7 = .ok (.astore_n 1, 1) := by decide +kernel
theorem dL_law_8 : decode cL_law 8 = .ok (.new 10, 3) := by decide +kernel
theorem dL_law_11 : decode cL_law 11 = .ok (.dup, 1) := by decide +kernel
theorem dL_law_12 : decode cL_law 12 = .ok (.invokespecial 12, 3) := by decide +kernel
theorem dL_law_15 : decode cL_law 15 = .ok (.astore_n 2, 1) := by decide +kernel
theorem dL_law_16 : decode cL_law 16 = .ok (.iconst 0, 1) := by decide +kernel
theorem dL_law_17 : decode cL_law 17 = .ok (.istore_n 3, 1) := by decide +kernel
theorem dL_law_18 : decode cL_law 18 = .ok (.iload_n 3, 1) := by decide +kernel
theorem dL_law_19 : decode cL_law 19 = .ok (.aload_n 0, 1) := by decide +kernel
theorem dL_law_20 : decode cL_law 20 = .ok (.arraylength, 1) := by decide +kernel
theorem dL_law_21 : decode cL_law 21 = .ok (.iconst 5, 1) := by decide +kernel
theorem dL_law_22 : decode cL_law 22 = .ok (.isub, 1) := by decide +kernel
theorem dL_law_23 : decode cL_law 23 = .ok (.if_icmp .gt 738, 3) := by decide +kernel
theorem dL_law_26 : decode cL_law 26 = .ok (.aload_n 0, 1) := by decide +kernel
theorem dL_law_27 : decode cL_law 27 = .ok (.iload_n 3, 1) := by decide +kernel
theorem dL_law_28 : decode cL_law 28 = .ok (.iaload, 1) := by decide +kernel
theorem dL_law_29 : decode cL_law 29 = .ok (.bipush 31, 2) := by decide +kernel
theorem dL_law_31 : decode cL_law 31 = .ok (.iand, 1) := by decide +kernel
theorem dL_law_32 : decode cL_law 32 = .ok (.tableswitch 723 0 20 #[100, 153, 186, 219, 262, 295, 318, 351, 374, 417, 450, 473, 496, 519, 532, 545, 588, 621, 654, 677, 700], 100) := by decide +kernel
theorem dL_law_132 : decode cL_law 132 = .ok (.aload_n 1, 1) := by decide +kernel
theorem dL_law_133 : decode cL_law 133 = .ok (.aload_n 0, 1) := by decide +kernel
theorem dL_law_134 : decode cL_law 134 = .ok (.iload_n 3, 1) := by decide +kernel
theorem dL_law_135 : decode cL_law 135 = .ok (.iconst 1, 1) := by decide +kernel
theorem dL_law_136 : decode cL_law 136 = .ok (.iadd, 1) := by decide +kernel
theorem dL_law_137 : decode cL_law 137 = .ok (.iaload, 1) := by decide +kernel
theorem dL_law_138 : decode cL_law 138 = .ok (.aload_n 0, 1) := by decide +kernel
theorem dL_law_139 : decode cL_law 139 = .ok (.iload_n 3, 1) := by decide +kernel
theorem dL_law_140 : decode cL_law 140 = .ok (.iconst 2, 1) := by decide +kernel
theorem dL_law_141 : decode cL_law 141 = .ok (.iadd, 1) := by decide +kernel
theorem dL_law_142 : decode cL_law 142 = .ok (.iaload, 1) := by decide +kernel
theorem dL_law_143 : decode cL_law 143 = .ok (.aload_n 0, 1) := by decide +kernel
theorem dL_law_144 : decode cL_law 144 = .ok (.iload_n 3, 1) := by decide +kernel
theorem dL_law_145 : decode cL_law 145 = .ok (.iconst 3, 1) := by decide +kernel
theorem dL_law_146 : decode cL_law 146 = .ok (.iadd, 1) := by decide +kernel
theorem dL_law_147 : decode cL_law 147 = .ok (.iaload, 1) := by decide +kernel
theorem dL_law_148 : decode cL_law 148 = .ok (.aload_n 0, 1) := by decide +kernel
theorem dL_law_149 : decode cL_law 149 = .ok (.iload_n 3, 1) := by decide +kernel
theorem dL_law_150 : decode cL_law 150 = .ok (.iconst 4, 1) := by decide +kernel
theorem dL_law_151 : decode cL_law 151 = .ok (.iadd, 1) := by decide +kernel
theorem dL_law_152 : decode cL_law 152 = .ok (.iaload, 1) := by decide +kernel
theorem dL_law_153 : decode cL_law 153 = .ok (.invokevirtual 13, 3) := by decide +kernel
theorem dL_law_156 : decode cL_law 156 = .ok (.aload_n 2, 1) := by decide +kernel
theorem dL_law_157 : decode cL_law 157 = .ok (.aload_n 0, 1) := by decide +kernel
theorem dL_law_158 : decode cL_law 158 = .ok (.iload_n 3, 1) := by decide +kernel
theorem dL_law_159 : decode cL_law 159 = .ok (.iconst 1, 1) := by decide +kernel
theorem dL_law_160 : decode cL_law 160 = .ok (.iadd, 1) := by decide +kernel
theorem dL_law_161 : decode cL_law 161 = .ok (.iaload, 1) := by decide +kernel
theorem dL_law_162 : decode cL_law 162 = .ok (.aload_n 0, 1) := by decide +kernel
theorem dL_law_163 : decode cL_law 163 = .ok (.iload_n 3, 1) := by decide +kernel
theorem dL_law_164 : decode cL_law 164 = .ok (.iconst 2, 1) := by decide +kernel
theorem dL_law_165 : decode cL_law 165 = .ok (.iadd, 1) := by decide +kernel
theorem dL_law_166 : decode cL_law 166 = .ok (.iaload, 1) := by decide +kernel
theorem dL_law_167 : decode cL_law 167 = .ok (.aload_n 0, 1) := by decide +kernel
theorem dL_law_168 : decode cL_law 168 = .ok (.iload_n 3, 1) := by decide +kernel
theorem dL_law_169 : decode cL_law 169 = .ok (.iconst 3, 1) := by decide +kernel
theorem dL_law_170 : decode cL_law 170 = .ok (.iadd, 1) := by decide +kernel
theorem dL_law_171 : decode cL_law 171 = .ok (.iaload, 1) := by decide +kernel
theorem dL_law_172 : decode cL_law 172 = .ok (.aload_n 0, 1) := by decide +kernel
theorem dL_law_173 : decode cL_law 173 = .ok (.iload_n 3, 1) := by decide +kernel
theorem dL_law_174 : decode cL_law 174 = .ok (.iconst 4, 1) := by decide +kernel
theorem dL_law_175 : decode cL_law 175 = .ok (.iadd, 1) := by decide +kernel
theorem dL_law_176 : decode cL_law 176 = .ok (.iaload, 1) := by decide +kernel
theorem dL_law_177 : decode cL_law 177 = .ok (.invokevirtual 17, 3) := by decide +kernel
theorem dL_law_180 : decode cL_law 180 = .ok (.if_icmp .eq 575, 3) := by decide +kernel
theorem dL_law_183 : decode cL_law 183 = .ok (.iconst 0, 1) := by decide +kernel
theorem dL_law_184 : decode cL_law 184 = .ok (.ireturn, 1) := by decide +kernel
theorem dL_law_185 : decode cL_law 185 = .ok (.aload_n 1, 1) := by decide +kernel
theorem dL_law_186 : decode cL_law 186 = .ok (.aload_n 0, 1) := by decide +kernel
theorem dL_law_187 : decode cL_law 187 = .ok (.iload_n 3, 1) := by decide +kernel
theorem dL_law_188 : decode cL_law 188 = .ok (.iconst 1, 1) := by decide +kernel
theorem dL_law_189 : decode cL_law 189 = .ok (.iadd, 1) := by decide +kernel
theorem dL_law_190 : decode cL_law 190 = .ok (.iaload, 1) := by decide +kernel
theorem dL_law_191 : decode cL_law 191 = .ok (.aload_n 0, 1) := by decide +kernel
theorem dL_law_192 : decode cL_law 192 = .ok (.iload_n 3, 1) := by decide +kernel
theorem dL_law_193 : decode cL_law 193 = .ok (.iconst 2, 1) := by decide +kernel
theorem dL_law_194 : decode cL_law 194 = .ok (.iadd, 1) := by decide +kernel
theorem dL_law_195 : decode cL_law 195 = .ok (.iaload, 1) := by decide +kernel
theorem dL_law_196 : decode cL_law 196 = .ok (.invokevirtual 18, 3) := by decide +kernel
theorem dL_law_199 : decode cL_law 199 = .ok (.aload_n 2, 1) := by decide +kernel
theorem dL_law_200 : decode cL_law 200 = .ok (.aload_n 0, 1) := by decide +kernel
theorem dL_law_201 : decode cL_law 201 = .ok (.iload_n 3, 1) := by decide +kernel
theorem dL_law_202 : decode cL_law 202 = .ok (.iconst 1, 1) := by decide +kernel
theorem dL_law_203 : decode cL_law 203 = .ok (.iadd, 1) := by decide +kernel
theorem dL_law_204 : decode cL_law 204 = .ok (.iaload, 1) := by decide +kernel
theorem dL_law_205 : decode cL_law 205 = .ok (.aload_n 0, 1) := by decide +kernel
theorem dL_law_206 : decode cL_law 206 = .ok (.iload_n 3, 1) := by decide +kernel
theorem dL_law_207 : decode cL_law 207 = .ok (.iconst 2, 1) := by decide +kernel
theorem dL_law_208 : decode cL_law 208 = .ok (.iadd, 1) := by decide +kernel
theorem dL_law_209 : decode cL_law 209 = .ok (.iaload, 1) := by decide +kernel
theorem dL_law_210 : decode cL_law 210 = .ok (.invokevirtual 22, 3) := by decide +kernel
theorem dL_law_213 : decode cL_law 213 = .ok (.if_icmp .eq 542, 3) := by decide +kernel
theorem dL_law_216 : decode cL_law 216 = .ok (.iconst 0, 1) := by decide +kernel
theorem dL_law_217 : decode cL_law 217 = .ok (.ireturn, 1) := by decide +kernel
theorem dL_law_218 : decode cL_law 218 = .ok (.aload_n 1, 1) := by decide +kernel
theorem dL_law_219 : decode cL_law 219 = .ok (.aload_n 0, 1) := by decide +kernel
theorem dL_law_220 : decode cL_law 220 = .ok (.iload_n 3, 1) := by decide +kernel
theorem dL_law_221 : decode cL_law 221 = .ok (.iconst 1, 1) := by decide +kernel
theorem dL_law_222 : decode cL_law 222 = .ok (.iadd, 1) := by decide +kernel
theorem dL_law_223 : decode cL_law 223 = .ok (.iaload, 1) := by decide +kernel
theorem dL_law_224 : decode cL_law 224 = .ok (.aload_n 0, 1) := by decide +kernel
theorem dL_law_225 : decode cL_law 225 = .ok (.iload_n 3, 1) := by decide +kernel
theorem dL_law_226 : decode cL_law 226 = .ok (.iconst 2, 1) := by decide +kernel
theorem dL_law_227 : decode cL_law 227 = .ok (.iadd, 1) := by decide +kernel
theorem dL_law_228 : decode cL_law 228 = .ok (.iaload, 1) := by decide +kernel
theorem dL_law_229 : decode cL_law 229 = .ok (.invokevirtual 23, 3) := by decide +kernel
theorem dL_law_232 : decode cL_law 232 = .ok (.aload_n 2, 1) := by decide +kernel
theorem dL_law_233 : decode cL_law 233 = .ok (.aload_n 0, 1) := by decide +kernel
theorem dL_law_234 : decode cL_law 234 = .ok (.iload_n 3, 1) := by decide +kernel
theorem dL_law_235 : decode cL_law 235 = .ok (.iconst 1, 1) := by decide +kernel
theorem dL_law_236 : decode cL_law 236 = .ok (.iadd, 1) := by decide +kernel
theorem dL_law_237 : decode cL_law 237 = .ok (.iaload, 1) := by decide +kernel
theorem dL_law_238 : decode cL_law 238 = .ok (.aload_n 0, 1) := by decide +kernel
theorem dL_law_239 : decode cL_law 239 = .ok (.iload_n 3, 1) := by decide +kernel
theorem dL_law_240 : decode cL_law 240 = .ok (.iconst 2, 1) := by decide +kernel
theorem dL_law_241 : decode cL_law 241 = .ok (.iadd, 1) := by decide +kernel
theorem dL_law_242 : decode cL_law 242 = .ok (.iaload, 1) := by decide +kernel
theorem dL_law_243 : decode cL_law 243 = .ok (.invokevirtual 26, 3) := by decide +kernel
theorem dL_law_246 : decode cL_law 246 = .ok (.if_icmp .eq 509, 3) := by decide +kernel
theorem dL_law_249 : decode cL_law 249 = .ok (.iconst 0, 1) := by decide +kernel
theorem dL_law_250 : decode cL_law 250 = .ok (.ireturn, 1) := by decide +kernel
theorem dL_law_251 : decode cL_law 251 = .ok (.aload_n 1, 1) := by decide +kernel
theorem dL_law_252 : decode cL_law 252 = .ok (.aload_n 0, 1) := by decide +kernel
theorem dL_law_253 : decode cL_law 253 = .ok (.iload_n 3, 1) := by decide +kernel
theorem dL_law_254 : decode cL_law 254 = .ok (.iconst 1, 1) := by decide +kernel
theorem dL_law_255 : decode cL_law 255 = .ok (.iadd, 1) := by decide +kernel
theorem dL_law_256 : decode cL_law 256 = .ok (.iaload, 1) := by decide +kernel
theorem dL_law_257 : decode cL_law 257 = .ok (.aload_n 0, 1) := by decide +kernel
theorem dL_law_258 : decode cL_law 258 = .ok (.iload_n 3, 1) := by decide +kernel
theorem dL_law_259 : decode cL_law 259 = .ok (.iconst 2, 1) := by decide +kernel
theorem dL_law_260 : decode cL_law 260 = .ok (.iadd, 1) := by decide +kernel
theorem dL_law_261 : decode cL_law 261 = .ok (.iaload, 1) := by decide +kernel
theorem dL_law_262 : decode cL_law 262 = .ok (.aload_n 0, 1) := by decide +kernel
theorem dL_law_263 : decode cL_law 263 = .ok (.iload_n 3, 1) := by decide +kernel
theorem dL_law_264 : decode cL_law 264 = .ok (.iconst 3, 1) := by decide +kernel
theorem dL_law_265 : decode cL_law 265 = .ok (.iadd, 1) := by decide +kernel
theorem dL_law_266 : decode cL_law 266 = .ok (.iaload, 1) := by decide +kernel
theorem dL_law_267 : decode cL_law 267 = .ok (.invokevirtual 27, 3) := by decide +kernel
theorem dL_law_270 : decode cL_law 270 = .ok (.aload_n 2, 1) := by decide +kernel
theorem dL_law_271 : decode cL_law 271 = .ok (.aload_n 0, 1) := by decide +kernel
theorem dL_law_272 : decode cL_law 272 = .ok (.iload_n 3, 1) := by decide +kernel
theorem dL_law_273 : decode cL_law 273 = .ok (.iconst 1, 1) := by decide +kernel
theorem dL_law_274 : decode cL_law 274 = .ok (.iadd, 1) := by decide +kernel
theorem dL_law_275 : decode cL_law 275 = .ok (.iaload, 1) := by decide +kernel
theorem dL_law_276 : decode cL_law 276 = .ok (.aload_n 0, 1) := by decide +kernel
theorem dL_law_277 : decode cL_law 277 = .ok (.iload_n 3, 1) := by decide +kernel
theorem dL_law_278 : decode cL_law 278 = .ok (.iconst 2, 1) := by decide +kernel
theorem dL_law_279 : decode cL_law 279 = .ok (.iadd, 1) := by decide +kernel
theorem dL_law_280 : decode cL_law 280 = .ok (.iaload, 1) := by decide +kernel
theorem dL_law_281 : decode cL_law 281 = .ok (.aload_n 0, 1) := by decide +kernel
theorem dL_law_282 : decode cL_law 282 = .ok (.iload_n 3, 1) := by decide +kernel
theorem dL_law_283 : decode cL_law 283 = .ok (.iconst 3, 1) := by decide +kernel
theorem dL_law_284 : decode cL_law 284 = .ok (.iadd, 1) := by decide +kernel
theorem dL_law_285 : decode cL_law 285 = .ok (.iaload, 1) := by decide +kernel
theorem dL_law_286 : decode cL_law 286 = .ok (.invokevirtual 31, 3) := by decide +kernel
theorem dL_law_289 : decode cL_law 289 = .ok (.if_icmp .eq 466, 3) := by decide +kernel
theorem dL_law_292 : decode cL_law 292 = .ok (.iconst 0, 1) := by decide +kernel
theorem dL_law_293 : decode cL_law 293 = .ok (.ireturn, 1) := by decide +kernel
theorem dL_law_294 : decode cL_law 294 = .ok (.aload_n 1, 1) := by decide +kernel
theorem dL_law_295 : decode cL_law 295 = .ok (.aload_n 0, 1) := by decide +kernel
theorem dL_law_296 : decode cL_law 296 = .ok (.iload_n 3, 1) := by decide +kernel
theorem dL_law_297 : decode cL_law 297 = .ok (.iconst 1, 1) := by decide +kernel
theorem dL_law_298 : decode cL_law 298 = .ok (.iadd, 1) := by decide +kernel
theorem dL_law_299 : decode cL_law 299 = .ok (.iaload, 1) := by decide +kernel
theorem dL_law_300 : decode cL_law 300 = .ok (.aload_n 0, 1) := by decide +kernel
theorem dL_law_301 : decode cL_law 301 = .ok (.iload_n 3, 1) := by decide +kernel
theorem dL_law_302 : decode cL_law 302 = .ok (.iconst 2, 1) := by decide +kernel
theorem dL_law_303 : decode cL_law 303 = .ok (.iadd, 1) := by decide +kernel
theorem dL_law_304 : decode cL_law 304 = .ok (.iaload, 1) := by decide +kernel
theorem dL_law_305 : decode cL_law 305 = .ok (.invokevirtual 32, 3) := by decide +kernel
theorem dL_law_308 : decode cL_law 308 = .ok (.aload_n 2, 1) := by decide +kernel
theorem dL_law_309 : decode cL_law 309 = .ok (.aload_n 0, 1) := by decide +kernel
theorem dL_law_310 : decode cL_law 310 = .ok (.iload_n 3, 1) := by decide +kernel
theorem dL_law_311 : decode cL_law 311 = .ok (.iconst 1, 1) := by decide +kernel
theorem dL_law_312 : decode cL_law 312 = .ok (.iadd, 1) := by decide +kernel
theorem dL_law_313 : decode cL_law 313 = .ok (.iaload, 1) := by decide +kernel
theorem dL_law_314 : decode cL_law 314 = .ok (.aload_n 0, 1) := by decide +kernel
theorem dL_law_315 : decode cL_law 315 = .ok (.iload_n 3, 1) := by decide +kernel
theorem dL_law_316 : decode cL_law 316 = .ok (.iconst 2, 1) := by decide +kernel
theorem dL_law_317 : decode cL_law 317 = .ok (.iadd, 1) := by decide +kernel
theorem dL_law_318 : decode cL_law 318 = .ok (.iaload, 1) := by decide +kernel
theorem dL_law_319 : decode cL_law 319 = .ok (.invokevirtual 35, 3) := by decide +kernel
theorem dL_law_322 : decode cL_law 322 = .ok (.if_icmp .eq 433, 3) := by decide +kernel
theorem dL_law_325 : decode cL_law 325 = .ok (.iconst 0, 1) := by decide +kernel
theorem dL_law_326 : decode cL_law 326 = .ok (.ireturn, 1) := by decide +kernel
theorem dL_law_327 : decode cL_law 327 = .ok (.aload_n 1, 1) := by decide +kernel
theorem dL_law_328 : decode cL_law 328 = .ok (.aload_n 0, 1) := by decide +kernel
theorem dL_law_329 : decode cL_law 329 = .ok (.iload_n 3, 1) := by decide +kernel
theorem dL_law_330 : decode cL_law 330 = .ok (.iconst 1, 1) := by decide +kernel
theorem dL_law_331 : decode cL_law 331 = .ok (.iadd, 1) := by decide +kernel
theorem dL_law_332 : decode cL_law 332 = .ok (.iaload, 1) := by decide +kernel
theorem dL_law_333 : decode cL_law 333 = .ok (.invokevirtual 36, 3) := by decide +kernel
theorem dL_law_336 : decode cL_law 336 = .ok (.aload_n 2, 1) := by decide +kernel
theorem dL_law_337 : decode cL_law 337 = .ok (.aload_n 0, 1) := by decide +kernel
theorem dL_law_338 : decode cL_law 338 = .ok (.iload_n 3, 1) := by decide +kernel
theorem dL_law_339 : decode cL_law 339 = .ok (.iconst 1, 1) := by decide +kernel
theorem dL_law_340 : decode cL_law 340 = .ok (.iadd, 1) := by decide +kernel
theorem dL_law_341 : decode cL_law 341 = .ok (.iaload, 1) := by decide +kernel
theorem dL_law_342 : decode cL_law 342 = .ok (.invokevirtual 40, 3) := by decide +kernel
theorem dL_law_345 : decode cL_law 345 = .ok (.if_icmp .eq 410, 3) := by decide +kernel
theorem dL_law_348 : decode cL_law 348 = .ok (.iconst 0, 1) := by decide +kernel
theorem dL_law_349 : decode cL_law 349 = .ok (.ireturn, 1) := by decide +kernel
theorem dL_law_350 : decode cL_law 350 = .ok (.aload_n 1, 1) := by decide +kernel
theorem dL_law_351 : decode cL_law 351 = .ok (.aload_n 0, 1) := by decide +kernel
theorem dL_law_352 : decode cL_law 352 = .ok (.iload_n 3, 1) := by decide +kernel
theorem dL_law_353 : decode cL_law 353 = .ok (.iconst 1, 1) := by decide +kernel
theorem dL_law_354 : decode cL_law 354 = .ok (.iadd, 1) := by decide +kernel
theorem dL_law_355 : decode cL_law 355 = .ok (.iaload, 1) := by decide +kernel
theorem dL_law_356 : decode cL_law 356 = .ok (.aload_n 0, 1) := by decide +kernel
theorem dL_law_357 : decode cL_law 357 = .ok (.iload_n 3, 1) := by decide +kernel
theorem dL_law_358 : decode cL_law 358 = .ok (.iconst 2, 1) := by decide +kernel
theorem dL_law_359 : decode cL_law 359 = .ok (.iadd, 1) := by decide +kernel
theorem dL_law_360 : decode cL_law 360 = .ok (.iaload, 1) := by decide +kernel
theorem dL_law_361 : decode cL_law 361 = .ok (.invokevirtual 41, 3) := by decide +kernel
theorem dL_law_364 : decode cL_law 364 = .ok (.aload_n 2, 1) := by decide +kernel
theorem dL_law_365 : decode cL_law 365 = .ok (.aload_n 0, 1) := by decide +kernel
theorem dL_law_366 : decode cL_law 366 = .ok (.iload_n 3, 1) := by decide +kernel
theorem dL_law_367 : decode cL_law 367 = .ok (.iconst 1, 1) := by decide +kernel
theorem dL_law_368 : decode cL_law 368 = .ok (.iadd, 1) := by decide +kernel
theorem dL_law_369 : decode cL_law 369 = .ok (.iaload, 1) := by decide +kernel
theorem dL_law_370 : decode cL_law 370 = .ok (.aload_n 0, 1) := by decide +kernel
theorem dL_law_371 : decode cL_law 371 = .ok (.iload_n 3, 1) := by decide +kernel
theorem dL_law_372 : decode cL_law 372 = .ok (.iconst 2, 1) := by decide +kernel
theorem dL_law_373 : decode cL_law 373 = .ok (.iadd, 1) := by decide +kernel
theorem dL_law_374 : decode cL_law 374 = .ok (.iaload, 1) := by decide +kernel
theorem dL_law_375 : decode cL_law 375 = .ok (.invokevirtual 44, 3) := by decide +kernel
theorem dL_law_378 : decode cL_law 378 = .ok (.if_icmp .eq 377, 3) := by decide +kernel
theorem dL_law_381 : decode cL_law 381 = .ok (.iconst 0, 1) := by decide +kernel
theorem dL_law_382 : decode cL_law 382 = .ok (.ireturn, 1) := by decide +kernel
theorem dL_law_383 : decode cL_law 383 = .ok (.aload_n 1, 1) := by decide +kernel
theorem dL_law_384 : decode cL_law 384 = .ok (.aload_n 0, 1) := by decide +kernel
theorem dL_law_385 : decode cL_law 385 = .ok (.iload_n 3, 1) := by decide +kernel
theorem dL_law_386 : decode cL_law 386 = .ok (.iconst 1, 1) := by decide +kernel
theorem dL_law_387 : decode cL_law 387 = .ok (.iadd, 1) := by decide +kernel
theorem dL_law_388 : decode cL_law 388 = .ok (.iaload, 1) := by decide +kernel
theorem dL_law_389 : decode cL_law 389 = .ok (.invokevirtual 45, 3) := by decide +kernel
theorem dL_law_392 : decode cL_law 392 = .ok (.aload_n 2, 1) := by decide +kernel
theorem dL_law_393 : decode cL_law 393 = .ok (.aload_n 0, 1) := by decide +kernel
theorem dL_law_394 : decode cL_law 394 = .ok (.iload_n 3, 1) := by decide +kernel
theorem dL_law_395 : decode cL_law 395 = .ok (.iconst 1, 1) := by decide +kernel
theorem dL_law_396 : decode cL_law 396 = .ok (.iadd, 1) := by decide +kernel
theorem dL_law_397 : decode cL_law 397 = .ok (.iaload, 1) := by decide +kernel
theorem dL_law_398 : decode cL_law 398 = .ok (.invokevirtual 48, 3) := by decide +kernel
theorem dL_law_401 : decode cL_law 401 = .ok (.if_icmp .eq 354, 3) := by decide +kernel
theorem dL_law_404 : decode cL_law 404 = .ok (.iconst 0, 1) := by decide +kernel
theorem dL_law_405 : decode cL_law 405 = .ok (.ireturn, 1) := by decide +kernel
theorem dL_law_406 : decode cL_law 406 = .ok (.aload_n 1, 1) := by decide +kernel
theorem dL_law_407 : decode cL_law 407 = .ok (.aload_n 0, 1) := by decide +kernel
theorem dL_law_408 : decode cL_law 408 = .ok (.iload_n 3, 1) := by decide +kernel
theorem dL_law_409 : decode cL_law 409 = .ok (.iconst 1, 1) := by decide +kernel
theorem dL_law_410 : decode cL_law 410 = .ok (.iadd, 1) := by decide +kernel
theorem dL_law_411 : decode cL_law 411 = .ok (.iaload, 1) := by decide +kernel
theorem dL_law_412 : decode cL_law 412 = .ok (.aload_n 0, 1) := by decide +kernel
theorem dL_law_413 : decode cL_law 413 = .ok (.iload_n 3, 1) := by decide +kernel
theorem dL_law_414 : decode cL_law 414 = .ok (.iconst 2, 1) := by decide +kernel
theorem dL_law_415 : decode cL_law 415 = .ok (.iadd, 1) := by decide +kernel
theorem dL_law_416 : decode cL_law 416 = .ok (.iaload, 1) := by decide +kernel
theorem dL_law_417 : decode cL_law 417 = .ok (.aload_n 0, 1) := by decide +kernel
theorem dL_law_418 : decode cL_law 418 = .ok (.iload_n 3, 1) := by decide +kernel
theorem dL_law_419 : decode cL_law 419 = .ok (.iconst 3, 1) := by decide +kernel
theorem dL_law_420 : decode cL_law 420 = .ok (.iadd, 1) := by decide +kernel
theorem dL_law_421 : decode cL_law 421 = .ok (.iaload, 1) := by decide +kernel
theorem dL_law_422 : decode cL_law 422 = .ok (.invokevirtual 49, 3) := by decide +kernel
theorem dL_law_425 : decode cL_law 425 = .ok (.aload_n 2, 1) := by decide +kernel
theorem dL_law_426 : decode cL_law 426 = .ok (.aload_n 0, 1) := by decide +kernel
theorem dL_law_427 : decode cL_law 427 = .ok (.iload_n 3, 1) := by decide +kernel
theorem dL_law_428 : decode cL_law 428 = .ok (.iconst 1, 1) := by decide +kernel
theorem dL_law_429 : decode cL_law 429 = .ok (.iadd, 1) := by decide +kernel
theorem dL_law_430 : decode cL_law 430 = .ok (.iaload, 1) := by decide +kernel
theorem dL_law_431 : decode cL_law 431 = .ok (.aload_n 0, 1) := by decide +kernel
theorem dL_law_432 : decode cL_law 432 = .ok (.iload_n 3, 1) := by decide +kernel
theorem dL_law_433 : decode cL_law 433 = .ok (.iconst 2, 1) := by decide +kernel
theorem dL_law_434 : decode cL_law 434 = .ok (.iadd, 1) := by decide +kernel
theorem dL_law_435 : decode cL_law 435 = .ok (.iaload, 1) := by decide +kernel
theorem dL_law_436 : decode cL_law 436 = .ok (.aload_n 0, 1) := by decide +kernel
theorem dL_law_437 : decode cL_law 437 = .ok (.iload_n 3, 1) := by decide +kernel
theorem dL_law_438 : decode cL_law 438 = .ok (.iconst 3, 1) := by decide +kernel
theorem dL_law_439 : decode cL_law 439 = .ok (.iadd, 1) := by decide +kernel
theorem dL_law_440 : decode cL_law 440 = .ok (.iaload, 1) := by decide +kernel
theorem dL_law_441 : decode cL_law 441 = .ok (.invokevirtual 52, 3) := by decide +kernel
theorem dL_law_444 : decode cL_law 444 = .ok (.if_icmp .eq 311, 3) := by decide +kernel
theorem dL_law_447 : decode cL_law 447 = .ok (.iconst 0, 1) := by decide +kernel
theorem dL_law_448 : decode cL_law 448 = .ok (.ireturn, 1) := by decide +kernel
theorem dL_law_449 : decode cL_law 449 = .ok (.aload_n 1, 1) := by decide +kernel
theorem dL_law_450 : decode cL_law 450 = .ok (.aload_n 0, 1) := by decide +kernel
theorem dL_law_451 : decode cL_law 451 = .ok (.iload_n 3, 1) := by decide +kernel
theorem dL_law_452 : decode cL_law 452 = .ok (.iconst 1, 1) := by decide +kernel
theorem dL_law_453 : decode cL_law 453 = .ok (.iadd, 1) := by decide +kernel
theorem dL_law_454 : decode cL_law 454 = .ok (.iaload, 1) := by decide +kernel
theorem dL_law_455 : decode cL_law 455 = .ok (.aload_n 0, 1) := by decide +kernel
theorem dL_law_456 : decode cL_law 456 = .ok (.iload_n 3, 1) := by decide +kernel
theorem dL_law_457 : decode cL_law 457 = .ok (.iconst 2, 1) := by decide +kernel
theorem dL_law_458 : decode cL_law 458 = .ok (.iadd, 1) := by decide +kernel
theorem dL_law_459 : decode cL_law 459 = .ok (.iaload, 1) := by decide +kernel
theorem dL_law_460 : decode cL_law 460 = .ok (.invokevirtual 53, 3) := by decide +kernel
theorem dL_law_463 : decode cL_law 463 = .ok (.aload_n 2, 1) := by decide +kernel
theorem dL_law_464 : decode cL_law 464 = .ok (.aload_n 0, 1) := by decide +kernel
theorem dL_law_465 : decode cL_law 465 = .ok (.iload_n 3, 1) := by decide +kernel
theorem dL_law_466 : decode cL_law 466 = .ok (.iconst 1, 1) := by decide +kernel
theorem dL_law_467 : decode cL_law 467 = .ok (.iadd, 1) := by decide +kernel
theorem dL_law_468 : decode cL_law 468 = .ok (.iaload, 1) := by decide +kernel
theorem dL_law_469 : decode cL_law 469 = .ok (.aload_n 0, 1) := by decide +kernel
theorem dL_law_470 : decode cL_law 470 = .ok (.iload_n 3, 1) := by decide +kernel
theorem dL_law_471 : decode cL_law 471 = .ok (.iconst 2, 1) := by decide +kernel
theorem dL_law_472 : decode cL_law 472 = .ok (.iadd, 1) := by decide +kernel
theorem dL_law_473 : decode cL_law 473 = .ok (.iaload, 1) := by decide +kernel
theorem dL_law_474 : decode cL_law 474 = .ok (.invokevirtual 56, 3) := by decide +kernel
theorem dL_law_477 : decode cL_law 477 = .ok (.if_icmp .eq 278, 3) := by decide +kernel
theorem dL_law_480 : decode cL_law 480 = .ok (.iconst 0, 1) := by decide +kernel
theorem dL_law_481 : decode cL_law 481 = .ok (.ireturn, 1) := by decide +kernel
theorem dL_law_482 : decode cL_law 482 = .ok (.aload_n 1, 1) := by decide +kernel
theorem dL_law_483 : decode cL_law 483 = .ok (.aload_n 0, 1) := by decide +kernel
theorem dL_law_484 : decode cL_law 484 = .ok (.iload_n 3, 1) := by decide +kernel
theorem dL_law_485 : decode cL_law 485 = .ok (.iconst 1, 1) := by decide +kernel
theorem dL_law_486 : decode cL_law 486 = .ok (.iadd, 1) := by decide +kernel
theorem dL_law_487 : decode cL_law 487 = .ok (.iaload, 1) := by decide +kernel
theorem dL_law_488 : decode cL_law 488 = .ok (.invokevirtual 57, 3) := by decide +kernel
theorem dL_law_491 : decode cL_law 491 = .ok (.aload_n 2, 1) := by decide +kernel
theorem dL_law_492 : decode cL_law 492 = .ok (.aload_n 0, 1) := by decide +kernel
theorem dL_law_493 : decode cL_law 493 = .ok (.iload_n 3, 1) := by decide +kernel
theorem dL_law_494 : decode cL_law 494 = .ok (.iconst 1, 1) := by decide +kernel
theorem dL_law_495 : decode cL_law 495 = .ok (.iadd, 1) := by decide +kernel
theorem dL_law_496 : decode cL_law 496 = .ok (.iaload, 1) := by decide +kernel
theorem dL_law_497 : decode cL_law 497 = .ok (.invokevirtual 60, 3) := by decide +kernel
theorem dL_law_500 : decode cL_law 500 = .ok (.if_icmp .eq 255, 3) := by decide +kernel
theorem dL_law_503 : decode cL_law 503 = .ok (.iconst 0, 1) := by decide +kernel
theorem dL_law_504 : decode cL_law 504 = .ok (.ireturn, 1) := by decide +kernel
theorem dL_law_505 : decode cL_law 505 = .ok (.aload_n 1, 1) := by decide +kernel
theorem dL_law_506 : decode cL_law 506 = .ok (.aload_n 0, 1) := by decide +kernel
theorem dL_law_507 : decode cL_law 507 = .ok (.iload_n 3, 1) := by decide +kernel
theorem dL_law_508 : decode cL_law 508 = .ok (.iconst 1, 1) := by decide +kernel
theorem dL_law_509 : decode cL_law 509 = .ok (.iadd, 1) := by decide +kernel
theorem dL_law_510 : decode cL_law 510 = .ok (.iaload, 1) := by decide +kernel
theorem dL_law_511 : decode cL_law 511 = .ok (.invokevirtual 61, 3) := by decide +kernel
theorem dL_law_514 : decode cL_law 514 = .ok (.aload_n 2, 1) := by decide +kernel
theorem dL_law_515 : decode cL_law 515 = .ok (.aload_n 0, 1) := by decide +kernel
theorem dL_law_516 : decode cL_law 516 = .ok (.iload_n 3, 1) := by decide +kernel
theorem dL_law_517 : decode cL_law 517 = .ok (.iconst 1, 1) := by decide +kernel
theorem dL_law_518 : decode cL_law 518 = .ok (.iadd, 1) := by decide +kernel
theorem dL_law_519 : decode cL_law 519 = .ok (.iaload, 1) := by decide +kernel
theorem dL_law_520 : decode cL_law 520 = .ok (.invokevirtual 64, 3) := by decide +kernel
theorem dL_law_523 : decode cL_law 523 = .ok (.if_icmp .eq 232, 3) := by decide +kernel
theorem dL_law_526 : decode cL_law 526 = .ok (.iconst 0, 1) := by decide +kernel
theorem dL_law_527 : decode cL_law 527 = .ok (.ireturn, 1) := by decide +kernel
theorem dL_law_528 : decode cL_law 528 = .ok (.aload_n 1, 1) := by decide +kernel
theorem dL_law_529 : decode cL_law 529 = .ok (.aload_n 0, 1) := by decide +kernel
theorem dL_law_530 : decode cL_law 530 = .ok (.iload_n 3, 1) := by decide +kernel
theorem dL_law_531 : decode cL_law 531 = .ok (.iconst 1, 1) := by decide +kernel
theorem dL_law_532 : decode cL_law 532 = .ok (.iadd, 1) := by decide +kernel
theorem dL_law_533 : decode cL_law 533 = .ok (.iaload, 1) := by decide +kernel
theorem dL_law_534 : decode cL_law 534 = .ok (.invokevirtual 65, 3) := by decide +kernel
theorem dL_law_537 : decode cL_law 537 = .ok (.aload_n 2, 1) := by decide +kernel
theorem dL_law_538 : decode cL_law 538 = .ok (.aload_n 0, 1) := by decide +kernel
theorem dL_law_539 : decode cL_law 539 = .ok (.iload_n 3, 1) := by decide +kernel
theorem dL_law_540 : decode cL_law 540 = .ok (.iconst 1, 1) := by decide +kernel
theorem dL_law_541 : decode cL_law 541 = .ok (.iadd, 1) := by decide +kernel
theorem dL_law_542 : decode cL_law 542 = .ok (.iaload, 1) := by decide +kernel
theorem dL_law_543 : decode cL_law 543 = .ok (.invokevirtual 68, 3) := by decide +kernel
theorem dL_law_546 : decode cL_law 546 = .ok (.if_icmp .eq 209, 3) := by decide +kernel
theorem dL_law_549 : decode cL_law 549 = .ok (.iconst 0, 1) := by decide +kernel
theorem dL_law_550 : decode cL_law 550 = .ok (.ireturn, 1) := by decide +kernel
theorem dL_law_551 : decode cL_law 551 = .ok (.aload_n 1, 1) := by decide +kernel
theorem dL_law_552 : decode cL_law 552 = .ok (.invokevirtual 69, 3) := by decide +kernel
theorem dL_law_555 : decode cL_law 555 = .ok (.aload_n 2, 1) := by decide +kernel
theorem dL_law_556 : decode cL_law 556 = .ok (.invokevirtual 73, 3) := by decide +kernel
theorem dL_law_559 : decode cL_law 559 = .ok (.if_icmp .eq 196, 3) := by decide +kernel
theorem dL_law_562 : decode cL_law 562 = .ok (.iconst 0, 1) := by decide +kernel
theorem dL_law_563 : decode cL_law 563 = .ok (.ireturn, 1) := by decide +kernel
theorem dL_law_564 : decode cL_law 564 = .ok (.aload_n 1, 1) := by decide +kernel
theorem dL_law_565 : decode cL_law 565 = .ok (.invokevirtual 74, 3) := by decide +kernel
theorem dL_law_568 : decode cL_law 568 = .ok (.aload_n 2, 1) := by decide +kernel
theorem dL_law_569 : decode cL_law 569 = .ok (.invokevirtual 77, 3) := by decide +kernel
theorem dL_law_572 : decode cL_law 572 = .ok (.if_icmp .eq 183, 3) := by decide +kernel
theorem dL_law_575 : decode cL_law 575 = .ok (.iconst 0, 1) := by decide +kernel
theorem dL_law_576 : decode cL_law 576 = .ok (.ireturn, 1) := by decide +kernel
theorem dL_law_577 : decode cL_law 577 = .ok (.aload_n 1, 1) := by decide +kernel
theorem dL_law_578 : decode cL_law 578 = .ok (.aload_n 0, 1) := by decide +kernel
theorem dL_law_579 : decode cL_law 579 = .ok (.iload_n 3, 1) := by decide +kernel
theorem dL_law_580 : decode cL_law 580 = .ok (.iconst 1, 1) := by decide +kernel
theorem dL_law_581 : decode cL_law 581 = .ok (.iadd, 1) := by decide +kernel
theorem dL_law_582 : decode cL_law 582 = .ok (.iaload, 1) := by decide +kernel
theorem dL_law_583 : decode cL_law 583 = .ok (.aload_n 0, 1) := by decide +kernel
theorem dL_law_584 : decode cL_law 584 = .ok (.iload_n 3, 1) := by decide +kernel
theorem dL_law_585 : decode cL_law 585 = .ok (.iconst 2, 1) := by decide +kernel
theorem dL_law_586 : decode cL_law 586 = .ok (.iadd, 1) := by decide +kernel
theorem dL_law_587 : decode cL_law 587 = .ok (.iaload, 1) := by decide +kernel
theorem dL_law_588 : decode cL_law 588 = .ok (.aload_n 0, 1) := by decide +kernel
theorem dL_law_589 : decode cL_law 589 = .ok (.iload_n 3, 1) := by decide +kernel
theorem dL_law_590 : decode cL_law 590 = .ok (.iconst 3, 1) := by decide +kernel
theorem dL_law_591 : decode cL_law 591 = .ok (.iadd, 1) := by decide +kernel
theorem dL_law_592 : decode cL_law 592 = .ok (.iaload, 1) := by decide +kernel
theorem dL_law_593 : decode cL_law 593 = .ok (.invokevirtual 78, 3) := by decide +kernel
theorem dL_law_596 : decode cL_law 596 = .ok (.aload_n 2, 1) := by decide +kernel
theorem dL_law_597 : decode cL_law 597 = .ok (.aload_n 0, 1) := by decide +kernel
theorem dL_law_598 : decode cL_law 598 = .ok (.iload_n 3, 1) := by decide +kernel
theorem dL_law_599 : decode cL_law 599 = .ok (.iconst 1, 1) := by decide +kernel
theorem dL_law_600 : decode cL_law 600 = .ok (.iadd, 1) := by decide +kernel
theorem dL_law_601 : decode cL_law 601 = .ok (.iaload, 1) := by decide +kernel
theorem dL_law_602 : decode cL_law 602 = .ok (.aload_n 0, 1) := by decide +kernel
theorem dL_law_603 : decode cL_law 603 = .ok (.iload_n 3, 1) := by decide +kernel
theorem dL_law_604 : decode cL_law 604 = .ok (.iconst 2, 1) := by decide +kernel
theorem dL_law_605 : decode cL_law 605 = .ok (.iadd, 1) := by decide +kernel
theorem dL_law_606 : decode cL_law 606 = .ok (.iaload, 1) := by decide +kernel
theorem dL_law_607 : decode cL_law 607 = .ok (.aload_n 0, 1) := by decide +kernel
theorem dL_law_608 : decode cL_law 608 = .ok (.iload_n 3, 1) := by decide +kernel
theorem dL_law_609 : decode cL_law 609 = .ok (.iconst 3, 1) := by decide +kernel
theorem dL_law_610 : decode cL_law 610 = .ok (.iadd, 1) := by decide +kernel
theorem dL_law_611 : decode cL_law 611 = .ok (.iaload, 1) := by decide +kernel
theorem dL_law_612 : decode cL_law 612 = .ok (.invokevirtual 81, 3) := by decide +kernel
theorem dL_law_615 : decode cL_law 615 = .ok (.if_icmp .eq 140, 3) := by decide +kernel
theorem dL_law_618 : decode cL_law 618 = .ok (.iconst 0, 1) := by decide +kernel
theorem dL_law_619 : decode cL_law 619 = .ok (.ireturn, 1) := by decide +kernel
theorem dL_law_620 : decode cL_law 620 = .ok (.aload_n 1, 1) := by decide +kernel
theorem dL_law_621 : decode cL_law 621 = .ok (.aload_n 0, 1) := by decide +kernel
theorem dL_law_622 : decode cL_law 622 = .ok (.iload_n 3, 1) := by decide +kernel
theorem dL_law_623 : decode cL_law 623 = .ok (.iconst 1, 1) := by decide +kernel
theorem dL_law_624 : decode cL_law 624 = .ok (.iadd, 1) := by decide +kernel
theorem dL_law_625 : decode cL_law 625 = .ok (.iaload, 1) := by decide +kernel
theorem dL_law_626 : decode cL_law 626 = .ok (.aload_n 0, 1) := by decide +kernel
theorem dL_law_627 : decode cL_law 627 = .ok (.iload_n 3, 1) := by decide +kernel
theorem dL_law_628 : decode cL_law 628 = .ok (.iconst 2, 1) := by decide +kernel
theorem dL_law_629 : decode cL_law 629 = .ok (.iadd, 1) := by decide +kernel
theorem dL_law_630 : decode cL_law 630 = .ok (.iaload, 1) := by decide +kernel
theorem dL_law_631 : decode cL_law 631 = .ok (.invokevirtual 82, 3) := by decide +kernel
theorem dL_law_634 : decode cL_law 634 = .ok (.aload_n 2, 1) := by decide +kernel
theorem dL_law_635 : decode cL_law 635 = .ok (.aload_n 0, 1) := by decide +kernel
theorem dL_law_636 : decode cL_law 636 = .ok (.iload_n 3, 1) := by decide +kernel
theorem dL_law_637 : decode cL_law 637 = .ok (.iconst 1, 1) := by decide +kernel
theorem dL_law_638 : decode cL_law 638 = .ok (.iadd, 1) := by decide +kernel
theorem dL_law_639 : decode cL_law 639 = .ok (.iaload, 1) := by decide +kernel
theorem dL_law_640 : decode cL_law 640 = .ok (.aload_n 0, 1) := by decide +kernel
theorem dL_law_641 : decode cL_law 641 = .ok (.iload_n 3, 1) := by decide +kernel
theorem dL_law_642 : decode cL_law 642 = .ok (.iconst 2, 1) := by decide +kernel
theorem dL_law_643 : decode cL_law 643 = .ok (.iadd, 1) := by decide +kernel
theorem dL_law_644 : decode cL_law 644 = .ok (.iaload, 1) := by decide +kernel
theorem dL_law_645 : decode cL_law 645 = .ok (.invokevirtual 85, 3) := by decide +kernel
theorem dL_law_648 : decode cL_law 648 = .ok (.if_icmp .eq 107, 3) := by decide +kernel
theorem dL_law_651 : decode cL_law 651 = .ok (.iconst 0, 1) := by decide +kernel
theorem dL_law_652 : decode cL_law 652 = .ok (.ireturn, 1) := by decide +kernel
theorem dL_law_653 : decode cL_law 653 = .ok (.aload_n 1, 1) := by decide +kernel
theorem dL_law_654 : decode cL_law 654 = .ok (.aload_n 0, 1) := by decide +kernel
theorem dL_law_655 : decode cL_law 655 = .ok (.iload_n 3, 1) := by decide +kernel
theorem dL_law_656 : decode cL_law 656 = .ok (.iconst 1, 1) := by decide +kernel
theorem dL_law_657 : decode cL_law 657 = .ok (.iadd, 1) := by decide +kernel
theorem dL_law_658 : decode cL_law 658 = .ok (.iaload, 1) := by decide +kernel
theorem dL_law_659 : decode cL_law 659 = .ok (.aload_n 0, 1) := by decide +kernel
theorem dL_law_660 : decode cL_law 660 = .ok (.iload_n 3, 1) := by decide +kernel
theorem dL_law_661 : decode cL_law 661 = .ok (.iconst 2, 1) := by decide +kernel
theorem dL_law_662 : decode cL_law 662 = .ok (.iadd, 1) := by decide +kernel
theorem dL_law_663 : decode cL_law 663 = .ok (.iaload, 1) := by decide +kernel
theorem dL_law_664 : decode cL_law 664 = .ok (.invokevirtual 86, 3) := by decide +kernel
theorem dL_law_667 : decode cL_law 667 = .ok (.aload_n 2, 1) := by decide +kernel
theorem dL_law_668 : decode cL_law 668 = .ok (.aload_n 0, 1) := by decide +kernel
theorem dL_law_669 : decode cL_law 669 = .ok (.iload_n 3, 1) := by decide +kernel
theorem dL_law_670 : decode cL_law 670 = .ok (.iconst 1, 1) := by decide +kernel
theorem dL_law_671 : decode cL_law 671 = .ok (.iadd, 1) := by decide +kernel
theorem dL_law_672 : decode cL_law 672 = .ok (.iaload, 1) := by decide +kernel
theorem dL_law_673 : decode cL_law 673 = .ok (.aload_n 0, 1) := by decide +kernel
theorem dL_law_674 : decode cL_law 674 = .ok (.iload_n 3, 1) := by decide +kernel
theorem dL_law_675 : decode cL_law 675 = .ok (.iconst 2, 1) := by decide +kernel
theorem dL_law_676 : decode cL_law 676 = .ok (.iadd, 1) := by decide +kernel
theorem dL_law_677 : decode cL_law 677 = .ok (.iaload, 1) := by decide +kernel
theorem dL_law_678 : decode cL_law 678 = .ok (.invokevirtual 89, 3) := by decide +kernel
theorem dL_law_681 : decode cL_law 681 = .ok (.if_icmp .eq 74, 3) := by decide +kernel
theorem dL_law_684 : decode cL_law 684 = .ok (.iconst 0, 1) := by decide +kernel
theorem dL_law_685 : decode cL_law 685 = .ok (.ireturn, 1) := by decide +kernel
theorem dL_law_686 : decode cL_law 686 = .ok (.aload_n 1, 1) := by decide +kernel
theorem dL_law_687 : decode cL_law 687 = .ok (.aload_n 0, 1) := by decide +kernel
theorem dL_law_688 : decode cL_law 688 = .ok (.iload_n 3, 1) := by decide +kernel
theorem dL_law_689 : decode cL_law 689 = .ok (.iconst 1, 1) := by decide +kernel
theorem dL_law_690 : decode cL_law 690 = .ok (.iadd, 1) := by decide +kernel
theorem dL_law_691 : decode cL_law 691 = .ok (.iaload, 1) := by decide +kernel
theorem dL_law_692 : decode cL_law 692 = .ok (.invokevirtual 90, 3) := by decide +kernel
theorem dL_law_695 : decode cL_law 695 = .ok (.aload_n 2, 1) := by decide +kernel
theorem dL_law_696 : decode cL_law 696 = .ok (.aload_n 0, 1) := by decide +kernel
theorem dL_law_697 : decode cL_law 697 = .ok (.iload_n 3, 1) := by decide +kernel
theorem dL_law_698 : decode cL_law 698 = .ok (.iconst 1, 1) := by decide +kernel
theorem dL_law_699 : decode cL_law 699 = .ok (.iadd, 1) := by decide +kernel
theorem dL_law_700 : decode cL_law 700 = .ok (.iaload, 1) := by decide +kernel
theorem dL_law_701 : decode cL_law 701 = .ok (.invokevirtual 93, 3) := by decide +kernel
theorem dL_law_704 : decode cL_law 704 = .ok (.if_icmp .eq 51, 3) := by decide +kernel
theorem dL_law_707 : decode cL_law 707 = .ok (.iconst 0, 1) := by decide +kernel
theorem dL_law_708 : decode cL_law 708 = .ok (.ireturn, 1) := by decide +kernel
theorem dL_law_709 : decode cL_law 709 = .ok (.aload_n 1, 1) := by decide +kernel
theorem dL_law_710 : decode cL_law 710 = .ok (.aload_n 0, 1) := by decide +kernel
theorem dL_law_711 : decode cL_law 711 = .ok (.iload_n 3, 1) := by decide +kernel
theorem dL_law_712 : decode cL_law 712 = .ok (.iconst 1, 1) := by decide +kernel
theorem dL_law_713 : decode cL_law 713 = .ok (.iadd, 1) := by decide +kernel
theorem dL_law_714 : decode cL_law 714 = .ok (.iaload, 1) := by decide +kernel
theorem dL_law_715 : decode cL_law 715 = .ok (.invokevirtual 94, 3) := by decide +kernel
theorem dL_law_718 : decode cL_law 718 = .ok (.aload_n 2, 1) := by decide +kernel
theorem dL_law_719 : decode cL_law 719 = .ok (.aload_n 0, 1) := by decide +kernel
theorem dL_law_720 : decode cL_law 720 = .ok (.iload_n 3, 1) := by decide +kernel
theorem dL_law_721 : decode cL_law 721 = .ok (.iconst 1, 1) := by decide +kernel
theorem dL_law_722 : decode cL_law 722 = .ok (.iadd, 1) := by decide +kernel
theorem dL_law_723 : decode cL_law 723 = .ok (.iaload, 1) := by decide +kernel
theorem dL_law_724 : decode cL_law 724 = .ok (.invokevirtual 97, 3) := by decide +kernel
theorem dL_law_727 : decode cL_law 727 = .ok (.if_icmp .eq 28, 3) := by decide +kernel
theorem dL_law_730 : decode cL_law 730 = .ok (.iconst 0, 1) := by decide +kernel
theorem dL_law_731 : decode cL_law 731 = .ok (.ireturn, 1) := by decide +kernel
theorem dL_law_732 : decode cL_law 732 = .ok (.aload_n 1, 1) := by decide +kernel
theorem dL_law_733 : decode cL_law 733 = .ok (.aload_n 0, 1) := by decide +kernel
theorem dL_law_734 : decode cL_law 734 = .ok (.iload_n 3, 1) := by decide +kernel
theorem dL_law_735 : decode cL_law 735 = .ok (.iconst 1, 1) := by decide +kernel
theorem dL_law_736 : decode cL_law 736 = .ok (.iadd, 1) := by decide +kernel
theorem dL_law_737 : decode cL_law 737 = .ok (.iaload, 1) := by decide +kernel
theorem dL_law_738 : decode cL_law 738 = .ok (.invokevirtual 98, 3) := by decide +kernel
theorem dL_law_741 : decode cL_law 741 = .ok (.aload_n 2, 1) := by decide +kernel
theorem dL_law_742 : decode cL_law 742 = .ok (.aload_n 0, 1) := by decide +kernel
theorem dL_law_743 : decode cL_law 743 = .ok (.iload_n 3, 1) := by decide +kernel
theorem dL_law_744 : decode cL_law 744 = .ok (.iconst 1, 1) := by decide +kernel
theorem dL_law_745 : decode cL_law 745 = .ok (.iadd, 1) := by decide +kernel
theorem dL_law_746 : decode cL_law 746 = .ok (.iaload, 1) := by decide +kernel
theorem dL_law_747 : decode cL_law 747 = .ok (.invokevirtual 101, 3) := by decide +kernel
theorem dL_law_750 : decode cL_law 750 = .ok (.if_icmp .eq 5, 3) := by decide +kernel
theorem dL_law_753 : decode cL_law 753 = .ok (.iconst 0, 1) := by decide +kernel
theorem dL_law_754 : decode cL_law 754 = .ok (.ireturn, 1) := by decide +kernel
theorem dL_law_755 : decode cL_law 755 = .ok (.iinc 3 5, 3) := by decide +kernel
theorem dL_law_758 : decode cL_law 758 = .ok (.goto (-740), 3) := by decide +kernel
theorem dL_law_761 : decode cL_law 761 = .ok (.iconst 1, 1) := by decide +kernel
theorem dL_law_762 : decode cL_law 762 = .ok (.ireturn, 1) := by decide +kernel
abbrev vwCl : List vw_C := [(RX0, TX0, 8), (RX2, TX2, 3), (RX3, TX3, 3), (RX4, TX4, 6)]
end
section
/-! ===== own rows: contracts in two shapes (sn_Rd reads, sn_Up and sn_Uv change a part of the world), their starts, calls and ends ===== -/
/-- a truth value as the machine has it -/
def sn_b (P : Prop) [Decidable P] : Int32 := if P then 1 else 0
theorem sn_b_z {P : Prop} [Decidable P] : sn_b P = 0 ↔ ¬ P := by
  unfold sn_b
  by_cases h : P
  · rw [if_pos h]; exact ⟨fun e => absurd e (by decide), fun e => absurd h e⟩
  · rw [if_neg h]; exact ⟨fun _ => h, fun _ => rfl⟩
theorem sn_b_nz {P : Prop} [Decidable P] : ¬ sn_b P = 0 ↔ P := by
  rw [sn_b_z]; exact ⟨fun h => Decidable.of_not_not h, fun h n => n h⟩
theorem sn_b_t {P : Prop} [Decidable P] (h : P) : (1 : Int32) = sn_b P := (if_pos h).symm
theorem sn_b_f {P : Prop} [Decidable P] (h : ¬ P) : (0 : Int32) = sn_b P := (if_neg h).symm
theorem sn_b_01 (P : Prop) [Decidable P] : sn_b P = 0 ∨ sn_b P = 1 := by
  unfold sn_b
  by_cases h : P
  · rw [if_pos h]; exact Or.inr rfl
  · rw [if_neg h]; exact Or.inl rfl
theorem sn_nar {v : Int32} (h : v = 0 ∨ v = 1) : narrow .boolean (.int v) = .int v := by
  rcases h with rfl | rfl <;> rfl
theorem sn_narz {v : Int32} (h : v = 0 ∨ v = 1) : vp_nar .boolean v = v := by
  rcases h with rfl | rfl <;> rfl
/-- the links between nest mates that the class's methods use -/
def sn_N (U : State) : Prop := va_Nw (.methodLinkNest RX0 52 yX3_within RX3) U ∧ va_Nw (.methodLinkNest RX0 63 yX3_cut RX3) U ∧ va_Nw (.methodLinkNest RX1 9 yX3_within RX3) U
theorem sn_N.warm {s U : State} (hW : s.WarmedH U.vm) (h : sn_N s) : sn_N U := ⟨va_Nw.warmM hW h.1, va_Nw.warmM hW h.2.1, va_Nw.warmM hW h.2.2⟩
theorem sn_N.same {s U : State} (hv : s.vm = U.vm) (h : sn_N s) : sn_N U := ⟨va_Nw.same rfl hv h.1, va_Nw.same rfl hv h.2.1, va_Nw.same rfl hv h.2.2⟩
/-- the first firmness: the table that the class's constructor clones -/
def sn_ff : Nat → Int32
  | 0 => 8
  | 1 => 20
  | 2 => 6
  | 3 => 3
  | _ => 40
def sn_Tb (t : Nat) (A : Nat → Prop) (U : State) (H : Heap) : Prop := ∃ cell : Cell, H[t]? = some cell ∧ (∀ k, cell.vm ≠ .statics k) ∧ cell.vm ≠ .unknown ∧ U.vm.findClass "[I" = some cell.cls ∧ cell.slots = Array.ofFn (n := 5) (fun j => Value.int (sn_ff j.val)) ∧ ¬ A t
def sn_F (A : Nat → Prop) (U : State) (H : Heap) : Prop := (∃ t : Nat, va_Z "SnowSlabs" "FIRST_FIRM" "[I" (.ref t) A U H ∧ sn_Tb t A U H) ∧ va_AO "SnowSlabs$Cover" U ∧ va_Nw (.castable "[I" "java/lang/Cloneable") U ∧ va_Nw (.fieldLinkNest RX0 35 RX3 "FIRST_FIRM" "[I" RX3) U
theorem sn_F.pass {A B : Nat → Prop} {s U : State} {H : Heap} {locs : List Loc} (h : sn_F A s s.heap) (hS : va_S A s.heap H locs) (hAB : ∀ q, B q → A q) (hU : U.heap = H) (hW : s.WarmedH U.vm) : sn_F B U U.heap := by
  obtain ⟨⟨t, hZ, cell, h1, h2, h3, h4, h5, h6⟩, hO, hC, hL⟩ := h
  rw [hU]
  refine ⟨⟨t, ((hZ.kept (fun a ha hA => hS.2.1 a ha hA)).narrow hAB).moved hW.alike, cell, ?_, h2, h3, ?_, h5, fun z => h6 (hAB t z)⟩, va_AO.moved hW.alike hO, va_Nw.warmC hW hC, va_Nw.warmF hW hL⟩
  · rw [hS.2.1 t (Array.getElem?_eq_some_iff.mp h1).1 h6]; exact h1
  · rw [hW.alike.findClass]; exact h4
theorem sn_F.same {A : Nat → Prop} {s U : State} {H : Heap} (hv : s.vm = U.vm) (h : sn_F A s H) : sn_F A U H := by
  have ha : s.vm.Alike U.vm := hv ▸ Vm.Alike.refl s.vm
  obtain ⟨⟨t, hZ, cell, h1, h2, h3, h4, h5, h6⟩, hO, hC, hL⟩ := h
  exact ⟨⟨t, hZ.moved ha, cell, h1, h2, h3, by rw [← hv]; exact h4, h5, h6⟩, va_AO.moved ha hO, va_Nw.same rfl hv hC, va_Nw.same rfl hv hL⟩
/-- what holds of a state in which a method begins, with the cells w -/
def sn_B (D : va_G) (tys : List (ClassId × FieldType)) (w : va_W) (U : State) : Prop := va_P D vwCl w U.heap ∧ va_K D vwCl tys U ∧ sn_N U
abbrev sn_rm (d mc ms : Nat) : Room := { frames := d, cells := mc, slots := ms, locals := 30 * d }
theorem sn_blind {av : List Value} {D : va_G} {tys : List (ClassId × FieldType)} {w : va_W} : FrameBlind (va_Pc av (sn_B D tys w)) :=
  fun a U g mk q => ⟨q.1, q.2.1, va_K.moved (u := U) (U := U.calling g mk a) (Vm.Alike.refl U.vm) q.2.2.1, sn_N.same (s := U) (U := U.calling g mk a) rfl q.2.2.2⟩
theorem sn_pre {av : List Value} {D : va_G} {tys : List (ClassId × FieldType)} {w : va_W} {s : State} {H : Heap} (hP : va_P D vwCl w H) (hK : va_K D vwCl tys s) (hN : sn_N s) :
    ∀ U : State, U.heap = H → s.WarmedH U.vm → va_Pc av (sn_B D tys w) av.toArray U :=
  fun U hU hW => ⟨rfl, by rw [hU]; exact hP, va_K.moved hW.alike hK, hN.warm hW⟩
theorem sn_blindU {av : List Value} {D : va_G} {tys : List (ClassId × FieldType)} {w : va_W} {sz : Nat} : FrameBlind (va_Pc av (fun U => U.heap.size = sz ∧ sn_B D tys w U ∧ va_D (fun _ => True) w ∧ sn_F (va_A w sz) U U.heap)) :=
  fun a U g mk q => ⟨q.1, q.2.1, ⟨q.2.2.1.1, va_K.moved (u := U) (U := U.calling g mk a) (Vm.Alike.refl U.vm) q.2.2.1.2.1, sn_N.same (s := U) (U := U.calling g mk a) rfl q.2.2.1.2.2⟩, q.2.2.2.1, sn_F.same (s := U) (U := U.calling g mk a) rfl q.2.2.2.2⟩
theorem sn_preU {av : List Value} {D : va_G} {tys : List (ClassId × FieldType)} {w : va_W} {s : State} {H : Heap} {A : Nat → Prop} (hP : va_P D vwCl w H) (hK : va_K D vwCl tys s) (hN : sn_N s) (hD : va_D A w) {locs : List Loc} (hF0 : sn_F A s s.heap) (hS : va_S A s.heap H locs) (hFr : ∀ q, va_A w H.size q → A q) :
    ∀ U : State, U.heap = H → s.WarmedH U.vm → va_Pc av (fun U => U.heap.size = H.size ∧ sn_B D tys w U ∧ va_D (fun _ => True) w ∧ sn_F (va_A w H.size) U U.heap) av.toArray U :=
  fun U hU hW => ⟨rfl, by rw [hU], ⟨by rw [hU]; exact hP, va_K.moved hW.alike hK, hN.warm hW⟩, hD.weaken (fun _ _ _ _ => trivial), hF0.pass hS hFr hU hW⟩
/-- a method that changes nothing and answers r -/
abbrev sn_Rd (l : Launch) (y : MethodName) (wsy : List Cond) (d : Nat) (av : List Value) (D : va_G) (tys : List (ClassId × FieldType)) (w : va_W) (r : Int32) : Prop :=
  Met l y wsy (sn_rm d 0 0) (va_Pc av (sn_B D tys w)) (vp_Si (fun x => x = r)) 0 0 (fun _ => False)
/-- a method that turns the cells w into w' u and answers R u, for some u with Pr -/
abbrev sn_Up (l : Launch) (y : MethodName) (wsy : List Cond) (d mc ms : Nat) (av : List Value) (D : va_G) (tys : List (ClassId × FieldType)) (w : va_W) (sz : Nat) {S : Type} (Pr : S → Prop) (R : S → Int32) (w' : S → va_W) : Prop :=
  Met l y wsy (sn_rm d mc ms) (va_Pc av (fun U => U.heap.size = sz ∧ sn_B D tys w U ∧ va_D (fun _ => True) w ∧ sn_F (va_A w sz) U U.heap)) (va_Qi (fun r u => r = R u ∧ Pr u) (fun u t => va_P D vwCl (w' u) t.heap ∧ va_D (va_A w sz) (w' u)) (va_A w sz)) mc ms (va_A w sz)
abbrev sn_Uv (l : Launch) (y : MethodName) (wsy : List Cond) (d mc ms : Nat) (av : List Value) (D : va_G) (tys : List (ClassId × FieldType)) (w : va_W) (sz : Nat) {S : Type} (Pr : S → Prop) (w' : S → va_W) : Prop :=
  Met l y wsy (sn_rm d mc ms) (va_Pc av (fun U => U.heap.size = sz ∧ sn_B D tys w U ∧ va_D (fun _ => True) w ∧ sn_F (va_A w sz) U U.heap)) (va_Qv Pr (fun u t => va_P D vwCl (w' u) t.heap ∧ va_D (va_A w sz) (w' u)) (va_A w sz)) mc ms (va_A w sz)
/-- a read's proof: the walk of its body -/
theorem sn_rd {l : Launch} {y : MethodName} {wsy ws' : List Cond} {d : Nat} {av : List Value} {D : va_G} {tys : List (ClassId × FieldType)} {w : va_W} {r : Int32} {cc : ByteArray} {maxL : Nat} {ret : Option FieldType}
    (hy : plainName y.cls = true) (hw : wsy = Cond.code y cc maxL ret :: ws') (hav : (lg_sl av).length ≤ maxL)
    (body : ∀ (p : Program) (e : Env) (s : State) (m : MethodId) (below : List Frame) (meth : Method) (c : Code), p.tables.exec = Jvm.exec → c.code = cc → c.maxLocals = maxL → meth.sig.returnType = ret → meth.locks = false → (∀ w ∈ wsy, w.before av.toArray s = true) → s.vm.findClass y.cls = some m.cls → va_P D vwCl w s.heap → va_K D vwCl tys s → sn_N s → ∀ ls : Array Slot, lv_has ls maxL (lv_args 0 av) →
      W p l e (sn_rm d 0 0) s m av.toArray below meth c s.heap [] 0 0 (MQ below (vp_Si (fun x => x = r)) av.toArray s 0 0 (fun _ => False)) (F0 m 0 ls [])) : sn_Rd l y wsy d av D tys w r := by
  refine Met.ofW (cc := cc) (maxL := maxL) (ret := ret) hy hw ?_
  intro p e s m args below meth c s₁ B hml hv
  obtain ⟨rfl, hP, hK, hN⟩ := hv
  rw [lg_entry_eq]
  exact body p e s m below meth c B.exec B.bytes hml B.returns B.notSynchronized (atoms_spec (ws := wsy) B.pre) (findClass_of_methodNamed B.named) hP hK hN _ (lv_entry av hav)
theorem sn_up {l : Launch} {y : MethodName} {wsy ws' : List Cond} {d mc ms : Nat} {av : List Value} {D : va_G} {tys : List (ClassId × FieldType)} {w : va_W} {sz : Nat} {S : Type} {Pr : S → Prop} {R : S → Int32} {w' : S → va_W} {cc : ByteArray} {maxL : Nat} {ret : Option FieldType}
    (hy : plainName y.cls = true) (hw : wsy = Cond.code y cc maxL ret :: ws') (hav : (lg_sl av).length ≤ maxL)
    (body : ∀ (p : Program) (e : Env) (s : State) (m : MethodId) (below : List Frame) (meth : Method) (c : Code) (A : Nat → Prop), p.tables.exec = Jvm.exec → c.code = cc → c.maxLocals = maxL → meth.sig.returnType = ret → meth.locks = false → (∀ w ∈ wsy, w.before av.toArray s = true) → s.vm.findClass y.cls = some m.cls → (∀ q, s.heap.size ≤ q → A q) → sn_F A s s.heap → va_K D vwCl tys s → sn_N s → ∀ (H : Heap) (locs : List Loc), va_P D vwCl w H → va_D A w → va_S A s.heap H locs → ∀ ls : Array Slot, lv_has ls maxL (lv_args 0 av) →
      W p l e (sn_rm d mc ms) s m av.toArray below meth c H locs 0 0 (MQ below (va_Qi (fun r u => r = R u ∧ Pr u) (fun u t => va_P D vwCl (w' u) t.heap ∧ va_D A (w' u)) A) av.toArray s mc ms A) (F0 m 0 ls [])) : sn_Up l y wsy d mc ms av D tys w sz Pr R w' := by
  refine Met.ofW (cc := cc) (maxL := maxL) (ret := ret) hy hw ?_
  intro p e s m args below meth c s₁ B hml hv
  obtain ⟨rfl, hsz, ⟨hP, hK, hN⟩, hD, hF0⟩ := hv
  subst hsz
  rw [lg_entry_eq]
  exact body p e s m below meth c (va_A w s.heap.size) B.exec B.bytes hml B.returns B.notSynchronized (atoms_spec (ws := wsy) B.pre) (findClass_of_methodNamed B.named) (fun q h => Or.inr h) hF0 hK hN s.heap [] hP hD.self va_S.rf _ (lv_entry av hav)
theorem sn_uv {l : Launch} {y : MethodName} {wsy ws' : List Cond} {d mc ms : Nat} {av : List Value} {D : va_G} {tys : List (ClassId × FieldType)} {w : va_W} {sz : Nat} {S : Type} {Pr : S → Prop} {w' : S → va_W} {cc : ByteArray} {maxL : Nat} {ret : Option FieldType}
    (hy : plainName y.cls = true) (hw : wsy = Cond.code y cc maxL ret :: ws') (hav : (lg_sl av).length ≤ maxL)
    (body : ∀ (p : Program) (e : Env) (s : State) (m : MethodId) (below : List Frame) (meth : Method) (c : Code) (A : Nat → Prop), p.tables.exec = Jvm.exec → c.code = cc → c.maxLocals = maxL → meth.sig.returnType = ret → meth.locks = false → meth.name = y.name → (∀ w ∈ wsy, w.before av.toArray s = true) → s.vm.findClass y.cls = some m.cls → (∀ q, s.heap.size ≤ q → A q) → sn_F A s s.heap → va_K D vwCl tys s → sn_N s → ∀ (H : Heap) (locs : List Loc), va_P D vwCl w H → va_D A w → va_S A s.heap H locs → ∀ ls : Array Slot, lv_has ls maxL (lv_args 0 av) →
      W p l e (sn_rm d mc ms) s m av.toArray below meth c H locs 0 0 (MQ below (va_Qv Pr (fun u t => va_P D vwCl (w' u) t.heap ∧ va_D A (w' u)) A) av.toArray s mc ms A) (F0 m 0 ls [])) : sn_Uv l y wsy d mc ms av D tys w sz Pr w' := by
  refine Met.ofW (cc := cc) (maxL := maxL) (ret := ret) hy hw ?_
  intro p e s m args below meth c s₁ B hml hv
  obtain ⟨rfl, hsz, ⟨hP, hK, hN⟩, hD, hF0⟩ := hv
  subst hsz
  rw [lg_entry_eq]
  exact body p e s m below meth c (va_A w s.heap.size) B.exec B.bytes hml B.returns B.notSynchronized (name_of_methodNamed B.named B.method).1 (atoms_spec (ws := wsy) B.pre) (findClass_of_methodNamed B.named) (fun q h => Or.inr h) hF0 hK hN s.heap [] hP hD.self va_S.rf _ (lv_entry av hav)
/-! ===== worlds in parts ===== -/
theorem sn_at {w : va_W} {u v : va_W} {i : Nat} {q : Nat × va_E} (h : v[i]? = some q) (e : w = u ++ v) : w[u.length + i]? = some q := by
  rw [e, List.getElem?_append_right (by omega), Nat.add_sub_cancel_left]; exact h
theorem sn_al {u v : va_W} {i : Nat} {q : Nat × va_E} (h : u[i]? = some q) : (u ++ v)[i]? = some q := by
  rw [List.getElem?_append_left (List.getElem?_eq_some_iff.mp h).1]; exact h
theorem sn_P_l {D : va_G} {cl : List vw_C} {u v : va_W} {H : Heap} (h : va_P D cl (u ++ v) H) : va_P D cl u H := fun k q hk => h k q (sn_al hk)
theorem sn_P_r {D : va_G} {cl : List vw_C} {u v : va_W} {H : Heap} (h : va_P D cl (u ++ v) H) : va_P D cl v H := fun k q hk => h (u.length + k) q (sn_at hk rfl)
theorem sn_D_l {A : Nat → Prop} {u v : va_W} (h : va_D A (u ++ v)) : va_D A u := ⟨fun i j p q hi hj e => h.1 i j p q (sn_al hi) (sn_al hj) e, fun k q hk => h.2 k q (sn_al hk)⟩
theorem sn_D_r {A : Nat → Prop} {u v : va_W} (h : va_D A (u ++ v)) : va_D A v := ⟨fun i j p q hi hj e => by
  have := h.1 (u.length + i) (u.length + j) p q (sn_at hi rfl) (sn_at hj rfl) e
  omega, fun k q hk => h.2 _ q (sn_at hk rfl)⟩
theorem sn_D_x {A : Nat → Prop} {u v : va_W} (h : va_D A (u ++ v)) : ∀ (i j : Nat) (p q : Nat × va_E), u[i]? = some p → v[j]? = some q → p.1 ≠ q.1 := fun i j p q hi hj e => by
  have h1 := h.1 i (u.length + j) p q (sn_al hi) (sn_at hj rfl) e
  have h2 := (List.getElem?_eq_some_iff.mp hi).1
  omega
/-- behind a call: the callee's part w of w0 ++ (w ++ wr) has become w1 -/
theorem sn_join {A0 : Nat → Prop} {D : va_G} {cl : List vw_C} {w0 wc wr w1 : va_W} {H H1 : Heap} (hP : va_P D cl (w0 ++ (wc ++ wr)) H) (hD : va_D A0 (w0 ++ (wc ++ wr)))
    (hk : ∀ q : Nat, q < H.size → ¬ va_A wc H.size q → H1[q]? = H[q]?) (hF : ∀ q, va_A wc H.size q → A0 q) (hP1 : va_P D cl w1 H1) (hD1 : va_D (va_A wc H.size) w1) : va_P D cl (w0 ++ (w1 ++ wr)) H1 ∧ va_D A0 (w0 ++ (w1 ++ wr)) := by
  have x0 := sn_D_x hD
  have x1 := sn_D_x (sn_D_r hD)
  have n0 : ∀ (k : Nat) (q : Nat × va_E), w0[k]? = some q → q.1 < H.size ∧ ¬ va_A wc H.size q.1 := fun k q hq => by
    have hl := (sn_P_l hP k q hq).lt
    refine ⟨hl, fun h => ?_⟩
    rcases h with ⟨k2, e, h⟩ | h
    · exact x0 k k2 q (q.1, e) hq (sn_al h) rfl
    · omega
  have nr : ∀ (k : Nat) (q : Nat × va_E), wr[k]? = some q → q.1 < H.size ∧ ¬ va_A wc H.size q.1 := fun k q hq => by
    have hl := (sn_P_r (sn_P_r hP) k q hq).lt
    refine ⟨hl, fun h => ?_⟩
    rcases h with ⟨k2, e, h⟩ | h
    · exact x1 k2 k (q.1, e) q h hq rfl
    · omega
  refine ⟨va_P.app (fun k q hq => (sn_P_l hP k q hq).kept (hk q.1 (n0 k q hq).1 (n0 k q hq).2)) (va_P.app hP1 (fun k q hq => (sn_P_r (sn_P_r hP) k q hq).kept (hk q.1 (nr k q hq).1 (nr k q hq).2))), ?_⟩
  refine va_D.app (sn_D_l hD) (va_D.app (hD1.weaken (fun k q _ h => hF q.1 h)) (sn_D_r (sn_D_r hD)) ?_) ?_
  · intro i j x y hx hy hxy
    exact (nr j y hy).2 (by rw [← hxy]; exact hD1.2 i x hx)
  · intro i j x y hx hy hxy
    by_cases hl : j < w1.length
    · rw [List.getElem?_append_left hl] at hy
      exact (n0 i x hx).2 (by rw [hxy]; exact hD1.2 j y hy)
    · rw [List.getElem?_append_right (by omega)] at hy
      have h3 : (wc ++ wr)[wc.length + (j - w1.length)]? = some y := sn_at hy rfl
      exact x0 i _ x y hx h3 hxy
/-! ===== cells that are alike where they are read ===== -/
def sn_eE : va_E → va_E → Prop
  | .inl (c1, n1, .inl f1), .inl (c2, n2, .inl f2) => c1 = c2 ∧ n1 = n2 ∧ ∀ k, k < n1 → f1 k = f2 k
  | e1, e2 => e1 = e2
def sn_eW : va_W → va_W → Prop
  | [], [] => True
  | q1 :: w1, q2 :: w2 => q1.1 = q2.1 ∧ sn_eE q1.2 q2.2 ∧ sn_eW w1 w2
  | _, _ => False
theorem sn_arr {cA : ClassId} {n : Nat} {f g : Nat → Int32} (h : ∀ k, k < n → f k = g k) : vp_cell cA (n, .inl f) = vp_cell cA (n, .inl g) := by
  rw [vp_cell_i, vp_cell_i]
  unfold arrV
  congr 1
  congr 1
  funext j
  exact congrArg Value.int (h j.val j.isLt)
theorem sn_eE.at {D : va_G} {cl : List vw_C} {a : Nat} {e1 e2 : va_E} {H : Heap} (h : sn_eE e1 e2) (hP : va_at D cl (a, e1) H) : va_at D cl (a, e2) H := by
  unfold sn_eE at h
  split at h
  · obtain ⟨rfl, rfl, h⟩ := h
    show H[a]? = some (vp_cell _ _)
    rw [← sn_arr h]
    exact hP
  · subst h; exact hP
theorem sn_eW.len : ∀ {w1 w2 : va_W}, sn_eW w1 w2 → w1.length = w2.length
  | [], [], _ => rfl
  | _ :: _, _ :: _, h => congrArg (· + 1) (sn_eW.len h.2.2)
  | [], _ :: _, h => h.elim
  | _ :: _, [], h => h.elim
theorem sn_eW.get : ∀ {w1 w2 : va_W}, sn_eW w1 w2 → ∀ (k : Nat) (q : Nat × va_E), w2[k]? = some q → ∃ e, w1[k]? = some (q.1, e) ∧ sn_eE e q.2
  | [], [], _, k, q, h => by simp at h
  | q1 :: w1, q2 :: w2, hh, 0, q, h => by
    rw [List.getElem?_cons_zero] at h
    cases h
    exact ⟨q1.2, by rw [List.getElem?_cons_zero, ← hh.1], hh.2.1⟩
  | q1 :: w1, q2 :: w2, hh, k + 1, q, h => by
    rw [List.getElem?_cons_succ] at h
    obtain ⟨e, h1, h2⟩ := sn_eW.get hh.2.2 k q h
    exact ⟨e, by rw [List.getElem?_cons_succ]; exact h1, h2⟩
  | [], _ :: _, h, _, _, _ => h.elim
  | _ :: _, [], h, _, _, _ => h.elim
theorem sn_eW.P {D : va_G} {cl : List vw_C} {w1 w2 : va_W} {H : Heap} (h : sn_eW w1 w2) (hP : va_P D cl w1 H) : va_P D cl w2 H := fun k q hq => by
  obtain ⟨e, h1, h2⟩ := h.get k q hq
  exact h2.at (hP k _ h1)
theorem sn_eW.D {A : Nat → Prop} {w1 w2 : va_W} (h : sn_eW w1 w2) (hD : va_D A w1) : va_D A w2 := ⟨fun i j p q hi hj e => by
  obtain ⟨e1, h1, -⟩ := h.get i p hi
  obtain ⟨e2, h2, -⟩ := h.get j q hj
  exact hD.1 i j _ _ h1 h2 e, fun k q hk => by
  obtain ⟨e1, h1, -⟩ := h.get k q hk
  exact hD.2 k (q.1, e1) h1⟩
theorem sn_eQ : ∀ e : va_E, sn_eE e e
  | .inl (_, _, .inl _) => ⟨rfl, rfl, fun _ _ => rfl⟩
  | .inl (_, _, .inr _) => rfl
  | .inr _ => rfl
theorem sn_eI {cA : ClassId} {n : Nat} {f g : Nat → Int32} (h : ∀ k, k < n → f k = g k) : sn_eE (.inl (cA, n, .inl f)) (.inl (cA, n, .inl g)) := ⟨rfl, rfl, h⟩
theorem sn_eO {x y : Nat × List Value} (h : x = y) : sn_eE (.inr x) (.inr y) := congrArg Sum.inr h
theorem sn_eOb {x0 y0 x1 y1 : Int32} {ci : Nat} {r : List Value} (h0 : x0 = y0) (h1 : x1 = y1) : sn_eE (.inr (ci, .int x0 :: .int x1 :: r)) (.inr (ci, .int y0 :: .int y1 :: r)) := by rw [h0, h1]; exact sn_eQ _
theorem sn_eC {a : Nat} {e1 e2 : va_E} {w1 w2 : va_W} (h : sn_eE e1 e2) (t : sn_eW w1 w2) : sn_eW ((a, e1) :: w1) ((a, e2) :: w2) := ⟨rfl, h, t⟩
theorem sn_eN : sn_eW [] [] := trivial
theorem sn_eS : ∀ w : va_W, sn_eW w w
  | [] => trivial
  | q :: w => ⟨rfl, sn_eQ q.2, sn_eS w⟩
/-! ===== rows ===== -/
section SN
variable {p : Program} {l : Launch} {e : Env} {R : Room} {s : State} {m : MethodId} {args : Array Value} {below : List Frame} {meth : Method} {c : Code} {H : Heap} {locs : List Loc} {cells slots : Nat} {Q : State → Prop}
variable {cc : ByteArray} {pc : Nat} {ls : Array Slot} {rest st0 : List Value} {D : va_G} {tys : List (ClassId × FieldType)} {w w0 wr : va_W} {A : Nat → Prop}
/-- another name for the number on top -/
theorem sn_top {x y : Int32} (h : x = y) (k : W p l e R s m args below meth c H locs cells slots Q (F0 m pc ls (.int y :: rest))) : W p l e R s m args below meth c H locs cells slots Q (F0 m pc ls (.int x :: rest)) := h ▸ k
theorem sn_top2 {x y : Int32} {v : Value} (h : x = y) (k : W p l e R s m args below meth c H locs cells slots Q (F0 m pc ls (v :: .int y :: rest))) : W p l e R s m args below meth c H locs cells slots Q (F0 m pc ls (v :: .int x :: rest)) := h ▸ k
theorem sn_ret {v r : Int32} (hx : p.tables.exec = Jvm.exec) (hb : c.code = cc) (hr : meth.sig.returnType = some .int) (hlk : meth.locks = false) (hdg : decode cc pc = .ok (.ireturn, 1)) (h : v = r) :
    W p l e R s m args below meth c s.heap [] 0 0 (MQ below (vp_Si (fun x => x = r)) args s 0 0 (fun _ => False)) (F0 m pc ls [.int v]) :=
  W.iret (free := fun _ => False) hx hb hr (fun t ht _ => ⟨v, rfl, h, ht⟩) (fun q hq => by cases hq) hdg hlk
theorem sn_zret {v r : Int32} (hx : p.tables.exec = Jvm.exec) (hb : c.code = cc) (hr : meth.sig.returnType = some .boolean) (hlk : meth.locks = false) (hdg : decode cc pc = .ok (.ireturn, 1)) (h01 : v = 0 ∨ v = 1) (h : v = r) :
    W p l e R s m args below meth c s.heap [] 0 0 (MQ below (vp_Si (fun x => x = r)) args s 0 0 (fun _ => False)) (F0 m pc ls [.int v]) :=
  W.zret (free := fun _ => False) hx hb hr (sn_nar h01) (fun t ht _ => ⟨v, rfl, h, ht⟩) (fun q hq => by cases hq) hdg hlk
theorem sn_uret {S : Type} {Pr : S → Prop} {Rr : S → Int32} {w' : S → va_W} {mc ms : Nat} {v : Int32} (u : S) (hx : p.tables.exec = Jvm.exec) (hb : c.code = cc) (hr : meth.sig.returnType = some .int) (hlk : meth.locks = false) (hdg : decode cc pc = .ok (.ireturn, 1))
    (hP : va_P D vwCl (w' u) H) (hD : va_D A (w' u)) (hS : va_S A s.heap H locs) (h : v = Rr u) (hp : Pr u) (hc : cells ≤ mc) (hs : slots ≤ ms) :
    W p l e R s m args below meth c H locs cells slots (MQ below (va_Qi (fun r u => r = Rr u ∧ Pr u) (fun u t => va_P D vwCl (w' u) t.heap ∧ va_D A (w' u)) A) args s mc ms A) (F0 m pc ls [.int v]) :=
  W.widen hc hs (W.iret hx hb hr (fun t ht _ => ⟨⟨v, u, rfl, ⟨h, hp⟩, by rw [ht]; exact hP, hD⟩, hS.F ht⟩) hS.2.2 hdg hlk)
theorem sn_vret {S : Type} {Pr : S → Prop} {w' : S → va_W} {mc ms : Nat} (u : S) (hx : p.tables.exec = Jvm.exec) (hb : c.code = cc) (hr : meth.sig.returnType = none) (hlk : meth.locks = false) (hdg : decode cc pc = .ok (.return_, 1))
    (hP : va_P D vwCl (w' u) H) (hD : va_D A (w' u)) (hS : va_S A s.heap H locs) (hp : Pr u) (hc : cells ≤ mc) (hs : slots ≤ ms) :
    W p l e R s m args below meth c H locs cells slots (MQ below (va_Qv Pr (fun u t => va_P D vwCl (w' u) t.heap ∧ va_D A (w' u)) A) args s mc ms A) (F0 m pc ls []) :=
  W.widen hc hs (W.vret hx hb hr (fun t ht _ => ⟨⟨u, rfl, hp, by rw [ht]; exact hP, hD⟩, hS.F ht⟩) hS.2.2 hdg hlk)
variable {nL index maxL d : Nat} {Ts wsy ws' : List Cond} {own C : String} {y : MethodName} {bytes : ByteArray} {ret : Option FieldType} {r : Int32} {b ci : Nat} {As fs : List Value} {qc : u_T × Nat} {lv : List (Nat × Value)}
/-- a call of a read, on an object of the world -/
theorem sn_cV (n q0 : Nat) (S : CallFix p m c cc nL s args Ts own) (hl : lv_has ls nL lv) (hM : sn_Rd l y wsy d (.ref b :: As) D tys w r) (hG : GoodIn Ts (wsV own index C y wsy)) (hw : wsy = Cond.code y bytes maxL ret :: ws')
    (hd : y.cls = C ∧ y.cls ≠ "java/lang/invoke/MethodHandle" ∧ y.cls ≠ "java/lang/invoke/VarHandle" ∧ (parseMethodDescriptor y.desc).map (fun d => d.parameters.length) = some n) (hn : As.length = n)
    (hR : d + 1 ≤ R.frames ∧ 8 + (maxL + 11) + 30 * d ≤ R.locals) (hcs : cells ≤ R.cells ∧ slots ≤ R.slots) (hP : va_P D vwCl w H) (hK : va_K D vwCl tys s) (hN : sn_N s) (he : w[q0]? = some (b, .inr (ci, fs))) (hc : vwCl[ci]? = some (C, qc))
    (hst : st0 = As.reverse ++ .ref b :: rest) (hW : (rest.map fun v => v.category).sum ≤ 8) (hdg : decode cc pc = .ok (.invokevirtual index, 3))
    (kk : W p l e R s m args below meth c H locs cells slots Q (F0 m (pc + 3) ls (.int r :: rest))) : W p l e R s m args below meth c H locs cells slots Q (F0 m pc ls st0) := by
  subst hst
  refine vp_callSi (W.runV S hM (cwV n S.2.2.2.2 hG hw rfl rfl hd hR) ⟨sn_blind, va_recv hK hP hc he, sn_pre hP hK hN⟩ rfl hn hl.1 rfl (lv_room hW) hdg hcs) (fun r' hr' => ?_)
  subst hr'
  exact kk
/-- a call of a static read -/
theorem sn_cS (n : Nat) (S : CallFix p m c cc nL s args Ts own) (hl : lv_has ls nL lv) (hM : sn_Rd l y wsy d As D tys w r) (hG : GoodIn Ts (va_wsS own index y wsy)) (hw : wsy = Cond.code y bytes maxL ret :: ws')
    (hd : y.cls ≠ "java/lang/invoke/MethodHandle" ∧ y.cls ≠ "java/lang/invoke/VarHandle" ∧ (parseMethodDescriptor y.desc).map (fun d => d.parameters.length) = some n) (hn : As.length = n)
    (hR : d + 1 ≤ R.frames ∧ 8 + (maxL + 11) + 30 * d ≤ R.locals) (hcs : cells ≤ R.cells ∧ slots ≤ R.slots) (hP : va_P D vwCl w H) (hK : va_K D vwCl tys s) (hN : sn_N s)
    (hst : st0 = As.reverse ++ rest) (hW : (rest.map fun v => v.category).sum ≤ 8) (hdg : decode cc pc = .ok (.invokestatic index, 3))
    (kk : W p l e R s m args below meth c H locs cells slots Q (F0 m (pc + 3) ls (.int r :: rest))) : W p l e R s m args below meth c H locs cells slots Q (F0 m pc ls st0) := by
  subst hst
  refine vp_callSi (W.runS S hM (va_cwS n S.2.2.2.2 hG hw rfl rfl hd hR) ⟨sn_blind, sn_pre hP hK hN⟩ rfl hn hl.1 rfl (lv_room hW) hdg hcs) (fun r' hr' => ?_)
  subst hr'
  exact kk
/-- a call of a nest mate's private static read -/
theorem sn_cN {host : String} (n : Nat) (S : CallFix p m c cc nL s args Ts own) (hl : lv_has ls nL lv) (hM : sn_Rd l y wsy d As D tys w r) (hG : GoodIn Ts wsy) (hw : wsy = Cond.code y bytes maxL ret :: ws') (hlk : va_Nw (.methodLinkNest own index y host) s) (hini : (Cond.initialized y.cls).before args s = true) (hstat : (Cond.static y).before args s = true)
    (hd : y.cls ≠ "java/lang/invoke/MethodHandle" ∧ y.cls ≠ "java/lang/invoke/VarHandle" ∧ (parseMethodDescriptor y.desc).map (fun d => d.parameters.length) = some n) (hn : As.length = n)
    (hR : d + 1 ≤ R.frames ∧ 8 + (maxL + 11) + 30 * d ≤ R.locals) (hcs : cells ≤ R.cells ∧ slots ≤ R.slots) (hP : va_P D vwCl w H) (hK : va_K D vwCl tys s) (hN : sn_N s)
    (hst : st0 = As.reverse ++ rest) (hW : (rest.map fun v => v.category).sum ≤ 8) (hdg : decode cc pc = .ok (.invokestatic index, 3))
    (kk : W p l e R s m args below meth c H locs cells slots Q (F0 m (pc + 3) ls (.int r :: rest))) : W p l e R s m args below meth c H locs cells slots Q (F0 m pc ls st0) := by
  subst hst
  refine vp_callSi (va_Run.run (va_runSN S hM ⟨va_cnB n S.2.2.2.2 hG hw rfl rfl hlk hini hd hR, hstat, trivial⟩ ⟨sn_blind, sn_pre hP hK hN⟩ rfl hn hl.1 rfl (lv_room hW) hdg hcs)) (fun r' hr' => ?_)
  subst hr'
  exact kk
/-- a call of a method that changes the part w of the world w0 ++ (w ++ wr) -/
theorem sn_uV {S : Type} {Pr : S → Prop} {Rr : S → Int32} {w' : S → va_W} {mc ms : Nat} (n q0 : Nat) (S0 : CallFix p m c cc nL s args Ts own) (hl : lv_has ls nL lv) (hM : sn_Up l y wsy d mc ms (.ref b :: As) D tys w H.size Pr Rr w') (hG : GoodIn Ts (wsV own index C y wsy)) (hw : wsy = Cond.code y bytes maxL ret :: ws')
    (hd : y.cls = C ∧ y.cls ≠ "java/lang/invoke/MethodHandle" ∧ y.cls ≠ "java/lang/invoke/VarHandle" ∧ (parseMethodDescriptor y.desc).map (fun d => d.parameters.length) = some n) (hn : As.length = n)
    (hR : d + 1 ≤ R.frames ∧ 8 + (maxL + 11) + 30 * d ≤ R.locals) (hcs : cells + mc ≤ R.cells ∧ slots + ms ≤ R.slots) (hP : va_P D vwCl (w0 ++ (w ++ wr)) H) (hD : va_D A (w0 ++ (w ++ wr))) (hS : va_S A s.heap H locs) (hA : ∀ q, s.heap.size ≤ q → A q) (hF0 : sn_F A s s.heap) (hK : va_K D vwCl tys s) (hN : sn_N s) (he : w[q0]? = some (b, .inr (ci, fs))) (hc : vwCl[ci]? = some (C, qc))
    (hst : st0 = As.reverse ++ .ref b :: rest) (hW : (rest.map fun v => v.category).sum ≤ 8) (hdg : decode cc pc = .ok (.invokevirtual index, 3))
    (kk : ∀ (u : S) (H1 : Heap) (locs1 : List Loc), Pr u → va_P D vwCl (w0 ++ (w' u ++ wr)) H1 → va_D A (w0 ++ (w' u ++ wr)) → va_S A s.heap H1 locs1 → W p l e R s m args below meth c H1 locs1 (cells + mc) (slots + ms) Q (F0 m (pc + 3) ls (.int (Rr u) :: rest))) : W p l e R s m args below meth c H locs cells slots Q (F0 m pc ls st0) := by
  subst hst
  have hPc : va_P D vwCl w H := sn_P_l (sn_P_r hP)
  have hDc : va_D A w := sn_D_l (sn_D_r hD)
  have hF : ∀ q, va_A w H.size q → A q := fun q h => by
    rcases h with ⟨k, e, h⟩ | h
    · exact hDc.2 k _ h
    · exact hA q (Nat.le_trans hS.1 h)
  refine va_calli (va_runV S0 hM (cwV n S0.2.2.2.2 hG hw rfl rfl hd hR) ⟨sn_blindU, va_recv hK hPc hc he, sn_preU hPc hK hN hDc hF0 hS hF⟩ rfl hn hl.1 rfl (lv_room hW) hdg hcs) hS (fun q _ h => hF q h) hF (fun r u t H1 locs1 ht hvm hw hB hz hk hS1 => ?_)
  obtain ⟨rfl, hp⟩ := hw
  obtain ⟨hP1, hD1⟩ := hB
  rw [ht] at hP1
  obtain ⟨hP2, hD2⟩ := sn_join hP hD hk hF hP1 hD1
  exact kk u H1 locs1 hp hP2 hD2 hS1
theorem sn_vV {S : Type} {Pr : S → Prop} {w' : S → va_W} {mc ms : Nat} (n q0 : Nat) (S0 : CallFix p m c cc nL s args Ts own) (hl : lv_has ls nL lv) (hM : sn_Uv l y wsy d mc ms (.ref b :: As) D tys w H.size Pr w') (hG : GoodIn Ts (wsV own index C y wsy)) (hw : wsy = Cond.code y bytes maxL ret :: ws')
    (hd : y.cls = C ∧ y.cls ≠ "java/lang/invoke/MethodHandle" ∧ y.cls ≠ "java/lang/invoke/VarHandle" ∧ (parseMethodDescriptor y.desc).map (fun d => d.parameters.length) = some n) (hn : As.length = n)
    (hR : d + 1 ≤ R.frames ∧ 8 + (maxL + 11) + 30 * d ≤ R.locals) (hcs : cells + mc ≤ R.cells ∧ slots + ms ≤ R.slots) (hP : va_P D vwCl (w0 ++ (w ++ wr)) H) (hD : va_D A (w0 ++ (w ++ wr))) (hS : va_S A s.heap H locs) (hA : ∀ q, s.heap.size ≤ q → A q) (hF0 : sn_F A s s.heap) (hK : va_K D vwCl tys s) (hN : sn_N s) (he : w[q0]? = some (b, .inr (ci, fs))) (hc : vwCl[ci]? = some (C, qc))
    (hst : st0 = As.reverse ++ .ref b :: rest) (hW : (rest.map fun v => v.category).sum ≤ 8) (hdg : decode cc pc = .ok (.invokevirtual index, 3))
    (kk : ∀ (u : S) (H1 : Heap) (locs1 : List Loc), Pr u → va_P D vwCl (w0 ++ (w' u ++ wr)) H1 → va_D A (w0 ++ (w' u ++ wr)) → va_S A s.heap H1 locs1 → W p l e R s m args below meth c H1 locs1 (cells + mc) (slots + ms) Q (F0 m (pc + 3) ls rest)) : W p l e R s m args below meth c H locs cells slots Q (F0 m pc ls st0) := by
  subst hst
  have hPc : va_P D vwCl w H := sn_P_l (sn_P_r hP)
  have hDc : va_D A w := sn_D_l (sn_D_r hD)
  have hF : ∀ q, va_A w H.size q → A q := fun q h => by
    rcases h with ⟨k, e, h⟩ | h
    · exact hDc.2 k _ h
    · exact hA q (Nat.le_trans hS.1 h)
  refine va_callv (va_runV S0 hM (cwV n S0.2.2.2.2 hG hw rfl rfl hd hR) ⟨sn_blindU, va_recv hK hPc hc he, sn_preU hPc hK hN hDc hF0 hS hF⟩ rfl hn hl.1 rfl (lv_room hW) hdg hcs) hS (fun q _ h => hF q h) hF (fun u t H1 locs1 ht hvm hp hB hz hk hS1 => ?_)
  obtain ⟨hP1, hD1⟩ := hB
  rw [ht] at hP1
  obtain ⟨hP2, hD2⟩ := sn_join hP hD hk hF hP1 hD1
  exact kk u H1 locs1 hp hP2 hD2 hS1
theorem sn_vI {S : Type} {Pr : S → Prop} {w' : S → va_W} {mc ms : Nat} (n : Nat) (S0 : CallFix p m c cc nL s args Ts own) (hl : lv_has ls nL lv) (hM : sn_Uv l y wsy d mc ms (.ref b :: As) D tys w H.size Pr w') (hG : GoodIn Ts wsy) (hw : wsy = Cond.code y bytes maxL none :: ws') (hini : (Cond.initialized y.cls).before args s = true) (hlink : (Cond.methodLink own index y).before args s = true) (hinst : (Cond.instanceMethod y).before args s = true) (hnm : y.name = "<init>")
    (hd : y.cls ≠ "java/lang/invoke/MethodHandle" ∧ y.cls ≠ "java/lang/invoke/VarHandle" ∧ (parseMethodDescriptor y.desc).map (fun d => d.parameters.length) = some n) (hn : As.length = n)
    (hR : d + 1 ≤ R.frames ∧ 8 + (maxL + 11) + 30 * d ≤ R.locals) (hcs : cells + mc ≤ R.cells ∧ slots + ms ≤ R.slots) (hP : va_P D vwCl (w0 ++ (w ++ wr)) H) (hD : va_D A (w0 ++ (w ++ wr))) (hS : va_S A s.heap H locs) (hA : ∀ q, s.heap.size ≤ q → A q) (hF0 : sn_F A s s.heap) (hK : va_K D vwCl tys s) (hN : sn_N s)
    (hst : st0 = As.reverse ++ .ref b :: rest) (hW : (rest.map fun v => v.category).sum ≤ 8) (hdg : decode cc pc = .ok (.invokespecial index, 3))
    (kk : ∀ (u : S) (H1 : Heap) (locs1 : List Loc), Pr u → va_P D vwCl (w0 ++ (w' u ++ wr)) H1 → va_D A (w0 ++ (w' u ++ wr)) → va_S A s.heap H1 locs1 → W p l e R s m args below meth c H1 locs1 (cells + mc) (slots + ms) Q (F0 m (pc + 3) ls rest)) : W p l e R s m args below meth c H locs cells slots Q (F0 m pc ls st0) := by
  subst hst
  have hPc : va_P D vwCl w H := sn_P_l (sn_P_r hP)
  have hDc : va_D A w := sn_D_l (sn_D_r hD)
  have hF : ∀ q, va_A w H.size q → A q := fun q h => by
    rcases h with ⟨k, e, h⟩ | h
    · exact hDc.2 k _ h
    · exact hA q (Nat.le_trans hS.1 h)
  refine va_callv (va_runI S0 hM (cwI n S0.2.2.2.2 hG hw rfl rfl hini hlink hinst hnm hd hR) ⟨sn_blindU, sn_preU hPc hK hN hDc hF0 hS hF⟩ rfl hn hl.1 rfl (lv_room hW) hdg hcs) hS (fun q _ h => hF q h) hF (fun u t H1 locs1 ht hvm hp hB hz hk hS1 => ?_)
  obtain ⟨hP1, hD1⟩ := hB
  rw [ht] at hP1
  obtain ⟨hP2, hD2⟩ := sn_join hP hD hk hF hP1 hD1
  exact kk u H1 locs1 hp hP2 hD2 hS1
end SN
section SNC
variable {p : Program} {l : Launch} {e : Env} {R : Room} {s : State} {m : MethodId} {args : Array Value} {below : List Frame} {meth : Method} {c : Code} {H : Heap} {locs : List Loc} {cells slots : Nat} {Q : State → Prop}
variable {cc : ByteArray} {pc : Nat} {ls : Array Slot} {rest : List Value} {D : va_G} {tys : List (ClassId × FieldType)} {ws : va_W} {A : Nat → Prop}
/-- the first firmness is cloned: a new row of five numbers -/
theorem sn_clone (hx : p.tables.exec = Jvm.exec) (hb : c.code = cc) (hml : c.maxLocals = ls.size) {own : String} {index t : Nat} (hown : s.vm.findClass own = some m.cls)
    (hlink : (Cond.methodLink own index ⟨"[I", "clone", "()Ljava/lang/Object;"⟩).before args s = true) (hsame : (Cond.sameMethod "[I" "java/lang/Object" "clone" "()Ljava/lang/Object;").before args s = true)
    (hnat : (Cond.native ⟨"java/lang/Object", "clone", "()Ljava/lang/Object;"⟩).before args s = true) (hinst : (Cond.instanceMethod ⟨"java/lang/Object", "clone", "()Ljava/lang/Object;"⟩).before args s = true)
    (hsel : (Cond.selects "[I" ⟨"[I", "clone", "()Ljava/lang/Object;"⟩ ⟨"java/lang/Object", "clone", "()Ljava/lang/Object;"⟩).before args s = true) (hcl : va_Nw (.castable "[I" "java/lang/Cloneable") s)
    (hK : va_K D vwCl tys s) (hP : va_P D vwCl ws H) (hD : va_D A ws) (hS : va_S A s.heap H locs) (hA : ∀ q, s.heap.size ≤ q → A q) (hT0 : sn_Tb t A s s.heap) (t0 : Nat) {cI : ClassId} (ht : tys[t0]? = some (cI, .int))
    (hframes : 1 ≤ R.frames) (hlocals : (rest.map fun v => v.category).sum + 14 ≤ R.locals) (hcells : cells + 1 ≤ R.cells) (hslots : slots + 5 ≤ R.slots) (hdg : decode cc pc = .ok (.invokevirtual index, 3))
    (kk : ∀ (q : Nat) (H1 : Heap), va_P D vwCl (ws ++ [(q, .inl (cI, 5, .inl sn_ff))]) H1 → va_D A (ws ++ [(q, .inl (cI, 5, .inl sn_ff))]) → va_S A s.heap H1 locs →
      W p l e R s m args below meth c H1 locs (cells + 1) (slots + 5) Q (F0 m (pc + 3) ls (.ref q :: rest))) : W p l e R s m args below meth c H locs cells slots Q (F0 m pc ls (.ref t :: rest)) := by
  obtain ⟨cell, h1, h2, h3, h4, h5, h6⟩ := hT0
  obtain ⟨c0, tc, f1, f2, f3⟩ := Cond.castable_spec (va_Nw.use (A := args) rfl hcl)
  cases h4.symm.trans f1
  have hRA : s.vm.findClass "[I" = some cI := (hK.2 t0 _ ht).2
  have hcI : cell.cls = cI := Option.some.inj (h4.symm.trans hRA)
  have hsz : cell.slots.size = 5 := by rw [h5, Array.size_ofFn]
  have hH : H[t]? = some cell := by rw [hS.2.1 t (Array.getElem?_eq_some_iff.mp h1).1 h6]; exact h1
  have hnew : ({ cls := cell.cls, slots := cell.slots } : Cell) = vp_cell cI (5, .inl sn_ff) := by
    rw [h5, hcI]; rfl
  intro T hT X
  obtain ⟨-, kA, hkA, comp, hkind⟩ := State.isArrayOf_alike X.warmed.alike ((hK.2 t0 _ ht).1 0 (fun _ => .null))
  obtain ⟨-, kS, hkS, compS, hkindS⟩ := (hK.2 t0 _ ht).1 0 (fun _ => .null)
  have hkA' : T.vm.classes[cI]? = some kA := hkA
  have hkS' : s.vm.classes[cI]? = some kS := hkS
  obtain ⟨vm', X', st⟩ := X.cloneArray hx hown hlink hsame hnat hinst hsel (a := t) (cell := cell) (by rw [hT]; exact hH) h2 h3 h4 f2 f3
    (fun i v hv => by
      rw [hcI]
      have hv2 : ∃ z : Int32, v = .int z := by
        rw [h5] at hv
        obtain ⟨hi, he⟩ := Array.getElem?_eq_some_iff.mp hv
        rw [Array.getElem_ofFn] at he
        exact ⟨_, he.symm⟩
      obtain ⟨z, rfl⟩ := hv2
      simp [State.fitsSlot, State.slotType?, hkA', hkind, fits])
    (g := F0 m pc ls (.ref t :: rest)) rfl (by rw [hml]) rfl (by rw [hb]; exact hdg) hframes (by show 2 * 0 + _ + 14 ≤ _; omega) hcells (by rw [hsz]; exact hslots) (hloader := by rw [hcI]; exact Vm.clonesLoader_of_array hkS' hkindS)
  rw [hnew, hsz] at X'
  rw [hnew] at st
  generalize hH1 : H.push (vp_cell cI (5, .inl sn_ff)) = H1
  have z1 : H1.size = H.size + 1 := by rw [← hH1, Array.size_push]
  have e1 : H1[H.size]? = some (vp_cell cI (5, .inl sn_ff)) := by rw [← hH1, Array.getElem?_push_size]
  have o1 : ∀ q : Nat, q < H.size → H1[q]? = H[q]? := fun q hq => by rw [← hH1, Array.getElem?_push, if_neg (Nat.ne_of_lt hq)]
  obtain ⟨t2, b1, b2⟩ := kk H.size H1 (va_P.app (hP.kept (fun k y hy => o1 y.1 ((hP k y hy).lt))) (fun k y hy => by
      have hz : k < 1 := (List.getElem?_eq_some_iff.mp hy).1
      rw [show k = 0 by omega] at hy
      cases hy
      exact e1)) (hD.push hP rfl (hA _ hS.1)) ⟨Nat.le_trans hS.1 (by omega), fun y g1 g2 => (o1 y (Nat.lt_of_lt_of_le g1 hS.1)).trans (hS.2.1 y g1 g2), hS.2.2⟩
    ((T.setVm vm').pushCell (vp_cell cI (5, .inl sn_ff))) (by rw [← hH1, ← hT]; rfl) X'
  refine ⟨t2, st t2 ?_, b2⟩
  rw [hT]
  exact b1
theorem sn_ifnull {v : Option Nat} (hx : p.tables.exec = Jvm.exec) (hb : c.code = cc) {off : Int} {tgt : Nat} (hdg : decode cc pc = .ok (.ifnull off, 3)) (ht : (pc : Int) + off = (tgt : Int)) (kt : v = none → W p l e R s m args below meth c H locs cells slots Q (F0 m tgt ls rest)) (kf : ∀ r : Nat, v = some r → W p l e R s m args below meth c H locs cells slots Q (F0 m (pc + 3) ls rest)) : W p l e R s m args below meth c H locs cells slots Q (F0 m pc ls (va_rf v :: rest)) := by
  cases v with
  | none => exact lv_ifnullN hx hb hdg ht (kt rfl)
  | some r => exact lv_ifnull hx hb hdg (kf r rfl)
theorem sn_ifnonnull {v : Option Nat} (hx : p.tables.exec = Jvm.exec) (hb : c.code = cc) {off : Int} {tgt : Nat} (hdg : decode cc pc = .ok (.ifnonnull off, 3)) (ht : (pc : Int) + off = (tgt : Int)) (kt : ∀ r : Nat, v = some r → W p l e R s m args below meth c H locs cells slots Q (F0 m tgt ls rest)) (kf : v = none → W p l e R s m args below meth c H locs cells slots Q (F0 m (pc + 3) ls rest)) : W p l e R s m args below meth c H locs cells slots Q (F0 m pc ls (va_rf v :: rest)) := by
  cases v with
  | none => exact lv_ifnonnullN hx hb hdg (kf rfl)
  | some r => exact lv_ifnonnull hx hb hdg ht (kt r rfl)
end SNC
end
section
/-! ===== numbers: counters and indices as Nat (nI), comparisons, array rows by a Nat index ===== -/
theorem sn_inc (k : Nat) : nI k + Int32.ofInt 1 = nI (k + 1) := nI_add k 1
theorem sn_incn (k n : Nat) : nI k + nI n = nI (k + n) := nI_add k n
theorem sn_nadd {x y : Int32} {a b : Nat} (hx : x = nI a) (hy : y = nI b) : x + y = nI (a + b) := by rw [hx, hy]; exact nI_add a b
theorem sn_nmul {x y : Int32} {a b : Nat} (hx : x = nI a) (hy : y = nI b) : x * y = nI (a * b) := by rw [hx, hy]; exact pk_mul a b
theorem sn_nsub {x y : Int32} {a b : Nat} (hx : x = nI a) (hy : y = nI b) (h : b ≤ a) : x - y = nI (a - b) := by rw [hx, hy]; exact pk_sub h
section SC
variable {x y : Int32} {a b : Nat} (hx : x = nI a) (hy : y = nI b) (ha : a < 2147483648) (hb : b < 2147483648)
theorem sn_ceqj (hx : x = nI a) (hy : y = nI b) (ha : a < 2147483648) (hb : b < 2147483648) : x = y ↔ a = b := by rw [hx, hy]; exact nI_eq ha hb
theorem sn_ceqf (hx : x = nI a) (hy : y = nI b) (ha : a < 2147483648) (hb : b < 2147483648) : ¬ x = y ↔ ¬ a = b := not_congr (sn_ceqj hx hy ha hb)
theorem sn_cnej (hx : x = nI a) (hy : y = nI b) (ha : a < 2147483648) (hb : b < 2147483648) : ¬ x = y ↔ ¬ a = b := not_congr (sn_ceqj hx hy ha hb)
theorem sn_cnef (hx : x = nI a) (hy : y = nI b) (ha : a < 2147483648) (hb : b < 2147483648) : x = y ↔ a = b := sn_ceqj hx hy ha hb
theorem sn_cltj (hx : x = nI a) (hy : y = nI b) (ha : a < 2147483648) (hb : b < 2147483648) : x < y ↔ a < b := by rw [hx, hy]; exact nI_ltI ha hb
theorem sn_cltf (hx : x = nI a) (hy : y = nI b) (ha : a < 2147483648) (hb : b < 2147483648) : ¬ x < y ↔ ¬ a < b := not_congr (sn_cltj hx hy ha hb)
theorem sn_cgej (hx : x = nI a) (hy : y = nI b) (ha : a < 2147483648) (hb : b < 2147483648) : y ≤ x ↔ b ≤ a := by rw [hx, hy]; exact nI_leI hb ha
theorem sn_cgef (hx : x = nI a) (hy : y = nI b) (ha : a < 2147483648) (hb : b < 2147483648) : ¬ y ≤ x ↔ ¬ b ≤ a := not_congr (sn_cgej hx hy ha hb)
theorem sn_cgtj (hx : x = nI a) (hy : y = nI b) (ha : a < 2147483648) (hb : b < 2147483648) : y < x ↔ b < a := by rw [hx, hy]; exact nI_ltI hb ha
theorem sn_cgtf (hx : x = nI a) (hy : y = nI b) (ha : a < 2147483648) (hb : b < 2147483648) : ¬ y < x ↔ ¬ b < a := not_congr (sn_cgtj hx hy ha hb)
theorem sn_clej (hx : x = nI a) (hy : y = nI b) (ha : a < 2147483648) (hb : b < 2147483648) : x ≤ y ↔ a ≤ b := by rw [hx, hy]; exact nI_leI ha hb
theorem sn_clef (hx : x = nI a) (hy : y = nI b) (ha : a < 2147483648) (hb : b < 2147483648) : ¬ x ≤ y ↔ ¬ a ≤ b := not_congr (sn_clej hx hy ha hb)
end SC
theorem sn_lt (a b : Int32) : a < b ↔ a.toInt < b.toInt := Int32.lt_iff_toInt_lt
theorem sn_le (a b : Int32) : a ≤ b ↔ a.toInt ≤ b.toInt := Int32.le_iff_toInt_le
theorem sn_eq (a b : Int32) : a = b ↔ a.toInt = b.toInt := Int32.toInt_inj.symm
section SA
variable {p : Program} {l : Launch} {e : Env} {R : Room} {s : State} {m : MethodId} {args : Array Value} {below : List Frame} {meth : Method} {c : Code} {H : Heap} {locs : List Loc} {cells slots : Nat} {Q : State → Prop}
variable {cc : ByteArray} {pc : Nat} {ls : Array Slot} {rest : List Value} {D : va_G} {cl : List vw_C} {A : Nat → Prop} {a : Nat} {tys : List (ClassId × FieldType)} {ws : va_W} {H0 : Heap}
theorem sn_ild {cA : ClassId} {n k : Nat} {g : Nat → Int32} {i v : Int32} (q0 t0 : Nat) (hx : p.tables.exec = Jvm.exec) (hb : c.code = cc) (hK : va_K D cl tys s) (hP : va_P D cl ws H) (ha : ws[q0]? = some (a, .inl (cA, n, .inl g))) (ht : tys[t0]? = some (cA, .int)) (hk : k < n) (hn : n < 2147483648) (hi : i = nI k) (hv : g k = v) (hdg : decode cc pc = .ok (.iaload, 1))
    (kk : W p l e R s m args below meth c H locs cells slots Q (F0 m (pc + 1) ls (.int v :: rest))) : W p l e R s m args below meth c H locs cells slots Q (F0 m pc ls (.int i :: .ref a :: rest)) := by
  subst hi; subst hv
  refine va_iald hx hb hK hP q0 t0 ha ht (vp_in_nI hk hn) hdg ?_
  rw [nI_clamp (by omega)]
  exact kk
theorem sn_zld {cA : ClassId} {n k : Nat} {g : Nat → Int32} {i v : Int32} (q0 t0 : Nat) (hx : p.tables.exec = Jvm.exec) (hb : c.code = cc) (hK : va_K D cl tys s) (hP : va_P D cl ws H) (ha : ws[q0]? = some (a, .inl (cA, n, .inl g))) (ht : tys[t0]? = some (cA, .boolean)) (hk : k < n) (hn : n < 2147483648) (hi : i = nI k) (hv : g k = v) (hdg : decode cc pc = .ok (.baload, 1))
    (kk : W p l e R s m args below meth c H locs cells slots Q (F0 m (pc + 1) ls (.int v :: rest))) : W p l e R s m args below meth c H locs cells slots Q (F0 m pc ls (.int i :: .ref a :: rest)) := by
  subst hi; subst hv
  refine va_zald hx hb hK hP q0 t0 ha ht (vp_in_nI hk hn) hdg ?_
  rw [nI_clamp (by omega)]
  exact kk
theorem sn_ist {cA : ClassId} {n k : Nat} {g : Nat → Int32} {i x : Int32} (q0 t0 : Nat) (hx : p.tables.exec = Jvm.exec) (hb : c.code = cc) (hK : va_K D cl tys s) (hP : va_P D cl ws H) (hD : va_D A ws) (hS : va_S A H0 H locs) (ha : ws[q0]? = some (a, .inl (cA, n, .inl g))) (ht : tys[t0]? = some (cA, .int)) (hk : k < n) (hn : n < 2147483648) (hi : i = nI k) (hdg : decode cc pc = .ok (.iastore, 1))
    (kk : ∀ (H1 : Heap) (locs1 : List Loc), va_P D cl (ws.set q0 (a, .inl (cA, n, .inl (upd g k x)))) H1 → va_D A (ws.set q0 (a, .inl (cA, n, .inl (upd g k x)))) → va_S A H0 H1 locs1 → W p l e R s m args below meth c H1 locs1 cells slots Q (F0 m (pc + 1) ls rest)) : W p l e R s m args below meth c H locs cells slots Q (F0 m pc ls (.int x :: .int i :: .ref a :: rest)) := by
  subst hi
  refine va_iast hx hb hK hP hD hS q0 t0 ha ht (vp_in_nI hk hn) hdg ?_
  rw [nI_clamp (by omega)]
  exact kk
theorem sn_zst {cA : ClassId} {n k : Nat} {g : Nat → Int32} {i x : Int32} (q0 t0 : Nat) (hx : p.tables.exec = Jvm.exec) (hb : c.code = cc) (hK : va_K D cl tys s) (hP : va_P D cl ws H) (hD : va_D A ws) (hS : va_S A H0 H locs) (ha : ws[q0]? = some (a, .inl (cA, n, .inl g))) (ht : tys[t0]? = some (cA, .boolean)) (hk : k < n) (hn : n < 2147483648) (hi : i = nI k) (h01 : x = 0 ∨ x = 1) (hdg : decode cc pc = .ok (.bastore, 1))
    (kk : ∀ (H1 : Heap) (locs1 : List Loc), va_P D cl (ws.set q0 (a, .inl (cA, n, .inl (upd g k x)))) H1 → va_D A (ws.set q0 (a, .inl (cA, n, .inl (upd g k x)))) → va_S A H0 H1 locs1 → W p l e R s m args below meth c H1 locs1 cells slots Q (F0 m (pc + 1) ls rest)) : W p l e R s m args below meth c H locs cells slots Q (F0 m pc ls (.int x :: .int i :: .ref a :: rest)) := by
  subst hi
  refine va_zast hx hb hK hP hD hS q0 t0 ha ht (vp_in_nI hk hn) hdg ?_
  rw [nI_clamp (by omega), sn_narz h01]
  exact kk
theorem sn_ald {cA : ClassId} {C : String} {n k : Nat} {g : Nat → Option Nat} {i : Int32} (q0 t0 : Nat) (hx : p.tables.exec = Jvm.exec) (hb : c.code = cc) (hK : va_K D cl tys s) (hP : va_P D cl ws H) (ha : ws[q0]? = some (a, .inl (cA, n, .inr (.inr (.inr (.inr g)))))) (ht : tys[t0]? = some (cA, .object C)) (hk : k < n) (hn : n < 2147483648) (hi : i = nI k) (hdg : decode cc pc = .ok (.aaload, 1))
    (kk : W p l e R s m args below meth c H locs cells slots Q (F0 m (pc + 1) ls (va_rf (g k) :: rest))) : W p l e R s m args below meth c H locs cells slots Q (F0 m pc ls (.int i :: .ref a :: rest)) := by
  subst hi
  refine va_aldq hx hb hK hP q0 t0 ha ht (vp_in_nI hk hn) hdg ?_
  rw [nI_clamp (by omega)]
  exact kk
end SA
/-! ===== the words of the state: f, the 57 numbers that class and reference both keep ===== -/
abbrev sn_ty (cI cZ cR : ClassId) : List (ClassId × FieldType) := [(cI, .int), (cZ, .boolean), (cR, .object "SnowSlabs$Cover")]
abbrev sn_wC (cI cZ : ClassId) (a : Nat → Nat) (f : Nat → Int32) : va_W :=
  [(a 0, .inr (0, [.int (f 0), .int (f 1), .ref (a 1), .ref (a 2), .ref (a 3), .ref (a 4), .ref (a 5), .ref (a 6)])), (a 1, .inl (cI, 10, .inl (fun k => f (7 + 5 * k)))), (a 2, .inl (cI, 10, .inl (fun k => f (8 + 5 * k)))), (a 3, .inl (cI, 10, .inl (fun k => f (9 + 5 * k)))), (a 4, .inl (cI, 10, .inl (fun k => f (10 + 5 * k)))), (a 5, .inl (cZ, 10, .inl (fun k => f (11 + 5 * k)))), (a 6, .inl (cI, 5, .inl (fun k => f (2 + k))))]
/-- the class's object and its cover -/
abbrev sn_wS (cI cZ : ClassId) (o : Nat) (a bt : Nat → Nat) (im : Nat) (f : Nat → Int32) : va_W := (o, .inr (2, [.ref (a 0), .ref (bt 0), .ref im])) :: sn_wC cI cZ a f
/-- the reference's cells -/
abbrev sn_wM (cI cZ : ClassId) (a : Nat → Nat) (f g kp tp ly : Nat → Int32) (n : Int32) : va_W :=
  [(a 0, .inr (3, [.ref (a 1), .ref (a 2), .ref (a 3), .ref (a 4), .ref (a 5), .int n])), (a 1, .inl (cI, 57, .inl f)), (a 2, .inl (cI, 114, .inl g)), (a 3, .inl (cZ, 2, .inl kp)), (a 4, .inl (cI, 30, .inl tp)), (a 5, .inl (cI, 30, .inl ly))]
def sn_dep (f : Nat → Int32) (i : Nat) : Nat → Int32
  | 0 => 0
  | b + 1 => if i ≤ b then sn_dep f i b + f (7 + 5 * b) else 0
def sn_mas (f : Nat → Int32) (i : Nat) : Nat → Int32
  | 0 => 0
  | b + 1 => if i ≤ b then sn_mas f i b + f (7 + 5 * b) * f (8 + 5 * b) else 0
theorem sn_dep_self (f : Nat → Int32) : ∀ i, sn_dep f i i = 0
  | 0 => rfl
  | i + 1 => if_neg (by omega)
theorem sn_mas_self (f : Nat → Int32) : ∀ i, sn_mas f i i = 0
  | 0 => rfl
  | i + 1 => if_neg (by omega)
theorem sn_dep_s {f : Nat → Int32} {i b : Nat} (h : i ≤ b) : sn_dep f i b + f (7 + 5 * b) = sn_dep f i (b + 1) := (if_pos h).symm
theorem sn_mas_s {f : Nat → Int32} {i b : Nat} (h : i ≤ b) : sn_mas f i b + f (7 + 5 * b) * f (8 + 5 * b) = sn_mas f i (b + 1) := (if_pos h).symm
def sn_str (f : Nat → Int32) (i : Nat) : Int32 :=
  if f (11 + 5 * i) = 0 then f (2 + (f (9 + 5 * i)).toNatClampNeg) * f (10 + 5 * i) * f (8 + 5 * i) / 100 else f (2 + (f (9 + 5 * i)).toNatClampNeg) * f (10 + 5 * i) * f (8 + 5 * i) / 100 / 2
def sn_lod (f : Nat → Int32) (i b : Nat) : Int32 := sn_mas f (i + 1) b / 100
def sn_prs (f : Nat → Int32) (i b : Nat) (w : Int32) : Int32 := 100 * w / (sn_dep f (i + 1) b + 10)
def sn_she (f : Nat → Int32) (i n : Nat) (s : Int32) : Int32 := sn_lod f i n * s / 100
def sn_mar (f : Nat → Int32) (i n : Nat) (s : Int32) : Int32 := if sn_she f i n s = 0 then 9999 else 100 * sn_str f i / sn_she f i n s
/-- what holds of the state between calls: n layers -/
def sn_Ly (f : Nat → Int32) (k : Nat) : Prop := (0 ≤ (f (7 + 5 * k)).toInt ∧ (f (7 + 5 * k)).toInt ≤ 200) ∧ (0 ≤ (f (8 + 5 * k)).toInt ∧ (f (8 + 5 * k)).toInt ≤ 600) ∧ vp_in (f (9 + 5 * k)) 5 ∧ (0 ≤ (f (10 + 5 * k)).toInt ∧ (f (10 + 5 * k)).toInt ≤ 5) ∧ (f (11 + 5 * k) = 0 ∨ f (11 + 5 * k) = 1)
def sn_I (f : Nat → Int32) (n : Nat) : Prop := f 0 = nI n ∧ n ≤ 10 ∧ (1 ≤ (f 1).toInt ∧ (f 1).toInt ≤ 50) ∧ ∀ k, k < 10 → sn_Ly f k
theorem sn_add_toInt {x y : Int32} (h1 : -2147483648 ≤ x.toInt + y.toInt) (h2 : x.toInt + y.toInt < 2147483648) : (x + y).toInt = x.toInt + y.toInt := by
  rw [Int32.toInt_add]
  exact Int.bmod_eq_of_le (by omega) (by omega)
theorem sn_sub_toInt {x y : Int32} (h1 : -2147483648 ≤ x.toInt - y.toInt) (h2 : x.toInt - y.toInt < 2147483648) : (x - y).toInt = x.toInt - y.toInt := by
  rw [Int32.toInt_sub]
  exact Int.bmod_eq_of_le (by omega) (by omega)
theorem sn_mul_toInt {x y : Int32} (h1 : -2147483648 ≤ x.toInt * y.toInt) (h2 : x.toInt * y.toInt < 2147483648) : (x * y).toInt = x.toInt * y.toInt := by
  rw [Int32.toInt_mul]
  exact Int.bmod_eq_of_le (by omega) (by omega)
/-- the depth over some layers is small -/
theorem sn_dep_b {f : Nat → Int32} {n : Nat} (hI : sn_I f n) (i : Nat) : ∀ b, b ≤ 10 → 0 ≤ (sn_dep f i b).toInt ∧ (sn_dep f i b).toInt ≤ 200 * b
  | 0, _ => ⟨Int.le_refl 0, Int.le_refl 0⟩
  | b + 1, h => by
    have ih := sn_dep_b hI i b (by omega)
    have hL := (hI.2.2.2 b (by omega)).1
    by_cases hib : i ≤ b
    · rw [← sn_dep_s hib, sn_add_toInt (by omega) (by omega)]
      omega
    · rw [show sn_dep f i (b + 1) = 0 from if_neg hib]
      exact ⟨Int.le_refl 0, by show (0 : Int) ≤ _; omega⟩
theorem sn_dep_ne {f : Nat → Int32} {n : Nat} (hI : sn_I f n) (i b : Nat) (hb : b ≤ 10) : ¬ sn_dep f i b + 10 = 0 := by
  have h := sn_dep_b hI i b hb
  intro e
  have e1 := congrArg Int32.toInt e
  rw [sn_add_toInt (by show _ ≤ _ + (10 : Int); omega) (by show _ + (10 : Int) < _; omega)] at e1
  have e2 : (sn_dep f i b).toInt + 10 = 0 := e1
  omega
theorem sn_rng {x : Int32} {lo hi : Nat} (h : nI lo ≤ x ∧ x ≤ nI hi) (hh : lo < 2147483648 ∧ hi < 2147483648) : ∃ t, lo ≤ t ∧ t ≤ hi ∧ x = nI t := by
  have h1 := h.1
  have h2 := h.2
  rw [sn_le] at h1 h2
  rw [nI_toInt (by omega)] at h2
  rw [nI_toInt (by omega)] at h1
  refine ⟨x.toInt.toNat, by omega, by omega, ?_⟩
  rw [sn_eq, nI_toInt (by omega)]
  omega
end
section
/-! ===== searches: answers as the machine has them (sn_en 0 is NONE), loops that go down (sn_dn j x: x is j - 1, or below 0 if j is 0) ===== -/
def sn_en : Nat → Int32
  | 0 => -6
  | j + 1 => nI j
def sn_dn : Nat → Int32 → Prop
  | 0, x => x < 0
  | j + 1, x => x = nI j
theorem sn_dn_2 : ∀ b : Nat, sn_dn (b - 1) (nI b - 2)
  | 0 => show (nI 0 - 2 : Int32) < 0 by decide
  | 1 => show (nI 1 - 2 : Int32) < 0 by decide
  | b + 2 => (pk_sub (show 2 ≤ b + 2 by omega)).trans (by rw [Nat.add_sub_cancel])
theorem sn_dn_1 : ∀ b : Nat, sn_dn b (nI b - 1)
  | 0 => show (nI 0 - 1 : Int32) < 0 by decide
  | b + 1 => nI_pred b
theorem sn_dn_p : ∀ j : Nat, sn_dn j (nI j + (-1))
  | 0 => show (nI 0 + (-1) : Int32) < 0 by decide
  | j + 1 => pk_m1 j
theorem sn_en_ne {j : Nat} (h : j < 2147483648) : ¬ nI j = -6 := by
  intro e
  have e1 := congrArg Int32.toInt e
  rw [nI_toInt (by omega)] at e1
  have e2 : (j : Int) = -6 := e1
  omega
theorem sn_en_none {q : Nat} (h : q < 2147483648) : sn_en q = -6 ↔ q = 0 := by
  cases q with
  | zero => exact ⟨fun _ => rfl, fun _ => rfl⟩
  | succ j => exact ⟨fun e => absurd e (sn_en_ne (by omega)), fun e => absurd e (by omega)⟩
theorem sn_en_neg {q : Nat} (h : q < 2147483648) : sn_en q < 0 ↔ q = 0 := by
  cases q with
  | zero => exact ⟨fun _ => rfl, fun _ => by decide⟩
  | succ j => exact ⟨fun e => absurd e (nI_pos (by omega)), fun e => absurd e (by omega)⟩
theorem sn_en_pos {q : Nat} (h : ¬ q = 0) : sn_en q = nI (q - 1) := by
  cases q with
  | zero => exact absurd rfl h
  | succ j => rfl
/-- the uppermost layer, with 1 added, that breaks in a block of b layers, of those below j -/
def sn_bkA (f : Nat → Int32) (b : Nat) (w : Int32) : Nat → Nat
  | 0 => 0
  | j + 1 => if sn_str f j ≤ sn_lod f j b + sn_prs f j b w then j + 1 else sn_bkA f b w j
def sn_bk (f : Nat → Int32) (b : Nat) (w : Int32) : Nat := sn_bkA f b w (b - 1)
theorem sn_bkA_le (f : Nat → Int32) (b : Nat) (w : Int32) : ∀ j, sn_bkA f b w j ≤ j
  | 0 => Nat.le_refl 0
  | j + 1 => by
    unfold sn_bkA
    have := sn_bkA_le f b w j
    split <;> omega
theorem sn_bk_le (f : Nat → Int32) (b : Nat) (w : Int32) : sn_bk f b w ≤ b - 1 := sn_bkA_le f b w (b - 1)
abbrev sn_Go (f : Nat → Int32) (n : Nat) (s w : Int32) (i : Nat) : Prop := sn_str f i ≤ sn_she f i n s + sn_prs f i n w
def sn_gnA (f : Nat → Int32) (n : Nat) (s w : Int32) : Nat → Nat
  | 0 => 0
  | j + 1 => if sn_Go f n s w j then j + 1 else sn_gnA f n s w j
def sn_gn (f : Nat → Int32) (n : Nat) (s w : Int32) : Nat := sn_gnA f n s w (n - 1)
theorem sn_gnA_le (f : Nat → Int32) (n : Nat) (s w : Int32) : ∀ j, sn_gnA f n s w j ≤ j
  | 0 => Nat.le_refl 0
  | j + 1 => by
    unfold sn_gnA
    have := sn_gnA_le f n s w j
    split <;> omega
/-- the weakest layer, with 1 added, of those below j -/
def sn_wkA (f : Nat → Int32) (n : Nat) (s : Int32) : Nat → Nat
  | 0 => 0
  | j + 1 => if sn_wkA f n s j = 0 ∨ sn_mar f j n s ≤ sn_mar f (sn_wkA f n s j - 1) n s then j + 1 else sn_wkA f n s j
def sn_wk (f : Nat → Int32) (n : Nat) (s : Int32) : Nat := sn_wkA f n s (n - 1)
theorem sn_wkA_spec (f : Nat → Int32) (n : Nat) (s : Int32) : ∀ j, (j = 0 ∧ sn_wkA f n s j = 0) ∨ (0 < sn_wkA f n s j ∧ sn_wkA f n s j ≤ j ∧ ∀ i, i < j → (sn_mar f (sn_wkA f n s j - 1) n s).toInt ≤ (sn_mar f i n s).toInt ∧ (sn_wkA f n s j - 1 < i → (sn_mar f (sn_wkA f n s j - 1) n s).toInt < (sn_mar f i n s).toInt))
  | 0 => Or.inl ⟨rfl, rfl⟩
  | j + 1 => by
    refine Or.inr ?_
    have ih := sn_wkA_spec f n s j
    show 0 < sn_wkA f n s (j + 1) ∧ _
    by_cases h : sn_wkA f n s j = 0 ∨ sn_mar f j n s ≤ sn_mar f (sn_wkA f n s j - 1) n s
    · have e : sn_wkA f n s (j + 1) = j + 1 := if_pos h
      rw [e]
      refine ⟨by omega, by omega, fun i hi => ?_⟩
      rw [show j + 1 - 1 = j from rfl]
      by_cases hij : i = j
      · subst hij; exact ⟨Int.le_refl _, fun h => absurd h (by omega)⟩
      · refine ⟨?_, fun h => absurd h (by omega)⟩
        rcases ih with ⟨h1, h2⟩ | ⟨h1, h2, h3⟩
        · omega
        · have h4 := (h3 i (by omega)).1
          rcases h with h | h
          · omega
          · rw [sn_le] at h; omega
    · have e : sn_wkA f n s (j + 1) = sn_wkA f n s j := if_neg h
      rw [e]
      have h5 : ¬ sn_wkA f n s j = 0 := fun z => h (Or.inl z)
      have h6 : ¬ sn_mar f j n s ≤ sn_mar f (sn_wkA f n s j - 1) n s := fun z => h (Or.inr z)
      rw [sn_le] at h6
      rcases ih with ⟨h1, h2⟩ | ⟨h1, h2, h3⟩
      · exact absurd h2 h5
      · refine ⟨h1, by omega, fun i hi => ?_⟩
        by_cases hij : i = j
        · subst hij; exact ⟨by omega, fun _ => by omega⟩
        · exact h3 i (by omega)
theorem sn_wkA_le (f : Nat → Int32) (n : Nat) (s : Int32) (j : Nat) : sn_wkA f n s j ≤ j := by
  rcases sn_wkA_spec f n s j with ⟨h1, h2⟩ | ⟨h1, h2, h3⟩ <;> omega
theorem sn_wkA_pos (f : Nat → Int32) (n : Nat) (s : Int32) (j : Nat) : sn_wkA f n s j = 0 ↔ j = 0 := by
  rcases sn_wkA_spec f n s j with ⟨h1, h2⟩ | ⟨h1, h2, h3⟩ <;> omega
/-- the search from the top down, layers j and above looked at: q the weakest of them with 1 added, L its margin -/
def sn_Wk (f : Nat → Int32) (n : Nat) (s : Int32) (j q : Nat) (L : Int32) : Prop :=
  (q = 0 ∧ n - 1 ≤ j) ∨ (j < q ∧ q ≤ n - 1 ∧ L = sn_mar f (q - 1) n s ∧ ∀ i, j ≤ i → i < n - 1 → (sn_mar f (q - 1) n s).toInt ≤ (sn_mar f i n s).toInt ∧ (q - 1 < i → (sn_mar f (q - 1) n s).toInt < (sn_mar f i n s).toInt))
theorem sn_Wk_end {f : Nat → Int32} {n : Nat} {s : Int32} {q : Nat} {L : Int32} (h : sn_Wk f n s 0 q L) : q = sn_wk f n s := by
  unfold sn_wk
  rcases sn_wkA_spec f n s (n - 1) with ⟨h1, h2⟩ | ⟨h1, h2, h3⟩ <;> rcases h with ⟨h4, h5⟩ | ⟨h4, h5, h6, h7⟩
  · omega
  · omega
  · omega
  · have a1 := h3 (q - 1) (by omega)
    have a2 := h7 (sn_wkA f n s (n - 1) - 1) (by omega) (by omega)
    rcases Nat.lt_trichotomy (q - 1) (sn_wkA f n s (n - 1) - 1) with h | h | h
    · have := a2.2 h; omega
    · omega
    · have := a1.2 h; omega
theorem sn_Wk_take {f : Nat → Int32} {n : Nat} {s : Int32} {j q : Nat} {L : Int32} (h : sn_Wk f n s (j + 1) q L) (hj : j < n - 1) (hc : q = 0 ∨ sn_mar f j n s < L) : sn_Wk f n s j (j + 1) (sn_mar f j n s) := by
  refine Or.inr ⟨by omega, by omega, rfl, fun i h1 h2 => ?_⟩
  rw [show j + 1 - 1 = j from rfl]
  by_cases hij : i = j
  · subst hij; exact ⟨Int.le_refl _, fun h => absurd h (by omega)⟩
  · rcases h with ⟨h4, h5⟩ | ⟨h4, h5, h6, h7⟩
    · omega
    · have a := (h7 i (by omega) h2).1
      rcases hc with hc | hc
      · omega
      · rw [h6, sn_lt] at hc; exact ⟨by omega, fun _ => by omega⟩
theorem sn_Wk_keep {f : Nat → Int32} {n : Nat} {s : Int32} {j q : Nat} {L : Int32} (h : sn_Wk f n s (j + 1) q L) (h1 : ¬ q = 0) (h2 : ¬ sn_mar f j n s < L) : sn_Wk f n s j q L := by
  rcases h with ⟨h4, h5⟩ | ⟨h4, h5, h6, h7⟩
  · exact absurd h4 h1
  · refine Or.inr ⟨by omega, h5, h6, fun i h8 h9 => ?_⟩
    by_cases hij : i = j
    · subst hij
      rw [h6, sn_lt] at h2
      exact ⟨by omega, fun h => absurd h (by omega)⟩
    · exact h7 i (by omega) h9
/-- the weight of a tap -/
def sn_wt (t : Nat) (v : Int32) : Int32 := if t ≤ 10 then v else if t ≤ 20 then 2 * v else 4 * v
/-! ===== taps: the block's end, the breaks, their taps and layers behind t taps ===== -/
def sn_tE (f : Nat → Int32) (n : Nat) (v : Int32) : Nat → Nat
  | 0 => n
  | t + 1 => if sn_bk f (sn_tE f n v t) (sn_wt (t + 1) v) = 0 then sn_tE f n v t else sn_bk f (sn_tE f n v t) (sn_wt (t + 1) v)
def sn_tC (f : Nat → Int32) (n : Nat) (v : Int32) : Nat → Nat
  | 0 => 0
  | t + 1 => if sn_bk f (sn_tE f n v t) (sn_wt (t + 1) v) = 0 then sn_tC f n v t else sn_tC f n v t + 1
def sn_tT (f : Nat → Int32) (n : Nat) (v : Int32) : Nat → Nat → Int32
  | 0 => fun _ => 0
  | t + 1 => if sn_bk f (sn_tE f n v t) (sn_wt (t + 1) v) = 0 then sn_tT f n v t else upd (sn_tT f n v t) (sn_tC f n v t) (nI (t + 1))
def sn_tL (f : Nat → Int32) (n : Nat) (v : Int32) : Nat → Nat → Int32
  | 0 => fun _ => 0
  | t + 1 => if sn_bk f (sn_tE f n v t) (sn_wt (t + 1) v) = 0 then sn_tL f n v t else upd (sn_tL f n v t) (sn_tC f n v t) (nI (sn_bk f (sn_tE f n v t) (sn_wt (t + 1) v) - 1))
theorem sn_tE_z {f : Nat → Int32} {n : Nat} {v : Int32} {t : Nat} (h : sn_bk f (sn_tE f n v t) (sn_wt (t + 1) v) = 0) : sn_tE f n v (t + 1) = sn_tE f n v t := if_pos h
theorem sn_tE_p {f : Nat → Int32} {n : Nat} {v : Int32} {t : Nat} (h : ¬ sn_bk f (sn_tE f n v t) (sn_wt (t + 1) v) = 0) : sn_tE f n v (t + 1) = sn_bk f (sn_tE f n v t) (sn_wt (t + 1) v) := if_neg h
theorem sn_tC_z {f : Nat → Int32} {n : Nat} {v : Int32} {t : Nat} (h : sn_bk f (sn_tE f n v t) (sn_wt (t + 1) v) = 0) : sn_tC f n v (t + 1) = sn_tC f n v t := if_pos h
theorem sn_tC_p {f : Nat → Int32} {n : Nat} {v : Int32} {t : Nat} (h : ¬ sn_bk f (sn_tE f n v t) (sn_wt (t + 1) v) = 0) : sn_tC f n v (t + 1) = sn_tC f n v t + 1 := if_neg h
theorem sn_tT_z {f : Nat → Int32} {n : Nat} {v : Int32} {t : Nat} (h : sn_bk f (sn_tE f n v t) (sn_wt (t + 1) v) = 0) : sn_tT f n v (t + 1) = sn_tT f n v t := if_pos h
theorem sn_tT_p {f : Nat → Int32} {n : Nat} {v : Int32} {t : Nat} (h : ¬ sn_bk f (sn_tE f n v t) (sn_wt (t + 1) v) = 0) : sn_tT f n v (t + 1) = upd (sn_tT f n v t) (sn_tC f n v t) (nI (t + 1)) := if_neg h
theorem sn_tL_z {f : Nat → Int32} {n : Nat} {v : Int32} {t : Nat} (h : sn_bk f (sn_tE f n v t) (sn_wt (t + 1) v) = 0) : sn_tL f n v (t + 1) = sn_tL f n v t := if_pos h
theorem sn_tL_p {f : Nat → Int32} {n : Nat} {v : Int32} {t : Nat} (h : ¬ sn_bk f (sn_tE f n v t) (sn_wt (t + 1) v) = 0) : sn_tL f n v (t + 1) = upd (sn_tL f n v t) (sn_tC f n v t) (nI (sn_bk f (sn_tE f n v t) (sn_wt (t + 1) v) - 1)) := if_neg h
theorem sn_tCE (f : Nat → Int32) (n : Nat) (v : Int32) : ∀ t, sn_tC f n v t + sn_tE f n v t ≤ n
  | 0 => by show 0 + n ≤ n; omega
  | t + 1 => by
    have ih := sn_tCE f n v t
    have hb := sn_bk_le f (sn_tE f n v t) (sn_wt (t + 1) v)
    by_cases h : sn_bk f (sn_tE f n v t) (sn_wt (t + 1) v) = 0
    · rw [sn_tE_z h, sn_tC_z h]; exact ih
    · rw [sn_tE_p h, sn_tC_p h]; omega
/-- each break's layer has one on it -/
theorem sn_tL_in (f : Nat → Int32) (n : Nat) (v : Int32) : ∀ t i, i < sn_tC f n v t → ∃ k : Nat, k + 1 < n ∧ sn_tL f n v t i = nI k
  | 0, i, h => absurd h (Nat.not_lt_zero i)
  | t + 1, i, h => by
    have hb := sn_bk_le f (sn_tE f n v t) (sn_wt (t + 1) v)
    have hE := sn_tCE f n v t
    by_cases hz : sn_bk f (sn_tE f n v t) (sn_wt (t + 1) v) = 0
    · rw [sn_tC_z hz] at h; rw [sn_tL_z hz]; exact sn_tL_in f n v t i h
    · rw [sn_tC_p hz] at h; rw [sn_tL_p hz]
      by_cases hi : i = sn_tC f n v t
      · subst hi
        exact ⟨_, by omega, pk_us⟩
      · rw [pk_un hi]; exact sn_tL_in f n v t i (by omega)
end
section
/-! ===== the sun: heat of a side in an hour, up to an hour, the hour in which a side is warm, the sides in their order ===== -/
def sn_hv (i h : Nat) : Nat := if 6 ≤ h ∧ h ≤ 18 then 90 - (if (if 15 * h ≤ 45 * i then 45 * i - 15 * h else 15 * h - 45 * i) ≤ 180 then (if 15 * h ≤ 45 * i then 45 * i - 15 * h else 15 * h - 45 * i) else 360 - (if 15 * h ≤ 45 * i then 45 * i - 15 * h else 15 * h - 45 * i)) else 0
theorem sn_hv_le (i h : Nat) : sn_hv i h ≤ 90 := by
  unfold sn_hv
  split <;> omega
def sn_hs (i : Nat) : Nat → Nat
  | 0 => 0
  | h + 1 => sn_hs i h + sn_hv i h
theorem sn_hs_le (i : Nat) : ∀ h, sn_hs i h ≤ 90 * h
  | 0 => Nat.le_refl 0
  | h + 1 => by
    have h1 := sn_hs_le i h
    have h2 := sn_hv_le i h
    show sn_hs i h + sn_hv i h ≤ _
    omega
def sn_whA (i t : Nat) : Nat → Nat → Nat
  | 0, _ => 24
  | r + 1, k => if t ≤ sn_hs i (k + 1) then k else sn_whA i t r (k + 1)
def sn_wh (i t : Nat) : Nat := sn_whA i t 24 0
theorem sn_whA_hit {i t k : Nat} (hk : k < 24) (h : t ≤ sn_hs i (k + 1)) : sn_whA i t (24 - k) k = k := by
  rw [show 24 - k = (23 - k) + 1 by omega]
  exact if_pos h
theorem sn_whA_miss {i t k : Nat} (hk : k < 24) (h : ¬ t ≤ sn_hs i (k + 1)) : sn_whA i t (24 - k) k = sn_whA i t (24 - (k + 1)) (k + 1) := by
  rw [show 24 - k = (23 - k) + 1 by omega, show 24 - (k + 1) = 23 - k by omega]
  exact if_neg h
def sn_e24 (x : Nat) : Int32 := if x < 24 then nI x else -6
theorem sn_e24_none {x : Nat} : sn_e24 x = -6 ↔ ¬ x < 24 := by
  unfold sn_e24
  split
  · exact ⟨fun e => absurd e (sn_en_ne (by omega)), fun e => by omega⟩
  · exact ⟨fun _ => by assumption, fun _ => rfl⟩
theorem sn_e24_eq {x k : Nat} (hk : k < 24) : sn_e24 x = nI k ↔ x = k := by
  unfold sn_e24
  split
  · exact nI_eq (by omega) (by omega)
  · exact ⟨fun e => absurd e.symm (sn_en_ne (by omega)), fun e => by omega⟩
/-- how many of the sides below k are ever warm -/
def sn_ws (t : Nat) : Nat → Nat
  | 0 => 0
  | k + 1 => sn_ws t k + (if sn_wh k t < 24 then 1 else 0)
/-- the sides from 8 - r on that are warm in hour h -/
def sn_ri (t h : Nat) : Nat → List Nat
  | 0 => []
  | r + 1 => if sn_wh (7 - r) t = h then (7 - r) :: sn_ri t h r else sn_ri t h r
def sn_ro (t : Nat) : Nat → List Nat
  | 0 => []
  | r + 1 => sn_ri t (23 - r) 8 ++ sn_ro t r
theorem sn_ri_y {t h q : Nat} (hq : q < 8) (e : sn_wh q t = h) : sn_ri t h (8 - q) = q :: sn_ri t h (8 - (q + 1)) := by
  rw [show 8 - q = (7 - q) + 1 by omega, show 8 - (q + 1) = 7 - q by omega]
  show (if sn_wh (7 - (7 - q)) t = h then _ else _) = _
  rw [show 7 - (7 - q) = q by omega, if_pos e]
theorem sn_ri_n {t h q : Nat} (hq : q < 8) (e : ¬ sn_wh q t = h) : sn_ri t h (8 - q) = sn_ri t h (8 - (q + 1)) := by
  rw [show 8 - q = (7 - q) + 1 by omega, show 8 - (q + 1) = 7 - q by omega]
  show (if sn_wh (7 - (7 - q)) t = h then _ else _) = _
  rw [show 7 - (7 - q) = q by omega, if_neg e]
theorem sn_ro_s {t k : Nat} (hk : k < 24) : sn_ro t (24 - k) = sn_ri t k 8 ++ sn_ro t (24 - (k + 1)) := by
  rw [show 24 - k = (23 - k) + 1 by omega, show 24 - (k + 1) = 23 - k by omega]
  show sn_ri t (23 - (23 - k)) 8 ++ _ = _
  rw [show 23 - (23 - k) = k by omega]
/-- the side at a place, v sides having been passed -/
def sn_pick : List Nat → Int32 → Int32 → Int32
  | [], _, _ => -6
  | q :: M, v, i => if v = i then nI q else sn_pick M (v + 1) i
/-- the same, but for place -1 how many there are -/
def sn_pikM : List Nat → Int32 → Int32 → Int32
  | [], v, i => if i = -1 then v else -6
  | q :: M, v, i => if v = i then nI q else sn_pikM M (v + 1) i
theorem sn_pik_ne (i : Int32) (hi : ¬ i = -1) : ∀ (M : List Nat) (v : Int32), sn_pikM M v i = sn_pick M v i
  | [], v => if_neg hi
  | q :: M, v => by
    show (if v = i then nI q else _) = (if v = i then nI q else _)
    rw [sn_pik_ne i hi M (v + 1)]
theorem sn_m1_ne {j : Nat} (h : j < 2147483648) : ¬ nI j = -1 := by
  intro e
  have e1 := congrArg Int32.toInt e
  rw [nI_toInt (by omega)] at e1
  have e2 : (j : Int) = -1 := e1
  omega
theorem sn_pik_m1 : ∀ (M : List Nat) (v : Nat), v + M.length < 2147483648 → sn_pikM M (nI v) (-1) = nI (v + M.length)
  | [], v, _ => if_pos rfl
  | q :: M, v, h => by
    have h1 : M.length + 1 = (q :: M).length := rfl
    show (if nI v = -1 then nI q else _) = _
    rw [if_neg (sn_m1_ne (by omega)), nI_1, sn_pik_m1 M (v + 1) (by omega), ← h1]
    congr 1; omega
/-- the same sides, counted by hours and by numbers -/
def sn_c1 (t lo : Nat) : Nat → Nat
  | 0 => 0
  | r + 1 => sn_c1 t lo r + (if lo ≤ sn_wh (7 - r) t ∧ sn_wh (7 - r) t < 24 then 1 else 0)
theorem sn_c1_s (t : Nat) {h : Nat} (hh : h < 24) : ∀ r, sn_c1 t h r = (sn_ri t h r).length + sn_c1 t (h + 1) r
  | 0 => rfl
  | r + 1 => by
    have ih := sn_c1_s t hh r
    show sn_c1 t h r + _ = (if sn_wh (7 - r) t = h then (7 - r) :: sn_ri t h r else sn_ri t h r).length + (sn_c1 t (h + 1) r + _)
    rw [ih]
    by_cases e : sn_wh (7 - r) t = h
    · rw [if_pos e, if_pos (by omega), if_neg (by omega)]
      show _ = (sn_ri t h r).length + 1 + _
      omega
    · rw [if_neg e]
      by_cases e2 : h ≤ sn_wh (7 - r) t ∧ sn_wh (7 - r) t < 24
      · rw [if_pos e2, if_pos (by omega)]; omega
      · rw [if_neg e2, if_neg (by omega)]; omega
theorem sn_c1_24 (t : Nat) : ∀ r, sn_c1 t 24 r = 0
  | 0 => rfl
  | r + 1 => by
    show sn_c1 t 24 r + _ = 0
    rw [sn_c1_24 t r, if_neg (by omega)]
theorem sn_ro_len (t : Nat) : ∀ r, r ≤ 24 → (sn_ro t r).length = sn_c1 t (24 - r) 8
  | 0, _ => (sn_c1_24 t 8).symm
  | r + 1, h => by
    show (sn_ri t (23 - r) 8 ++ sn_ro t r).length = _
    rw [List.length_append, sn_ro_len t r (by omega), show 24 - (r + 1) = 23 - r by omega, sn_c1_s t (h := 23 - r) (by omega) 8, show 23 - r + 1 = 24 - r by omega]
theorem sn_ws_c1 (t : Nat) : sn_ws t 8 = sn_c1 t 0 8 := by
  simp only [sn_ws, sn_c1]
  simp only [Nat.zero_le, true_and, Nat.sub_self, Nat.sub_zero, show 7 - 1 = 6 from rfl, show 7 - 2 = 5 from rfl, show 7 - 3 = 4 from rfl, show 7 - 4 = 3 from rfl, show 7 - 5 = 2 from rfl, show 7 - 6 = 1 from rfl]
  omega
theorem sn_ws_len (t : Nat) : sn_ws t 8 = (sn_ro t 24).length := by
  rw [sn_ro_len t 24 (Nat.le_refl _), sn_ws_c1]
theorem sn_ws_le (t : Nat) : ∀ k, sn_ws t k ≤ k
  | 0 => Nat.le_refl 0
  | k + 1 => by
    have := sn_ws_le t k
    show sn_ws t k + _ ≤ _
    split <;> omega
theorem sn_hvC : ∀ i, i < 8 → ∀ h, h < 24 → (6 ≤ nI h ∧ nI h ≤ 18) → (if (0 : Int32) < 90 - (if 360 - (if 0 ≤ nI (45 * i) - nI (15 * h) then nI (45 * i) - nI (15 * h) else 0 - (nI (45 * i) - nI (15 * h))) < (if 0 ≤ nI (45 * i) - nI (15 * h) then nI (45 * i) - nI (15 * h) else 0 - (nI (45 * i) - nI (15 * h))) then 360 - (if 0 ≤ nI (45 * i) - nI (15 * h) then nI (45 * i) - nI (15 * h) else 0 - (nI (45 * i) - nI (15 * h))) else (if 0 ≤ nI (45 * i) - nI (15 * h) then nI (45 * i) - nI (15 * h) else 0 - (nI (45 * i) - nI (15 * h)))) then 90 - (if 360 - (if 0 ≤ nI (45 * i) - nI (15 * h) then nI (45 * i) - nI (15 * h) else 0 - (nI (45 * i) - nI (15 * h))) < (if 0 ≤ nI (45 * i) - nI (15 * h) then nI (45 * i) - nI (15 * h) else 0 - (nI (45 * i) - nI (15 * h))) then 360 - (if 0 ≤ nI (45 * i) - nI (15 * h) then nI (45 * i) - nI (15 * h) else 0 - (nI (45 * i) - nI (15 * h))) else (if 0 ≤ nI (45 * i) - nI (15 * h) then nI (45 * i) - nI (15 * h) else 0 - (nI (45 * i) - nI (15 * h)))) else 0) = nI (sn_hv i h) := by decide +kernel
theorem sn_hv0 : ∀ h, h < 24 → ¬ (6 ≤ nI h ∧ nI h ≤ 18) → ∀ i, i < 8 → (0 : Int32) = nI (sn_hv i h) := by decide +kernel
end
section
set_option maxRecDepth 100000 in
set_option maxHeartbeats 4000000 in
theorem ct_X3_within (l : Launch) (D : va_G) (tys : List (ClassId × FieldType)) (w : va_W) (x y z : Int32) : sn_Rd l yX3_within wsX3_within 0 [.int x, .int y, .int z] D tys (w) (sn_b (y ≤ x ∧ x ≤ z)) := by
  refine sn_rd (cc := cX3_within) (maxL := 3) (ret := (some .boolean)) (by decide) rfl (Nat.le_of_ble_eq_true rfl) ?_
  intro p e s m below meth c hx hb hml hr hlk hts hown hP hK hN ls hl
  have hC : CallFix p m c cX3_within 3 s [.int x, .int y, .int z].toArray wsX3_within RX3 := ⟨hx, hb, hml, hown, hts⟩
  have hl : lv_has ls 3 [(0, .int x), (1, .int y), (2, .int z)] := hl
  refine lv_iload_n hx hb dX3_within_0 rfl (lv_at hl 0 rfl) ?_
  refine lv_iload_n hx hb dX3_within_1 rfl (lv_at hl 1 rfl) ?_
  refine lv_icmp_lt (tgt := 14) hx hb dX3_within_2 (by decide) (fun c_1 => ?_) (fun c_1 => ?_)
  · refine lv_iconst (v := 0) hx hb dX3_within_14 (by decide) ?_
    exact sn_zret hx hb hr hlk dX3_within_15 (by decide) (sn_b_f (by simp only [sn_le, sn_lt, sn_eq] at c_1 ⊢; omega))
  · refine lv_iload_n hx hb dX3_within_5 rfl (lv_at hl 0 rfl) ?_
    refine lv_iload_n hx hb dX3_within_6 rfl (lv_at hl 2 rfl) ?_
    refine lv_icmp_gt (tgt := 14) hx hb dX3_within_7 (by decide) (fun c_2 => ?_) (fun c_2 => ?_)
    · refine lv_iconst (v := 0) hx hb dX3_within_14 (by decide) ?_
      exact sn_zret hx hb hr hlk dX3_within_15 (by decide) (sn_b_f (by simp only [sn_le, sn_lt, sn_eq] at c_1 c_2 ⊢; omega))
    · refine lv_iconst (v := 1) hx hb dX3_within_10 (by decide) ?_
      refine lv_goto (tgt := 15) hx hb dX3_within_11 (by decide) ?_
      exact sn_zret hx hb hr hlk dX3_within_15 (by decide) (sn_b_t (by simp only [sn_le, sn_lt, sn_eq] at c_1 c_2 ⊢; omega))
set_option maxRecDepth 100000 in
set_option maxHeartbeats 4000000 in
theorem ct_X4_in (l : Launch) (D : va_G) (tys : List (ClassId × FieldType)) (w : va_W) (x y z : Int32) : sn_Rd l yX4_in wsX4_in 0 [.int x, .int y, .int z] D tys (w) (sn_b (y ≤ x ∧ x ≤ z)) := by
  refine sn_rd (cc := cX4_in) (maxL := 3) (ret := (some .boolean)) (by decide) rfl (Nat.le_of_ble_eq_true rfl) ?_
  intro p e s m below meth c hx hb hml hr hlk hts hown hP hK hN ls hl
  have hC : CallFix p m c cX4_in 3 s [.int x, .int y, .int z].toArray wsX4_in RX4 := ⟨hx, hb, hml, hown, hts⟩
  have hl : lv_has ls 3 [(0, .int x), (1, .int y), (2, .int z)] := hl
  refine lv_iload_n hx hb dX4_in_0 rfl (lv_at hl 0 rfl) ?_
  refine lv_iload_n hx hb dX4_in_1 rfl (lv_at hl 1 rfl) ?_
  refine lv_icmp_lt (tgt := 14) hx hb dX4_in_2 (by decide) (fun c_1 => ?_) (fun c_1 => ?_)
  · refine lv_iconst (v := 0) hx hb dX4_in_14 (by decide) ?_
    exact sn_zret hx hb hr hlk dX4_in_15 (by decide) (sn_b_f (by simp only [sn_le, sn_lt, sn_eq] at c_1 ⊢; omega))
  · refine lv_iload_n hx hb dX4_in_5 rfl (lv_at hl 0 rfl) ?_
    refine lv_iload_n hx hb dX4_in_6 rfl (lv_at hl 2 rfl) ?_
    refine lv_icmp_gt (tgt := 14) hx hb dX4_in_7 (by decide) (fun c_2 => ?_) (fun c_2 => ?_)
    · refine lv_iconst (v := 0) hx hb dX4_in_14 (by decide) ?_
      exact sn_zret hx hb hr hlk dX4_in_15 (by decide) (sn_b_f (by simp only [sn_le, sn_lt, sn_eq] at c_1 c_2 ⊢; omega))
    · refine lv_iconst (v := 1) hx hb dX4_in_10 (by decide) ?_
      refine lv_goto (tgt := 15) hx hb dX4_in_11 (by decide) ?_
      exact sn_zret hx hb hr hlk dX4_in_15 (by decide) (sn_b_t (by simp only [sn_le, sn_lt, sn_eq] at c_1 c_2 ⊢; omega))
set_option maxRecDepth 100000 in
set_option maxHeartbeats 4000000 in
theorem ct_X3_cut (l : Launch) (D : va_G) (tys : List (ClassId × FieldType)) (w : va_W) (x y : Int32) (h0 : ¬ y = 0) : sn_Rd l yX3_cut wsX3_cut 0 [.int x, .int y] D tys (w) (x / y) := by
  refine sn_rd (cc := cX3_cut) (maxL := 2) (ret := (some .int)) (by decide) rfl (Nat.le_of_ble_eq_true rfl) ?_
  intro p e s m below meth c hx hb hml hr hlk hts hown hP hK hN ls hl
  have hC : CallFix p m c cX3_cut 2 s [.int x, .int y].toArray wsX3_cut RX3 := ⟨hx, hb, hml, hown, hts⟩
  have hl : lv_has ls 2 [(0, .int x), (1, .int y)] := hl
  refine lv_iload_n hx hb dX3_cut_0 rfl (lv_at hl 1 rfl) ?_
  refine lv_if_ne (tgt := 8) hx hb dX3_cut_1 (by decide) (fun c_1 => ?_) (fun c_1 => ?_)
  · refine lv_iload_n hx hb dX3_cut_8 rfl (lv_at hl 0 rfl) ?_
    refine lv_iload_n hx hb dX3_cut_9 rfl (lv_at hl 1 rfl) ?_
    refine lv_idiv hx hb dX3_cut_10 h0 ?_
    exact sn_ret hx hb hr hlk dX3_cut_11 (rfl)
  · exact absurd c_1 (h0)
set_option maxRecDepth 100000 in
set_option maxHeartbeats 4000000 in
theorem ct_X0_has (l : Launch) (D : va_G) (cI cZ cR : ClassId) (a : Nat → Nat) (f : Nat → Int32) (n : Nat) (hn : f 0 = nI n) (x : Int32) : sn_Rd l yX0_has wsX0_has 1 [.ref (a 0), .int x] D (sn_ty cI cZ cR) (sn_wC cI cZ a f) (sn_b (0 ≤ x ∧ x ≤ nI n - 1)) := by
  refine sn_rd (cc := cX0_has) (maxL := 2) (ret := (some .boolean)) (by decide) rfl (Nat.le_of_ble_eq_true rfl) ?_
  intro p e s m below meth c hx hb hml hr hlk hts hown hP hK hN ls hl
  have hC : CallFix p m c cX0_has 2 s [.ref (a 0), .int x].toArray wsX0_has RX0 := ⟨hx, hb, hml, hown, hts⟩
  have hl : lv_has ls 2 [(0, .ref (a 0)), (1, .int x)] := hl
  have huX0 : ∀ w ∈ wsX00, w ∈ wsX0_has := by decide +kernel
  refine lv_iload_n hx hb dX0_has_0 rfl (lv_at hl 1 rfl) ?_
  refine lv_iconst (v := 0) hx hb dX0_has_1 (by decide) ?_
  refine lv_aload_n hx hb dX0_has_2 rfl (lv_at hl 0 rfl) ?_
  refine va_get (D := D) (ci := 0) (v := .int (f 0)) (C := RX0) (T := TX0) (N := 8) hx hb hts huX0 hown hK hP 0 rfl rfl 0 (by decide) (hts (.fieldLink RX0 9 "SnowSlabs$Cover" "size" "I") (by decide +kernel)) (fun _ h9 => h9) rfl dX0_has_3 ?_
  refine sn_top (hn) ?_
  refine lv_iconst (v := 1) hx hb dX0_has_6 (by decide) ?_
  refine lv_isub hx hb dX0_has_7 ?_
  refine sn_cN 3 hC hl (ct_X3_within l D _ [] x 0 ((nI n) - 1)) gX0_has_X3_within_n52 rfl hN.1 (hts (.initialized RX3) (by decide +kernel)) (hts (.static yX3_within) (by decide +kernel)) (by decide +kernel) rfl ⟨Nat.le_of_ble_eq_true rfl, Nat.le_of_ble_eq_true rfl⟩ ⟨Nat.zero_le _, Nat.zero_le _⟩ (fun _ _ h => by simp at h) hK hN rfl (Nat.le_of_ble_eq_true rfl) dX0_has_8 ?_
  exact sn_zret hx hb hr hlk dX0_has_11 (sn_b_01 _) (rfl)
set_option maxRecDepth 100000 in
set_option maxHeartbeats 4000000 in
theorem ct_X0_strength (l : Launch) (D : va_G) (cI cZ cR : ClassId) (a : Nat → Nat) (f : Nat → Int32) (n : Nat) (hI : sn_I f n) (i : Nat) (hi : i < 10) : sn_Rd l yX0_strength wsX0_strength 0 [.ref (a 0), .int (nI i)] D (sn_ty cI cZ cR) (sn_wC cI cZ a f) (sn_str f i) := by
  refine sn_rd (cc := cX0_strength) (maxL := 3) (ret := (some .int)) (by decide) rfl (Nat.le_of_ble_eq_true rfl) ?_
  intro p e s m below meth c hx hb hml hr hlk hts hown hP hK hN ls hl
  have hC : CallFix p m c cX0_strength 3 s [.ref (a 0), .int (nI i)].toArray wsX0_strength RX0 := ⟨hx, hb, hml, hown, hts⟩
  have hl : lv_has ls 3 [(0, .ref (a 0)), (1, .int (nI i))] := hl
  have huX0 : ∀ w ∈ wsX00, w ∈ wsX0_strength := by decide +kernel
  refine lv_aload_n hx hb dX0_strength_0 rfl (lv_at hl 0 rfl) ?_
  refine va_get (D := D) (ci := 0) (v := .ref (a 6)) (C := RX0) (T := TX0) (N := 8) hx hb hts huX0 hown hK hP 0 rfl rfl 7 (by decide) (hts (.fieldLink RX0 43 "SnowSlabs$Cover" "firmness" "[I") (by decide +kernel)) (fun _ h9 => h9) rfl dX0_strength_1 ?_
  refine lv_aload_n hx hb dX0_strength_4 rfl (lv_at hl 0 rfl) ?_
  refine va_get (D := D) (ci := 0) (v := .ref (a 3)) (C := RX0) (T := TX0) (N := 8) hx hb hts huX0 hown hK hP 0 rfl rfl 4 (by decide) (hts (.fieldLink RX0 25 "SnowSlabs$Cover" "grain" "[I") (by decide +kernel)) (fun _ h9 => h9) rfl dX0_strength_5 ?_
  refine lv_iload_n hx hb dX0_strength_8 rfl (lv_at hl 1 rfl) ?_
  refine sn_ild (k := i) (v := f (9 + 5 * i)) 3 0 hx hb hK hP rfl rfl (by omega) (by decide) rfl (rfl) dX0_strength_9 ?_
  refine va_iald hx hb hK hP 6 0 rfl rfl (hI.2.2.2 i hi).2.2.1 dX0_strength_10 ?_
  refine lv_aload_n hx hb dX0_strength_11 rfl (lv_at hl 0 rfl) ?_
  refine va_get (D := D) (ci := 0) (v := .ref (a 4)) (C := RX0) (T := TX0) (N := 8) hx hb hts huX0 hown hK hP 0 rfl rfl 5 (by decide) (hts (.fieldLink RX0 28 "SnowSlabs$Cover" "hard" "[I") (by decide +kernel)) (fun _ h9 => h9) rfl dX0_strength_12 ?_
  refine lv_iload_n hx hb dX0_strength_15 rfl (lv_at hl 1 rfl) ?_
  refine sn_ild (k := i) (v := f (10 + 5 * i)) 4 0 hx hb hK hP rfl rfl (by omega) (by decide) rfl (rfl) dX0_strength_16 ?_
  refine lv_imul hx hb dX0_strength_17 ?_
  refine lv_aload_n hx hb dX0_strength_18 rfl (lv_at hl 0 rfl) ?_
  refine va_get (D := D) (ci := 0) (v := .ref (a 2)) (C := RX0) (T := TX0) (N := 8) hx hb hts huX0 hown hK hP 0 rfl rfl 3 (by decide) (hts (.fieldLink RX0 22 "SnowSlabs$Cover" "dense" "[I") (by decide +kernel)) (fun _ h9 => h9) rfl dX0_strength_19 ?_
  refine lv_iload_n hx hb dX0_strength_22 rfl (lv_at hl 1 rfl) ?_
  refine sn_ild (k := i) (v := f (8 + 5 * i)) 2 0 hx hb hK hP rfl rfl (by omega) (by decide) rfl (rfl) dX0_strength_23 ?_
  refine lv_imul hx hb dX0_strength_24 ?_
  refine lv_bipush (v := 100) hx hb dX0_strength_25 (by decide) ?_
  refine lv_idiv hx hb dX0_strength_27 (by decide) ?_
  refine lv_istore_n (lv' := [(2, .int ((((f (2 + ((f (9 + 5 * i)).toNatClampNeg))) * (f (10 + 5 * i))) * (f (8 + 5 * i))) / 100)), (0, .ref (a 0)), (1, .int (nI i))]) hx hb dX0_strength_28 rfl hl (by decide) rfl (fun ls hl => ?_)
  refine lv_aload_n hx hb dX0_strength_29 rfl (lv_at hl 1 rfl) ?_
  refine va_get (D := D) (ci := 0) (v := .ref (a 5)) (C := RX0) (T := TX0) (N := 8) hx hb hts huX0 hown hK hP 0 rfl rfl 6 (by decide) (hts (.fieldLink RX0 31 "SnowSlabs$Cover" "wet" "[Z") (by decide +kernel)) (fun _ h9 => h9) rfl dX0_strength_30 ?_
  refine lv_iload_n hx hb dX0_strength_33 rfl (lv_at hl 2 rfl) ?_
  refine sn_zld (k := i) (v := f (11 + 5 * i)) 5 1 hx hb hK hP rfl rfl (by omega) (by decide) rfl (rfl) dX0_strength_34 ?_
  refine lv_if_eq (tgt := 44) hx hb dX0_strength_35 (by decide) (fun c_1 => ?_) (fun c_1 => ?_)
  · refine lv_iload_n hx hb dX0_strength_44 rfl (lv_at hl 0 rfl) ?_
    exact sn_ret hx hb hr hlk dX0_strength_45 ((if_pos c_1).symm)
  · refine lv_iload_n hx hb dX0_strength_38 rfl (lv_at hl 0 rfl) ?_
    refine lv_iconst (v := 2) hx hb dX0_strength_39 (by decide) ?_
    refine lv_idiv hx hb dX0_strength_40 (by decide) ?_
    refine lv_goto (tgt := 45) hx hb dX0_strength_41 (by decide) ?_
    exact sn_ret hx hb hr hlk dX0_strength_45 ((if_neg c_1).symm)
set_option maxRecDepth 100000 in
set_option maxHeartbeats 4000000 in
theorem ct_X0_depth (l : Launch) (D : va_G) (cI cZ cR : ClassId) (a : Nat → Nat) (f : Nat → Int32) (x : Int32) (i b : Nat) (hx1 : x + 1 = nI i) (hib : i ≤ b) (hb10 : b ≤ 10) : sn_Rd l yX0_depth wsX0_depth 0 [.ref (a 0), .int x, .int (nI b)] D (sn_ty cI cZ cR) (sn_wC cI cZ a f) (sn_dep f i b) := by
  refine sn_rd (cc := cX0_depth) (maxL := 5) (ret := (some .int)) (by decide) rfl (Nat.le_of_ble_eq_true rfl) ?_
  intro p e s m below meth c hx hb hml hr hlk hts hown hP hK hN ls hl
  have hC : CallFix p m c cX0_depth 5 s [.ref (a 0), .int x, .int (nI b)].toArray wsX0_depth RX0 := ⟨hx, hb, hml, hown, hts⟩
  have hl : lv_has ls 5 [(0, .ref (a 0)), (1, .int x), (2, .int (nI b))] := hl
  have huX0 : ∀ w ∈ wsX00, w ∈ wsX0_depth := by decide +kernel
  refine lv_iconst (v := 0) hx hb dX0_depth_0 (by decide) ?_
  refine sn_top (y := sn_dep f i i) ((sn_dep_self f i).symm) ?_
  refine lv_istore_n (lv' := [(3, .int (sn_dep f i i)), (0, .ref (a 0)), (1, .int x), (2, .int (nI b))]) hx hb dX0_depth_1 rfl hl (by decide) rfl (fun ls hl => ?_)
  refine lv_iload_n hx hb dX0_depth_2 rfl (lv_at hl 2 rfl) ?_
  refine lv_iconst (v := 1) hx hb dX0_depth_3 (by decide) ?_
  refine lv_iadd hx hb dX0_depth_4 ?_
  refine sn_top (y := nI i) (hx1) ?_
  refine lv_istore (lv' := [(4, .int (nI i)), (3, .int (sn_dep f i i)), (0, .ref (a 0)), (1, .int x), (2, .int (nI b))]) hx hb dX0_depth_5 hl (by decide) rfl (fun ls hl => ?_)
  have loop : ∀ (fu : Nat) (k : Nat), (i ≤ k) → (k ≤ b) → b - k < fu → ∀ ls : Array Slot, lv_has ls 5 [(0, .ref (a 0)), (1, .int x), (2, .int (nI b)), (3, .int (sn_dep f i k)), (4, .int (nI k))] → W p l e (sn_rm 0 0 0) s m [.ref (a 0), .int x, .int (nI b)].toArray below meth c s.heap [] 0 0 (MQ below (vp_Si (fun r_ => r_ = (sn_dep f i b))) [.ref (a 0), .int x, .int (nI b)].toArray s 0 0 (fun _ => False)) (F0 m 7 ls []) := by
    intro fu
    induction fu with
    | zero => intro k h1 h2 hm; exact absurd hm (Nat.not_lt_zero _)
    | succ fu ih_loop =>
      intro k h1 h2 hm ls hl
      refine lv_iload hx hb dX0_depth_7 (lv_at hl 4 rfl) ?_
      refine lv_iload_n hx hb dX0_depth_9 rfl (lv_at hl 2 rfl) ?_
      refine lv_icmp_ge (tgt := 29) hx hb dX0_depth_10 (by decide) (fun c_1 => ?_) (fun c_1 => ?_)
      · have c_1 := (sn_cgej (a := k) (b := b) rfl rfl (by omega) (by omega)).mp c_1
        refine lv_iload_n hx hb dX0_depth_29 rfl (lv_at hl 3 rfl) ?_
        exact sn_ret hx hb hr hlk dX0_depth_30 (by rw [show k = b by omega])
      · have c_1 := (sn_cgef (a := k) (b := b) rfl rfl (by omega) (by omega)).mp c_1
        refine lv_iload_n hx hb dX0_depth_13 rfl (lv_at hl 3 rfl) ?_
        refine lv_aload_n hx hb dX0_depth_14 rfl (lv_at hl 0 rfl) ?_
        refine va_get (D := D) (ci := 0) (v := .ref (a 1)) (C := RX0) (T := TX0) (N := 8) hx hb hts huX0 hown hK hP 0 rfl rfl 2 (by decide) (hts (.fieldLink RX0 18 "SnowSlabs$Cover" "thick" "[I") (by decide +kernel)) (fun _ h9 => h9) rfl dX0_depth_15 ?_
        refine lv_iload hx hb dX0_depth_18 (lv_at hl 4 rfl) ?_
        refine sn_ild (k := k) (v := f (7 + 5 * k)) 1 0 hx hb hK hP rfl rfl (by omega) (by decide) rfl (rfl) dX0_depth_20 ?_
        refine lv_iadd hx hb dX0_depth_21 ?_
        refine sn_top (y := sn_dep f i (k + 1)) (sn_dep_s h1) ?_
        refine lv_istore_n (lv' := [(3, .int (sn_dep f i (k + 1))), (0, .ref (a 0)), (1, .int x), (2, .int (nI b)), (4, .int (nI k))]) hx hb dX0_depth_22 rfl hl (by decide) rfl (fun ls hl => ?_)
        refine lv_iinc (v := nI (k + 1)) (lv' := [(4, .int (nI (k + 1))), (3, .int (sn_dep f i (k + 1))), (0, .ref (a 0)), (1, .int x), (2, .int (nI b))]) hx hb dX0_depth_23 hl (k := 4) rfl (sn_inc _) (by decide) rfl (fun ls hl => ?_)
        refine lv_goto (tgt := 7) hx hb dX0_depth_26 (by decide) ?_
        exact ih_loop (k + 1) (by omega) (by omega) (by omega) ls (lv_sub hl [2, 3, 4, 1, 0] rfl)
  exact loop ((b - i) + 1) i (Nat.le_refl _) hib (by omega) ls (lv_sub hl [2, 3, 4, 1, 0] rfl)
set_option maxRecDepth 100000 in
set_option maxHeartbeats 4000000 in
theorem ct_X0_massAbove (l : Launch) (D : va_G) (cI cZ cR : ClassId) (a : Nat → Nat) (f : Nat → Int32) (x : Int32) (i b : Nat) (hx1 : x + 1 = nI i) (hib : i ≤ b) (hb10 : b ≤ 10) : sn_Rd l yX0_massAbove wsX0_massAbove 0 [.ref (a 0), .int x, .int (nI b)] D (sn_ty cI cZ cR) (sn_wC cI cZ a f) (sn_mas f i b) := by
  refine sn_rd (cc := cX0_massAbove) (maxL := 5) (ret := (some .int)) (by decide) rfl (Nat.le_of_ble_eq_true rfl) ?_
  intro p e s m below meth c hx hb hml hr hlk hts hown hP hK hN ls hl
  have hC : CallFix p m c cX0_massAbove 5 s [.ref (a 0), .int x, .int (nI b)].toArray wsX0_massAbove RX0 := ⟨hx, hb, hml, hown, hts⟩
  have hl : lv_has ls 5 [(0, .ref (a 0)), (1, .int x), (2, .int (nI b))] := hl
  have huX0 : ∀ w ∈ wsX00, w ∈ wsX0_massAbove := by decide +kernel
  refine lv_iconst (v := 0) hx hb dX0_massAbove_0 (by decide) ?_
  refine sn_top (y := sn_mas f i i) ((sn_mas_self f i).symm) ?_
  refine lv_istore_n (lv' := [(3, .int (sn_mas f i i)), (0, .ref (a 0)), (1, .int x), (2, .int (nI b))]) hx hb dX0_massAbove_1 rfl hl (by decide) rfl (fun ls hl => ?_)
  refine lv_iload_n hx hb dX0_massAbove_2 rfl (lv_at hl 2 rfl) ?_
  refine lv_iconst (v := 1) hx hb dX0_massAbove_3 (by decide) ?_
  refine lv_iadd hx hb dX0_massAbove_4 ?_
  refine sn_top (y := nI i) (hx1) ?_
  refine lv_istore (lv' := [(4, .int (nI i)), (3, .int (sn_mas f i i)), (0, .ref (a 0)), (1, .int x), (2, .int (nI b))]) hx hb dX0_massAbove_5 hl (by decide) rfl (fun ls hl => ?_)
  have loop : ∀ (fu : Nat) (k : Nat), (i ≤ k) → (k ≤ b) → b - k < fu → ∀ ls : Array Slot, lv_has ls 5 [(0, .ref (a 0)), (1, .int x), (2, .int (nI b)), (3, .int (sn_mas f i k)), (4, .int (nI k))] → W p l e (sn_rm 0 0 0) s m [.ref (a 0), .int x, .int (nI b)].toArray below meth c s.heap [] 0 0 (MQ below (vp_Si (fun r_ => r_ = (sn_mas f i b))) [.ref (a 0), .int x, .int (nI b)].toArray s 0 0 (fun _ => False)) (F0 m 7 ls []) := by
    intro fu
    induction fu with
    | zero => intro k h1 h2 hm; exact absurd hm (Nat.not_lt_zero _)
    | succ fu ih_loop =>
      intro k h1 h2 hm ls hl
      refine lv_iload hx hb dX0_massAbove_7 (lv_at hl 4 rfl) ?_
      refine lv_iload_n hx hb dX0_massAbove_9 rfl (lv_at hl 2 rfl) ?_
      refine lv_icmp_ge (tgt := 37) hx hb dX0_massAbove_10 (by decide) (fun c_1 => ?_) (fun c_1 => ?_)
      · have c_1 := (sn_cgej (a := k) (b := b) rfl rfl (by omega) (by omega)).mp c_1
        refine lv_iload_n hx hb dX0_massAbove_37 rfl (lv_at hl 3 rfl) ?_
        exact sn_ret hx hb hr hlk dX0_massAbove_38 (by rw [show k = b by omega])
      · have c_1 := (sn_cgef (a := k) (b := b) rfl rfl (by omega) (by omega)).mp c_1
        refine lv_iload_n hx hb dX0_massAbove_13 rfl (lv_at hl 3 rfl) ?_
        refine lv_aload_n hx hb dX0_massAbove_14 rfl (lv_at hl 0 rfl) ?_
        refine va_get (D := D) (ci := 0) (v := .ref (a 1)) (C := RX0) (T := TX0) (N := 8) hx hb hts huX0 hown hK hP 0 rfl rfl 2 (by decide) (hts (.fieldLink RX0 18 "SnowSlabs$Cover" "thick" "[I") (by decide +kernel)) (fun _ h9 => h9) rfl dX0_massAbove_15 ?_
        refine lv_iload hx hb dX0_massAbove_18 (lv_at hl 4 rfl) ?_
        refine sn_ild (k := k) (v := f (7 + 5 * k)) 1 0 hx hb hK hP rfl rfl (by omega) (by decide) rfl (rfl) dX0_massAbove_20 ?_
        refine lv_aload_n hx hb dX0_massAbove_21 rfl (lv_at hl 0 rfl) ?_
        refine va_get (D := D) (ci := 0) (v := .ref (a 2)) (C := RX0) (T := TX0) (N := 8) hx hb hts huX0 hown hK hP 0 rfl rfl 3 (by decide) (hts (.fieldLink RX0 22 "SnowSlabs$Cover" "dense" "[I") (by decide +kernel)) (fun _ h9 => h9) rfl dX0_massAbove_22 ?_
        refine lv_iload hx hb dX0_massAbove_25 (lv_at hl 4 rfl) ?_
        refine sn_ild (k := k) (v := f (8 + 5 * k)) 2 0 hx hb hK hP rfl rfl (by omega) (by decide) rfl (rfl) dX0_massAbove_27 ?_
        refine lv_imul hx hb dX0_massAbove_28 ?_
        refine lv_iadd hx hb dX0_massAbove_29 ?_
        refine sn_top (y := sn_mas f i (k + 1)) (sn_mas_s h1) ?_
        refine lv_istore_n (lv' := [(3, .int (sn_mas f i (k + 1))), (0, .ref (a 0)), (1, .int x), (2, .int (nI b)), (4, .int (nI k))]) hx hb dX0_massAbove_30 rfl hl (by decide) rfl (fun ls hl => ?_)
        refine lv_iinc (v := nI (k + 1)) (lv' := [(4, .int (nI (k + 1))), (3, .int (sn_mas f i (k + 1))), (0, .ref (a 0)), (1, .int x), (2, .int (nI b))]) hx hb dX0_massAbove_31 hl (k := 4) rfl (sn_inc _) (by decide) rfl (fun ls hl => ?_)
        refine lv_goto (tgt := 7) hx hb dX0_massAbove_34 (by decide) ?_
        exact ih_loop (k + 1) (by omega) (by omega) (by omega) ls (lv_sub hl [2, 3, 4, 1, 0] rfl)
  exact loop ((b - i) + 1) i (Nat.le_refl _) hib (by omega) ls (lv_sub hl [2, 3, 4, 1, 0] rfl)
set_option maxRecDepth 100000 in
set_option maxHeartbeats 4000000 in
theorem ct_X0_load (l : Launch) (D : va_G) (cI cZ cR : ClassId) (a : Nat → Nat) (f : Nat → Int32) (i b : Nat) (hib : i + 1 ≤ b) (hb10 : b ≤ 10) : sn_Rd l yX0_load wsX0_load 1 [.ref (a 0), .int (nI i), .int (nI b)] D (sn_ty cI cZ cR) (sn_wC cI cZ a f) (sn_lod f i b) := by
  refine sn_rd (cc := cX0_load) (maxL := 3) (ret := (some .int)) (by decide) rfl (Nat.le_of_ble_eq_true rfl) ?_
  intro p e s m below meth c hx hb hml hr hlk hts hown hP hK hN ls hl
  have hC : CallFix p m c cX0_load 3 s [.ref (a 0), .int (nI i), .int (nI b)].toArray wsX0_load RX0 := ⟨hx, hb, hml, hown, hts⟩
  have hl : lv_has ls 3 [(0, .ref (a 0)), (1, .int (nI i)), (2, .int (nI b))] := hl
  refine lv_aload_n hx hb dX0_load_0 rfl (lv_at hl 0 rfl) ?_
  refine lv_iload_n hx hb dX0_load_1 rfl (lv_at hl 1 rfl) ?_
  refine lv_iload_n hx hb dX0_load_2 rfl (lv_at hl 2 rfl) ?_
  refine sn_cV 2 0 hC hl (ct_X0_massAbove l D cI cZ cR a f (nI i) (i + 1) b (nI_1 _) (by omega) (by first | exact hI.2.1 | omega)) gX0_load_X0_massAbove rfl (by decide +kernel) rfl ⟨Nat.le_of_ble_eq_true rfl, Nat.le_of_ble_eq_true rfl⟩ ⟨Nat.zero_le _, Nat.zero_le _⟩ hP hK hN rfl rfl rfl (Nat.le_of_ble_eq_true rfl) dX0_load_3 ?_
  refine lv_bipush (v := 100) hx hb dX0_load_6 (by decide) ?_
  refine lv_idiv hx hb dX0_load_8 (by decide) ?_
  exact sn_ret hx hb hr hlk dX0_load_9 (rfl)
set_option maxRecDepth 100000 in
set_option maxHeartbeats 4000000 in
theorem ct_X0_press (l : Launch) (D : va_G) (cI cZ cR : ClassId) (a : Nat → Nat) (f : Nat → Int32) (n : Nat) (hI : sn_I f n) (i b : Nat) (hib : i + 1 ≤ b) (hb10 : b ≤ 10) (wt : Int32) : sn_Rd l yX0_press wsX0_press 1 [.ref (a 0), .int (nI i), .int (nI b), .int wt] D (sn_ty cI cZ cR) (sn_wC cI cZ a f) (sn_prs f i b wt) := by
  refine sn_rd (cc := cX0_press) (maxL := 4) (ret := (some .int)) (by decide) rfl (Nat.le_of_ble_eq_true rfl) ?_
  intro p e s m below meth c hx hb hml hr hlk hts hown hP hK hN ls hl
  have hC : CallFix p m c cX0_press 4 s [.ref (a 0), .int (nI i), .int (nI b), .int wt].toArray wsX0_press RX0 := ⟨hx, hb, hml, hown, hts⟩
  have hl : lv_has ls 4 [(0, .ref (a 0)), (1, .int (nI i)), (2, .int (nI b)), (3, .int wt)] := hl
  refine lv_bipush (v := 100) hx hb dX0_press_0 (by decide) ?_
  refine lv_iload_n hx hb dX0_press_2 rfl (lv_at hl 3 rfl) ?_
  refine lv_imul hx hb dX0_press_3 ?_
  refine lv_aload_n hx hb dX0_press_4 rfl (lv_at hl 0 rfl) ?_
  refine lv_iload_n hx hb dX0_press_5 rfl (lv_at hl 1 rfl) ?_
  refine lv_iload_n hx hb dX0_press_6 rfl (lv_at hl 2 rfl) ?_
  refine sn_cV 2 0 hC hl (ct_X0_depth l D cI cZ cR a f (nI i) (i + 1) b (nI_1 _) (by omega) (by first | exact hI.2.1 | omega)) gX0_press_X0_depth rfl (by decide +kernel) rfl ⟨Nat.le_of_ble_eq_true rfl, Nat.le_of_ble_eq_true rfl⟩ ⟨Nat.zero_le _, Nat.zero_le _⟩ hP hK hN rfl rfl rfl (Nat.le_of_ble_eq_true rfl) dX0_press_7 ?_
  refine lv_bipush (v := 10) hx hb dX0_press_10 (by decide) ?_
  refine lv_iadd hx hb dX0_press_12 ?_
  refine sn_cN 2 hC hl (ct_X3_cut l D _ [] (100 * wt) ((sn_dep f (i + 1) b) + 10) (sn_dep_ne hI (i + 1) b hb10)) gX0_press_X3_cut_n63 rfl hN.2.1 (hts (.initialized RX3) (by decide +kernel)) (hts (.static yX3_cut) (by decide +kernel)) (by decide +kernel) rfl ⟨Nat.le_of_ble_eq_true rfl, Nat.le_of_ble_eq_true rfl⟩ ⟨Nat.zero_le _, Nat.zero_le _⟩ (fun _ _ h => by simp at h) hK hN rfl (Nat.le_of_ble_eq_true rfl) dX0_press_13 ?_
  exact sn_ret hx hb hr hlk dX0_press_16 (rfl)
set_option maxRecDepth 100000 in
set_option maxHeartbeats 4000000 in
theorem ct_X0_shear (l : Launch) (D : va_G) (cI cZ cR : ClassId) (a : Nat → Nat) (f : Nat → Int32) (n : Nat) (hI : sn_I f n) (i : Nat) (hi : i < n) (st : Int32) : sn_Rd l yX0_shear wsX0_shear 2 [.ref (a 0), .int (nI i), .int st] D (sn_ty cI cZ cR) (sn_wC cI cZ a f) (sn_she f i n st) := by
  refine sn_rd (cc := cX0_shear) (maxL := 3) (ret := (some .int)) (by decide) rfl (Nat.le_of_ble_eq_true rfl) ?_
  intro p e s m below meth c hx hb hml hr hlk hts hown hP hK hN ls hl
  have hC : CallFix p m c cX0_shear 3 s [.ref (a 0), .int (nI i), .int st].toArray wsX0_shear RX0 := ⟨hx, hb, hml, hown, hts⟩
  have hl : lv_has ls 3 [(0, .ref (a 0)), (1, .int (nI i)), (2, .int st)] := hl
  have huX0 : ∀ w ∈ wsX00, w ∈ wsX0_shear := by decide +kernel
  refine lv_aload_n hx hb dX0_shear_0 rfl (lv_at hl 0 rfl) ?_
  refine lv_iload_n hx hb dX0_shear_1 rfl (lv_at hl 1 rfl) ?_
  refine lv_aload_n hx hb dX0_shear_2 rfl (lv_at hl 0 rfl) ?_
  refine va_get (D := D) (ci := 0) (v := .int (f 0)) (C := RX0) (T := TX0) (N := 8) hx hb hts huX0 hown hK hP 0 rfl rfl 0 (by decide) (hts (.fieldLink RX0 9 "SnowSlabs$Cover" "size" "I") (by decide +kernel)) (fun _ h9 => h9) rfl dX0_shear_3 ?_
  refine sn_top (hI.1) ?_
  refine sn_cV 2 0 hC hl (ct_X0_load l D cI cZ cR a f i n (by omega) (by first | exact hI.2.1 | omega)) gX0_shear_X0_load rfl (by decide +kernel) rfl ⟨Nat.le_of_ble_eq_true rfl, Nat.le_of_ble_eq_true rfl⟩ ⟨Nat.zero_le _, Nat.zero_le _⟩ hP hK hN rfl rfl rfl (Nat.le_of_ble_eq_true rfl) dX0_shear_6 ?_
  refine lv_iload_n hx hb dX0_shear_9 rfl (lv_at hl 2 rfl) ?_
  refine lv_imul hx hb dX0_shear_10 ?_
  refine lv_bipush (v := 100) hx hb dX0_shear_11 (by decide) ?_
  refine lv_idiv hx hb dX0_shear_13 (by decide) ?_
  exact sn_ret hx hb hr hlk dX0_shear_14 (rfl)
set_option maxRecDepth 100000 in
set_option maxHeartbeats 4000000 in
theorem ct_X0_margin (l : Launch) (D : va_G) (cI cZ cR : ClassId) (a : Nat → Nat) (f : Nat → Int32) (n : Nat) (hI : sn_I f n) (i : Nat) (hi : i < n) (st : Int32) : sn_Rd l yX0_margin wsX0_margin 3 [.ref (a 0), .int (nI i), .int st] D (sn_ty cI cZ cR) (sn_wC cI cZ a f) (sn_mar f i n st) := by
  refine sn_rd (cc := cX0_margin) (maxL := 4) (ret := (some .int)) (by decide) rfl (Nat.le_of_ble_eq_true rfl) ?_
  intro p e s m below meth c hx hb hml hr hlk hts hown hP hK hN ls hl
  have hC : CallFix p m c cX0_margin 4 s [.ref (a 0), .int (nI i), .int st].toArray wsX0_margin RX0 := ⟨hx, hb, hml, hown, hts⟩
  have hl : lv_has ls 4 [(0, .ref (a 0)), (1, .int (nI i)), (2, .int st)] := hl
  refine lv_aload_n hx hb dX0_margin_0 rfl (lv_at hl 0 rfl) ?_
  refine lv_iload_n hx hb dX0_margin_1 rfl (lv_at hl 1 rfl) ?_
  refine lv_iload_n hx hb dX0_margin_2 rfl (lv_at hl 2 rfl) ?_
  refine sn_cV 2 0 hC hl (ct_X0_shear l D cI cZ cR a f n hI i (by omega) st) gX0_margin_X0_shear rfl (by decide +kernel) rfl ⟨Nat.le_of_ble_eq_true rfl, Nat.le_of_ble_eq_true rfl⟩ ⟨Nat.zero_le _, Nat.zero_le _⟩ hP hK hN rfl rfl rfl (Nat.le_of_ble_eq_true rfl) dX0_margin_3 ?_
  refine lv_istore_n (lv' := [(3, .int (sn_she f i n st)), (0, .ref (a 0)), (1, .int (nI i)), (2, .int st)]) hx hb dX0_margin_6 rfl hl (by decide) rfl (fun ls hl => ?_)
  refine lv_iload_n hx hb dX0_margin_7 rfl (lv_at hl 0 rfl) ?_
  refine lv_if_ne (tgt := 17) hx hb dX0_margin_8 (by decide) (fun c_1 => ?_) (fun c_1 => ?_)
  · refine lv_bipush (v := 100) hx hb dX0_margin_17 (by decide) ?_
    refine lv_aload_n hx hb dX0_margin_19 rfl (lv_at hl 1 rfl) ?_
    refine lv_iload_n hx hb dX0_margin_20 rfl (lv_at hl 2 rfl) ?_
    refine sn_cV 1 0 hC hl (ct_X0_strength l D cI cZ cR a f n hI i (by have := hI.2.1; omega)) gX0_margin_X0_strength rfl (by decide +kernel) rfl ⟨Nat.le_of_ble_eq_true rfl, Nat.le_of_ble_eq_true rfl⟩ ⟨Nat.zero_le _, Nat.zero_le _⟩ hP hK hN rfl rfl rfl (Nat.le_of_ble_eq_true rfl) dX0_margin_21 ?_
    refine lv_imul hx hb dX0_margin_24 ?_
    refine lv_iload_n hx hb dX0_margin_25 rfl (lv_at hl 0 rfl) ?_
    refine lv_idiv hx hb dX0_margin_26 c_1 ?_
    exact sn_ret hx hb hr hlk dX0_margin_27 ((if_neg c_1).symm)
  · refine lv_sipush (v := 9999) hx hb dX0_margin_11 (by decide) ?_
    refine lv_goto (tgt := 27) hx hb dX0_margin_14 (by decide) ?_
    exact sn_ret hx hb hr hlk dX0_margin_27 ((if_pos c_1).symm)
set_option maxRecDepth 100000 in
set_option maxHeartbeats 4000000 in
theorem ct_X0_allThick (l : Launch) (D : va_G) (cI cZ cR : ClassId) (a : Nat → Nat) (f : Nat → Int32) (n : Nat) (hI : sn_I f n) : sn_Rd l yX0_allThick wsX0_allThick 1 [.ref (a 0)] D (sn_ty cI cZ cR) (sn_wC cI cZ a f) (sn_dep f 0 n) := by
  refine sn_rd (cc := cX0_allThick) (maxL := 1) (ret := (some .int)) (by decide) rfl (Nat.le_of_ble_eq_true rfl) ?_
  intro p e s m below meth c hx hb hml hr hlk hts hown hP hK hN ls hl
  have hC : CallFix p m c cX0_allThick 1 s [.ref (a 0)].toArray wsX0_allThick RX0 := ⟨hx, hb, hml, hown, hts⟩
  have hl : lv_has ls 1 [(0, .ref (a 0))] := hl
  have huX0 : ∀ w ∈ wsX00, w ∈ wsX0_allThick := by decide +kernel
  refine lv_aload_n hx hb dX0_allThick_0 rfl (lv_at hl 0 rfl) ?_
  refine lv_iconst (v := (-1)) hx hb dX0_allThick_1 (by decide) ?_
  refine lv_aload_n hx hb dX0_allThick_2 rfl (lv_at hl 0 rfl) ?_
  refine va_get (D := D) (ci := 0) (v := .int (f 0)) (C := RX0) (T := TX0) (N := 8) hx hb hts huX0 hown hK hP 0 rfl rfl 0 (by decide) (hts (.fieldLink RX0 9 "SnowSlabs$Cover" "size" "I") (by decide +kernel)) (fun _ h9 => h9) rfl dX0_allThick_3 ?_
  refine sn_top (hI.1) ?_
  refine sn_cV 2 0 hC hl (ct_X0_depth l D cI cZ cR a f (-1) 0 n (by decide) (by omega) (by first | exact hI.2.1 | omega)) gX0_allThick_X0_depth rfl (by decide +kernel) rfl ⟨Nat.le_of_ble_eq_true rfl, Nat.le_of_ble_eq_true rfl⟩ ⟨Nat.zero_le _, Nat.zero_le _⟩ hP hK hN rfl rfl rfl (Nat.le_of_ble_eq_true rfl) dX0_allThick_6 ?_
  exact sn_ret hx hb hr hlk dX0_allThick_9 (rfl)
set_option maxRecDepth 100000 in
set_option maxHeartbeats 4000000 in
theorem ct_X0_breaking (l : Launch) (D : va_G) (cI cZ cR : ClassId) (a : Nat → Nat) (f : Nat → Int32) (n : Nat) (hI : sn_I f n) (b : Nat) (hb10 : b ≤ 10) (wt : Int32) : sn_Rd l yX0_breaking wsX0_breaking 2 [.ref (a 0), .int (nI b), .int wt] D (sn_ty cI cZ cR) (sn_wC cI cZ a f) (sn_en (sn_bk f b wt)) := by
  refine sn_rd (cc := cX0_breaking) (maxL := 4) (ret := (some .int)) (by decide) rfl (Nat.le_of_ble_eq_true rfl) ?_
  intro p e s m below meth c hx hb hml hr hlk hts hown hP hK hN ls hl
  have hC : CallFix p m c cX0_breaking 4 s [.ref (a 0), .int (nI b), .int wt].toArray wsX0_breaking RX0 := ⟨hx, hb, hml, hown, hts⟩
  have hl : lv_has ls 4 [(0, .ref (a 0)), (1, .int (nI b)), (2, .int wt)] := hl
  refine lv_iload_n hx hb dX0_breaking_0 rfl (lv_at hl 1 rfl) ?_
  refine lv_iconst (v := 2) hx hb dX0_breaking_1 (by decide) ?_
  refine lv_isub hx hb dX0_breaking_2 ?_
  refine lv_istore_n (lv' := [(3, .int ((nI b) - 2)), (0, .ref (a 0)), (1, .int (nI b)), (2, .int wt)]) hx hb dX0_breaking_3 rfl hl (by decide) rfl (fun ls hl => ?_)
  have loop : ∀ (j : Nat) (xj : Int32) , sn_dn j xj → (j ≤ b - 1) → (sn_bkA f b wt j = sn_bk f b wt) → ∀ ls : Array Slot, lv_has ls 4 [(0, .ref (a 0)), (1, .int (nI b)), (2, .int wt), (3, .int xj)] → W p l e (sn_rm 2 0 0) s m [.ref (a 0), .int (nI b), .int wt].toArray below meth c s.heap [] 0 0 (MQ below (vp_Si (fun r_ => r_ = (sn_en (sn_bk f b wt)))) [.ref (a 0), .int (nI b), .int wt].toArray s 0 0 (fun _ => False)) (F0 m 4 ls []) := by
    intro j
    induction j with
    | zero =>
      intro xj  hdn hj hq ls hl
      have hdn : xj < 0 := hdn
      refine lv_iload_n hx hb dX0_breaking_4 rfl (lv_at hl 3 rfl) ?_
      refine lv_if_lt (tgt := 38) hx hb dX0_breaking_5 (by decide) (fun c_1 => ?_) (fun c_1 => ?_)
      · refine lv_bipush (v := (-6)) hx hb dX0_breaking_38 (by decide) ?_
        exact sn_ret hx hb hr hlk dX0_breaking_40 (by rw [← hq]; rfl)
      · exact absurd hdn c_1
    | succ j ih_loop =>
      intro xj  hdn hj hq ls hl
      have hdn : xj = nI j := hdn
      subst hdn
      refine lv_iload_n hx hb dX0_breaking_4 rfl (lv_at hl 3 rfl) ?_
      refine lv_if_lt (tgt := 38) hx hb dX0_breaking_5 (by decide) (fun c_2 => ?_) (fun c_2 => ?_)
      · have c_2 := (sn_cltj (a := j) (b := 0) rfl rfl (by omega) (by omega)).mp c_2
        exact absurd c_2 (by omega)
      · have c_2 := (sn_cltf (a := j) (b := 0) rfl rfl (by omega) (by omega)).mp c_2
        refine lv_aload_n hx hb dX0_breaking_8 rfl (lv_at hl 0 rfl) ?_
        refine lv_iload_n hx hb dX0_breaking_9 rfl (lv_at hl 3 rfl) ?_
        refine lv_iload_n hx hb dX0_breaking_10 rfl (lv_at hl 1 rfl) ?_
        refine sn_cV 2 0 hC hl (ct_X0_load l D cI cZ cR a f j b (by omega) (by first | exact hI.2.1 | omega)) gX0_breaking_X0_load rfl (by decide +kernel) rfl ⟨Nat.le_of_ble_eq_true rfl, Nat.le_of_ble_eq_true rfl⟩ ⟨Nat.zero_le _, Nat.zero_le _⟩ hP hK hN rfl rfl rfl (Nat.le_of_ble_eq_true rfl) dX0_breaking_11 ?_
        refine lv_aload_n hx hb dX0_breaking_14 rfl (lv_at hl 0 rfl) ?_
        refine lv_iload_n hx hb dX0_breaking_15 rfl (lv_at hl 3 rfl) ?_
        refine lv_iload_n hx hb dX0_breaking_16 rfl (lv_at hl 1 rfl) ?_
        refine lv_iload_n hx hb dX0_breaking_17 rfl (lv_at hl 2 rfl) ?_
        refine sn_cV 3 0 hC hl (ct_X0_press l D cI cZ cR a f n hI j b (by omega) (by first | exact hI.2.1 | omega) wt) gX0_breaking_X0_press rfl (by decide +kernel) rfl ⟨Nat.le_of_ble_eq_true rfl, Nat.le_of_ble_eq_true rfl⟩ ⟨Nat.zero_le _, Nat.zero_le _⟩ hP hK hN rfl rfl rfl (Nat.le_of_ble_eq_true rfl) dX0_breaking_18 ?_
        refine lv_iadd hx hb dX0_breaking_21 ?_
        refine lv_aload_n hx hb dX0_breaking_22 rfl (lv_at hl 0 rfl) ?_
        refine lv_iload_n hx hb dX0_breaking_23 rfl (lv_at hl 3 rfl) ?_
        refine sn_cV 1 0 hC hl (ct_X0_strength l D cI cZ cR a f n hI j (by have := hI.2.1; omega)) gX0_breaking_X0_strength rfl (by decide +kernel) rfl ⟨Nat.le_of_ble_eq_true rfl, Nat.le_of_ble_eq_true rfl⟩ ⟨Nat.zero_le _, Nat.zero_le _⟩ hP hK hN rfl rfl rfl (Nat.le_of_ble_eq_true rfl) dX0_breaking_24 ?_
        refine lv_icmp_lt (tgt := 32) hx hb dX0_breaking_27 (by decide) (fun c_3 => ?_) (fun c_3 => ?_)
        · have c_3 := Int32.not_le.mpr c_3
          refine lv_iinc (v := (nI j) + (-1)) (lv' := [(3, .int ((nI j) + (-1))), (0, .ref (a 0)), (1, .int (nI b)), (2, .int wt)]) hx hb dX0_breaking_32 hl (k := 3) rfl (rfl) (by decide) rfl (fun ls hl => ?_)
          refine lv_goto (tgt := 4) hx hb dX0_breaking_35 (by decide) ?_
          exact ih_loop ((nI j) + (-1)) (sn_dn_p j) (by omega) ((if_neg c_3).symm.trans hq) ls (lv_sub hl [1, 2, 3, 0] rfl)
        · have c_3 := Int32.not_lt.mp c_3
          refine lv_iload_n hx hb dX0_breaking_30 rfl (lv_at hl 3 rfl) ?_
          exact sn_ret hx hb hr hlk dX0_breaking_31 (by rw [← hq, show sn_bkA f b wt (j + 1) = j + 1 from if_pos c_3]; rfl)
  exact loop (b - 1) ((nI b) - 2) (sn_dn_2 b) (Nat.le_refl _) rfl ls (lv_sub hl [1, 2, 3, 0] rfl)
set_option maxRecDepth 100000 in
set_option maxHeartbeats 4000000 in
theorem ct_X0_slabGoes (l : Launch) (D : va_G) (cI cZ cR : ClassId) (a : Nat → Nat) (f : Nat → Int32) (n : Nat) (hI : sn_I f n) (i : Nat) (hi : i < n) (st wt : Int32) : sn_Rd l yX0_slabGoes wsX0_slabGoes 3 [.ref (a 0), .int (nI i), .int st, .int wt] D (sn_ty cI cZ cR) (sn_wC cI cZ a f) (sn_b (sn_Go f n st wt i)) := by
  refine sn_rd (cc := cX0_slabGoes) (maxL := 4) (ret := (some .boolean)) (by decide) rfl (Nat.le_of_ble_eq_true rfl) ?_
  intro p e s m below meth c hx hb hml hr hlk hts hown hP hK hN ls hl
  have hC : CallFix p m c cX0_slabGoes 4 s [.ref (a 0), .int (nI i), .int st, .int wt].toArray wsX0_slabGoes RX0 := ⟨hx, hb, hml, hown, hts⟩
  have hl : lv_has ls 4 [(0, .ref (a 0)), (1, .int (nI i)), (2, .int st), (3, .int wt)] := hl
  have huX0 : ∀ w ∈ wsX00, w ∈ wsX0_slabGoes := by decide +kernel
  refine lv_aload_n hx hb dX0_slabGoes_0 rfl (lv_at hl 0 rfl) ?_
  refine lv_iload_n hx hb dX0_slabGoes_1 rfl (lv_at hl 1 rfl) ?_
  refine lv_iload_n hx hb dX0_slabGoes_2 rfl (lv_at hl 2 rfl) ?_
  refine sn_cV 2 0 hC hl (ct_X0_shear l D cI cZ cR a f n hI i (by omega) st) gX0_slabGoes_X0_shear rfl (by decide +kernel) rfl ⟨Nat.le_of_ble_eq_true rfl, Nat.le_of_ble_eq_true rfl⟩ ⟨Nat.zero_le _, Nat.zero_le _⟩ hP hK hN rfl rfl rfl (Nat.le_of_ble_eq_true rfl) dX0_slabGoes_3 ?_
  refine lv_aload_n hx hb dX0_slabGoes_6 rfl (lv_at hl 0 rfl) ?_
  refine lv_iload_n hx hb dX0_slabGoes_7 rfl (lv_at hl 1 rfl) ?_
  refine lv_aload_n hx hb dX0_slabGoes_8 rfl (lv_at hl 0 rfl) ?_
  refine va_get (D := D) (ci := 0) (v := .int (f 0)) (C := RX0) (T := TX0) (N := 8) hx hb hts huX0 hown hK hP 0 rfl rfl 0 (by decide) (hts (.fieldLink RX0 9 "SnowSlabs$Cover" "size" "I") (by decide +kernel)) (fun _ h9 => h9) rfl dX0_slabGoes_9 ?_
  refine sn_top (hI.1) ?_
  refine lv_iload_n hx hb dX0_slabGoes_12 rfl (lv_at hl 3 rfl) ?_
  refine sn_cV 3 0 hC hl (ct_X0_press l D cI cZ cR a f n hI i n (by omega) (by first | exact hI.2.1 | omega) wt) gX0_slabGoes_X0_press rfl (by decide +kernel) rfl ⟨Nat.le_of_ble_eq_true rfl, Nat.le_of_ble_eq_true rfl⟩ ⟨Nat.zero_le _, Nat.zero_le _⟩ hP hK hN rfl rfl rfl (Nat.le_of_ble_eq_true rfl) dX0_slabGoes_13 ?_
  refine lv_iadd hx hb dX0_slabGoes_16 ?_
  refine lv_aload_n hx hb dX0_slabGoes_17 rfl (lv_at hl 0 rfl) ?_
  refine lv_iload_n hx hb dX0_slabGoes_18 rfl (lv_at hl 1 rfl) ?_
  refine sn_cV 1 0 hC hl (ct_X0_strength l D cI cZ cR a f n hI i (by have := hI.2.1; omega)) gX0_slabGoes_X0_strength rfl (by decide +kernel) rfl ⟨Nat.le_of_ble_eq_true rfl, Nat.le_of_ble_eq_true rfl⟩ ⟨Nat.zero_le _, Nat.zero_le _⟩ hP hK hN rfl rfl rfl (Nat.le_of_ble_eq_true rfl) dX0_slabGoes_19 ?_
  refine lv_icmp_lt (tgt := 29) hx hb dX0_slabGoes_22 (by decide) (fun c_1 => ?_) (fun c_1 => ?_)
  · have c_1 := Int32.not_le.mpr c_1
    refine lv_iconst (v := 0) hx hb dX0_slabGoes_29 (by decide) ?_
    exact sn_zret hx hb hr hlk dX0_slabGoes_30 (by decide) (sn_b_f c_1)
  · have c_1 := Int32.not_lt.mp c_1
    refine lv_iconst (v := 1) hx hb dX0_slabGoes_25 (by decide) ?_
    refine lv_goto (tgt := 30) hx hb dX0_slabGoes_26 (by decide) ?_
    exact sn_zret hx hb hr hlk dX0_slabGoes_30 (by decide) (sn_b_t c_1)
set_option maxRecDepth 100000 in
set_option maxHeartbeats 4000000 in
theorem ct_X0_going (l : Launch) (D : va_G) (cI cZ cR : ClassId) (a : Nat → Nat) (f : Nat → Int32) (n : Nat) (hI : sn_I f n) (st wt : Int32) : sn_Rd l yX0_going wsX0_going 4 [.ref (a 0), .int st, .int wt] D (sn_ty cI cZ cR) (sn_wC cI cZ a f) (sn_en (sn_gn f n st wt)) := by
  refine sn_rd (cc := cX0_going) (maxL := 4) (ret := (some .int)) (by decide) rfl (Nat.le_of_ble_eq_true rfl) ?_
  intro p e s m below meth c hx hb hml hr hlk hts hown hP hK hN ls hl
  have hC : CallFix p m c cX0_going 4 s [.ref (a 0), .int st, .int wt].toArray wsX0_going RX0 := ⟨hx, hb, hml, hown, hts⟩
  have hl : lv_has ls 4 [(0, .ref (a 0)), (1, .int st), (2, .int wt)] := hl
  have huX0 : ∀ w ∈ wsX00, w ∈ wsX0_going := by decide +kernel
  have hn10 := hI.2.1
  refine lv_aload_n hx hb dX0_going_0 rfl (lv_at hl 0 rfl) ?_
  refine va_get (D := D) (ci := 0) (v := .int (f 0)) (C := RX0) (T := TX0) (N := 8) hx hb hts huX0 hown hK hP 0 rfl rfl 0 (by decide) (hts (.fieldLink RX0 9 "SnowSlabs$Cover" "size" "I") (by decide +kernel)) (fun _ h9 => h9) rfl dX0_going_1 ?_
  refine sn_top (hI.1) ?_
  refine lv_iconst (v := 2) hx hb dX0_going_4 (by decide) ?_
  refine lv_isub hx hb dX0_going_5 ?_
  refine lv_istore_n (lv' := [(3, .int ((nI n) - 2)), (0, .ref (a 0)), (1, .int st), (2, .int wt)]) hx hb dX0_going_6 rfl hl (by decide) rfl (fun ls hl => ?_)
  have loop : ∀ (j : Nat) (xj : Int32) , sn_dn j xj → (j ≤ n - 1) → (sn_gnA f n st wt j = sn_gn f n st wt) → ∀ ls : Array Slot, lv_has ls 4 [(0, .ref (a 0)), (1, .int st), (2, .int wt), (3, .int xj)] → W p l e (sn_rm 4 0 0) s m [.ref (a 0), .int st, .int wt].toArray below meth c s.heap [] 0 0 (MQ below (vp_Si (fun r_ => r_ = (sn_en (sn_gn f n st wt)))) [.ref (a 0), .int st, .int wt].toArray s 0 0 (fun _ => False)) (F0 m 7 ls []) := by
    intro j
    induction j with
    | zero =>
      intro xj  hdn hj hq ls hl
      have hdn : xj < 0 := hdn
      refine lv_iload_n hx hb dX0_going_7 rfl (lv_at hl 3 rfl) ?_
      refine lv_if_lt (tgt := 29) hx hb dX0_going_8 (by decide) (fun c_1 => ?_) (fun c_1 => ?_)
      · refine lv_bipush (v := (-6)) hx hb dX0_going_29 (by decide) ?_
        exact sn_ret hx hb hr hlk dX0_going_31 (by rw [← hq]; rfl)
      · exact absurd hdn c_1
    | succ j ih_loop =>
      intro xj  hdn hj hq ls hl
      have hdn : xj = nI j := hdn
      subst hdn
      refine lv_iload_n hx hb dX0_going_7 rfl (lv_at hl 3 rfl) ?_
      refine lv_if_lt (tgt := 29) hx hb dX0_going_8 (by decide) (fun c_2 => ?_) (fun c_2 => ?_)
      · have c_2 := (sn_cltj (a := j) (b := 0) rfl rfl (by omega) (by omega)).mp c_2
        exact absurd c_2 (by omega)
      · have c_2 := (sn_cltf (a := j) (b := 0) rfl rfl (by omega) (by omega)).mp c_2
        refine lv_aload_n hx hb dX0_going_11 rfl (lv_at hl 0 rfl) ?_
        refine lv_iload_n hx hb dX0_going_12 rfl (lv_at hl 3 rfl) ?_
        refine lv_iload_n hx hb dX0_going_13 rfl (lv_at hl 1 rfl) ?_
        refine lv_iload_n hx hb dX0_going_14 rfl (lv_at hl 2 rfl) ?_
        refine sn_cV 3 0 hC hl (ct_X0_slabGoes l D cI cZ cR a f n hI j (by omega) st wt) gX0_going_X0_slabGoes rfl (by decide +kernel) rfl ⟨Nat.le_of_ble_eq_true rfl, Nat.le_of_ble_eq_true rfl⟩ ⟨Nat.zero_le _, Nat.zero_le _⟩ hP hK hN rfl rfl rfl (Nat.le_of_ble_eq_true rfl) dX0_going_15 ?_
        refine lv_if_eq (tgt := 23) hx hb dX0_going_18 (by decide) (fun c_3 => ?_) (fun c_3 => ?_)
        · have c_3 : ¬ (sn_Go f n st wt j) := sn_b_z.mp c_3
          refine lv_iinc (v := (nI j) + (-1)) (lv' := [(3, .int ((nI j) + (-1))), (0, .ref (a 0)), (1, .int st), (2, .int wt)]) hx hb dX0_going_23 hl (k := 3) rfl (rfl) (by decide) rfl (fun ls hl => ?_)
          refine lv_goto (tgt := 7) hx hb dX0_going_26 (by decide) ?_
          exact ih_loop ((nI j) + (-1)) (sn_dn_p j) (by omega) ((if_neg c_3).symm.trans hq) ls (lv_sub hl [1, 2, 3, 0] rfl)
        · have c_3 : sn_Go f n st wt j := sn_b_nz.mp c_3
          refine lv_iload_n hx hb dX0_going_21 rfl (lv_at hl 3 rfl) ?_
          exact sn_ret hx hb hr hlk dX0_going_22 (by rw [← hq, show sn_gnA f n st wt (j + 1) = j + 1 from if_pos c_3]; rfl)
  exact loop (n - 1) ((nI n) - 2) (sn_dn_2 n) (Nat.le_refl _) rfl ls (lv_sub hl [1, 2, 3, 0] rfl)
set_option maxRecDepth 100000 in
set_option maxHeartbeats 4000000 in
theorem ct_X0_leastMargin (l : Launch) (D : va_G) (cI cZ cR : ClassId) (a : Nat → Nat) (f : Nat → Int32) (n : Nat) (hI : sn_I f n) (st : Int32) : sn_Rd l yX0_leastMargin wsX0_leastMargin 4 [.ref (a 0), .int st] D (sn_ty cI cZ cR) (sn_wC cI cZ a f) (sn_en (sn_wk f n st)) := by
  refine sn_rd (cc := cX0_leastMargin) (maxL := 6) (ret := (some .int)) (by decide) rfl (Nat.le_of_ble_eq_true rfl) ?_
  intro p e s m below meth c hx hb hml hr hlk hts hown hP hK hN ls hl
  have hC : CallFix p m c cX0_leastMargin 6 s [.ref (a 0), .int st].toArray wsX0_leastMargin RX0 := ⟨hx, hb, hml, hown, hts⟩
  have hl : lv_has ls 6 [(0, .ref (a 0)), (1, .int st)] := hl
  have huX0 : ∀ w ∈ wsX00, w ∈ wsX0_leastMargin := by decide +kernel
  have hn10 := hI.2.1
  refine lv_bipush (v := (-6)) hx hb dX0_leastMargin_0 (by decide) ?_
  refine lv_istore_n (lv' := [(2, .int (-6)), (0, .ref (a 0)), (1, .int st)]) hx hb dX0_leastMargin_2 rfl hl (by decide) rfl (fun ls hl => ?_)
  refine lv_iconst (v := 0) hx hb dX0_leastMargin_3 (by decide) ?_
  refine lv_istore_n (lv' := [(3, .int 0), (2, .int (-6)), (0, .ref (a 0)), (1, .int st)]) hx hb dX0_leastMargin_4 rfl hl (by decide) rfl (fun ls hl => ?_)
  refine lv_aload_n hx hb dX0_leastMargin_5 rfl (lv_at hl 2 rfl) ?_
  refine va_get (D := D) (ci := 0) (v := .int (f 0)) (C := RX0) (T := TX0) (N := 8) hx hb hts huX0 hown hK hP 0 rfl rfl 0 (by decide) (hts (.fieldLink RX0 9 "SnowSlabs$Cover" "size" "I") (by decide +kernel)) (fun _ h9 => h9) rfl dX0_leastMargin_6 ?_
  refine sn_top (hI.1) ?_
  refine lv_iconst (v := 2) hx hb dX0_leastMargin_9 (by decide) ?_
  refine lv_isub hx hb dX0_leastMargin_10 ?_
  refine lv_istore (lv' := [(4, .int ((nI n) - 2)), (3, .int 0), (2, .int (-6)), (0, .ref (a 0)), (1, .int st)]) hx hb dX0_leastMargin_11 hl (by decide) rfl (fun ls hl => ?_)
  have loop : ∀ (j : Nat) (xj : Int32) (q : Nat) (L : Int32), sn_dn j xj → (j ≤ n - 1) → (sn_Wk f n st j q L) → (q ≤ 10) → ∀ ls : Array Slot, lv_has ls 6 [(0, .ref (a 0)), (1, .int st), (2, .int (sn_en q)), (3, .int L), (4, .int xj)] → W p l e (sn_rm 4 0 0) s m [.ref (a 0), .int st].toArray below meth c s.heap [] 0 0 (MQ below (vp_Si (fun r_ => r_ = (sn_en (sn_wk f n st)))) [.ref (a 0), .int st].toArray s 0 0 (fun _ => False)) (F0 m 13 ls []) := by
    intro j
    induction j with
    | zero =>
      intro xj q L hdn hj hW hq ls hl
      have hdn : xj < 0 := hdn
      refine lv_iload hx hb dX0_leastMargin_13 (lv_at hl 4 rfl) ?_
      refine lv_if_lt (tgt := 51) hx hb dX0_leastMargin_15 (by decide) (fun c_1 => ?_) (fun c_1 => ?_)
      · refine lv_iload_n hx hb dX0_leastMargin_51 rfl (lv_at hl 2 rfl) ?_
        exact sn_ret hx hb hr hlk dX0_leastMargin_52 (by rw [sn_Wk_end hW])
      · exact absurd hdn c_1
    | succ j ih_loop =>
      intro xj q L hdn hj hW hq ls hl
      have hdn : xj = nI j := hdn
      subst hdn
      refine lv_iload hx hb dX0_leastMargin_13 (lv_at hl 4 rfl) ?_
      refine lv_if_lt (tgt := 51) hx hb dX0_leastMargin_15 (by decide) (fun c_2 => ?_) (fun c_2 => ?_)
      · have c_2 := (sn_cltj (a := j) (b := 0) rfl rfl (by omega) (by omega)).mp c_2
        exact absurd c_2 (by omega)
      · have c_2 := (sn_cltf (a := j) (b := 0) rfl rfl (by omega) (by omega)).mp c_2
        refine lv_aload_n hx hb dX0_leastMargin_18 rfl (lv_at hl 0 rfl) ?_
        refine lv_iload hx hb dX0_leastMargin_19 (lv_at hl 4 rfl) ?_
        refine lv_iload_n hx hb dX0_leastMargin_21 rfl (lv_at hl 1 rfl) ?_
        refine sn_cV 2 0 hC hl (ct_X0_margin l D cI cZ cR a f n hI j (by omega) st) gX0_leastMargin_X0_margin rfl (by decide +kernel) rfl ⟨Nat.le_of_ble_eq_true rfl, Nat.le_of_ble_eq_true rfl⟩ ⟨Nat.zero_le _, Nat.zero_le _⟩ hP hK hN rfl rfl rfl (Nat.le_of_ble_eq_true rfl) dX0_leastMargin_22 ?_
        refine lv_istore (lv' := [(5, .int (sn_mar f j n st)), (0, .ref (a 0)), (1, .int st), (2, .int (sn_en q)), (3, .int L), (4, .int (nI j))]) hx hb dX0_leastMargin_25 hl (by decide) rfl (fun ls hl => ?_)
        refine lv_iload_n hx hb dX0_leastMargin_27 rfl (lv_at hl 3 rfl) ?_
        refine lv_bipush (v := (-6)) hx hb dX0_leastMargin_28 (by decide) ?_
        refine lv_icmp_eq (tgt := 39) hx hb dX0_leastMargin_30 (by decide) (fun c_3 => ?_) (fun c_3 => ?_)
        · have c_3 := (sn_en_none (by omega)).mp c_3
          refine lv_iload hx hb dX0_leastMargin_39 (lv_at hl 5 rfl) ?_
          refine lv_istore_n (lv' := [(2, .int (nI j)), (5, .int (sn_mar f j n st)), (0, .ref (a 0)), (1, .int st), (3, .int L), (4, .int (nI j))]) hx hb dX0_leastMargin_41 rfl hl (by decide) rfl (fun ls hl => ?_)
          refine lv_iload hx hb dX0_leastMargin_42 (lv_at hl 1 rfl) ?_
          refine lv_istore_n (lv' := [(3, .int (sn_mar f j n st)), (2, .int (nI j)), (5, .int (sn_mar f j n st)), (0, .ref (a 0)), (1, .int st), (4, .int (nI j))]) hx hb dX0_leastMargin_44 rfl hl (by decide) rfl (fun ls hl => ?_)
          refine lv_iinc (v := (nI j) + (-1)) (lv' := [(4, .int ((nI j) + (-1))), (3, .int (sn_mar f j n st)), (2, .int (nI j)), (5, .int (sn_mar f j n st)), (0, .ref (a 0)), (1, .int st)]) hx hb dX0_leastMargin_45 hl (k := 5) rfl (rfl) (by decide) rfl (fun ls hl => ?_)
          refine lv_goto (tgt := 13) hx hb dX0_leastMargin_48 (by decide) ?_
          exact ih_loop ((nI j) + (-1)) (j + 1) (sn_mar f j n st) (sn_dn_p j) (by omega) (sn_Wk_take hW (by omega) (Or.inl c_3)) (by omega) ls (lv_sub hl [4, 5, 2, 1, 0] rfl)
        · have c_3 : ¬ q = 0 := fun z => c_3 ((sn_en_none (by omega)).mpr z)
          refine lv_iload hx hb dX0_leastMargin_33 (lv_at hl 0 rfl) ?_
          refine lv_iload_n hx hb dX0_leastMargin_35 rfl (lv_at hl 4 rfl) ?_
          refine lv_icmp_ge (tgt := 45) hx hb dX0_leastMargin_36 (by decide) (fun c_4 => ?_) (fun c_4 => ?_)
          · refine lv_iinc (v := (nI j) + (-1)) (lv' := [(4, .int ((nI j) + (-1))), (5, .int (sn_mar f j n st)), (0, .ref (a 0)), (1, .int st), (2, .int (sn_en q)), (3, .int L)]) hx hb dX0_leastMargin_45 hl (k := 5) rfl (rfl) (by decide) rfl (fun ls hl => ?_)
            refine lv_goto (tgt := 13) hx hb dX0_leastMargin_48 (by decide) ?_
            exact ih_loop ((nI j) + (-1)) q L (sn_dn_p j) (by omega) (sn_Wk_keep hW c_3 (Int32.not_lt.mpr c_4)) (by omega) ls (lv_sub hl [2, 3, 4, 5, 0] rfl)
          · refine lv_iload hx hb dX0_leastMargin_39 (lv_at hl 5 rfl) ?_
            refine lv_istore_n (lv' := [(2, .int (nI j)), (5, .int (sn_mar f j n st)), (0, .ref (a 0)), (1, .int st), (3, .int L), (4, .int (nI j))]) hx hb dX0_leastMargin_41 rfl hl (by decide) rfl (fun ls hl => ?_)
            refine lv_iload hx hb dX0_leastMargin_42 (lv_at hl 1 rfl) ?_
            refine lv_istore_n (lv' := [(3, .int (sn_mar f j n st)), (2, .int (nI j)), (5, .int (sn_mar f j n st)), (0, .ref (a 0)), (1, .int st), (4, .int (nI j))]) hx hb dX0_leastMargin_44 rfl hl (by decide) rfl (fun ls hl => ?_)
            refine lv_iinc (v := (nI j) + (-1)) (lv' := [(4, .int ((nI j) + (-1))), (3, .int (sn_mar f j n st)), (2, .int (nI j)), (5, .int (sn_mar f j n st)), (0, .ref (a 0)), (1, .int st)]) hx hb dX0_leastMargin_45 hl (k := 5) rfl (rfl) (by decide) rfl (fun ls hl => ?_)
            refine lv_goto (tgt := 13) hx hb dX0_leastMargin_48 (by decide) ?_
            exact ih_loop ((nI j) + (-1)) (j + 1) (sn_mar f j n st) (sn_dn_p j) (by omega) (sn_Wk_take hW (by omega) (Or.inr (Int32.not_le.mp c_4))) (by omega) ls (lv_sub hl [4, 5, 2, 1, 0] rfl)
  exact loop (n - 1) ((nI n) - 2) 0 0 (sn_dn_2 n) (Nat.le_refl _) (Or.inl ⟨rfl, Nat.le_refl _⟩) (by omega) ls (lv_sub hl [3, 4, 2, 1, 0] rfl)
end
section
set_option maxRecDepth 100000 in
set_option maxHeartbeats 4000000 in
theorem ct_X1_heatIn (l : Launch) (D : va_G) (tys : List (ClassId × FieldType)) (w : va_W) (i h : Nat) (hi : i < 8) (hh : h < 24) : sn_Rd l yX1_heatIn wsX1_heatIn 1 [.int (nI i), .int (nI h)] D tys (w) (nI (sn_hv i h)) := by
  refine sn_rd (cc := cX1_heatIn) (maxL := 4) (ret := (some .int)) (by decide) rfl (Nat.le_of_ble_eq_true rfl) ?_
  intro p e s m below meth c hx hb hml hr hlk hts hown hP hK hN ls hl
  have hC : CallFix p m c cX1_heatIn 4 s [.int (nI i), .int (nI h)].toArray wsX1_heatIn RX1 := ⟨hx, hb, hml, hown, hts⟩
  have hl : lv_has ls 4 [(0, .int (nI i)), (1, .int (nI h))] := hl
  refine lv_iload_n hx hb dX1_heatIn_0 rfl (lv_at hl 1 rfl) ?_
  refine lv_bipush (v := 6) hx hb dX1_heatIn_1 (by decide) ?_
  refine lv_bipush (v := 18) hx hb dX1_heatIn_3 (by decide) ?_
  refine sn_cN 3 hC hl (ct_X3_within l D _ [] (nI h) 6 18) gX1_heatIn_X3_within_n9 rfl hN.2.2 (hts (.initialized RX3) (by decide +kernel)) (hts (.static yX3_within) (by decide +kernel)) (by decide +kernel) rfl ⟨Nat.le_of_ble_eq_true rfl, Nat.le_of_ble_eq_true rfl⟩ ⟨Nat.zero_le _, Nat.zero_le _⟩ (fun _ _ h => by simp at h) hK hN rfl (Nat.le_of_ble_eq_true rfl) dX1_heatIn_5 ?_
  refine lv_if_ne (tgt := 13) hx hb dX1_heatIn_8 (by decide) (fun c_1 => ?_) (fun c_1 => ?_)
  · have c_1 : 6 ≤ (nI h) ∧ (nI h) ≤ 18 := sn_b_nz.mp c_1
    refine lv_bipush (v := 45) hx hb dX1_heatIn_13 (by decide) ?_
    refine lv_iload_n hx hb dX1_heatIn_15 rfl (lv_at hl 0 rfl) ?_
    refine lv_imul hx hb dX1_heatIn_16 ?_
    refine sn_top (sn_nmul (a := 45) (b := i) rfl rfl) ?_
    refine lv_bipush (v := 15) hx hb dX1_heatIn_17 (by decide) ?_
    refine lv_iload_n hx hb dX1_heatIn_19 rfl (lv_at hl 1 rfl) ?_
    refine lv_imul hx hb dX1_heatIn_20 ?_
    refine sn_top (sn_nmul (a := 15) (b := h) rfl rfl) ?_
    refine lv_isub hx hb dX1_heatIn_21 ?_
    refine va_mabs hx hb (hml.trans hl.1.symm) hown (hts (.methodLink RX1 13 Lib.Math.abs.name) (by decide +kernel)) (hts (.static Lib.Math.abs.name) (by decide +kernel)) (hts (.initialized "java/lang/Math") (by decide +kernel)) (hts (.code Lib.Math.abs.name Lib.Math.abs.code 1 (some .int)) (by decide +kernel)) (Nat.le_of_ble_eq_true rfl) (Nat.le_of_ble_eq_true rfl) (Nat.zero_le _) (Nat.zero_le _) dX1_heatIn_22 ?_
    refine lv_istore_n (lv' := [(2, .int (if 0 ≤ ((nI (45 * i)) - (nI (15 * h))) then ((nI (45 * i)) - (nI (15 * h))) else 0 - ((nI (45 * i)) - (nI (15 * h))))), (0, .int (nI i)), (1, .int (nI h))]) hx hb dX1_heatIn_25 rfl hl (by decide) rfl (fun ls hl => ?_)
    refine lv_iload_n hx hb dX1_heatIn_26 rfl (lv_at hl 0 rfl) ?_
    refine lv_sipush (v := 360) hx hb dX1_heatIn_27 (by decide) ?_
    refine lv_iload_n hx hb dX1_heatIn_30 rfl (lv_at hl 0 rfl) ?_
    refine lv_isub hx hb dX1_heatIn_31 ?_
    refine va_mmin hx hb (hml.trans hl.1.symm) hown (hts (.methodLink RX1 19 Lib.Math.min.name) (by decide +kernel)) (hts (.static Lib.Math.min.name) (by decide +kernel)) (hts (.initialized "java/lang/Math") (by decide +kernel)) (hts (.code Lib.Math.min.name Lib.Math.min.code 2 (some .int)) (by decide +kernel)) (Nat.le_of_ble_eq_true rfl) (Nat.le_of_ble_eq_true rfl) (Nat.zero_le _) (Nat.zero_le _) dX1_heatIn_32 ?_
    refine lv_istore_n (lv' := [(3, .int (if (360 - (if 0 ≤ ((nI (45 * i)) - (nI (15 * h))) then ((nI (45 * i)) - (nI (15 * h))) else 0 - ((nI (45 * i)) - (nI (15 * h))))) < (if 0 ≤ ((nI (45 * i)) - (nI (15 * h))) then ((nI (45 * i)) - (nI (15 * h))) else 0 - ((nI (45 * i)) - (nI (15 * h)))) then (360 - (if 0 ≤ ((nI (45 * i)) - (nI (15 * h))) then ((nI (45 * i)) - (nI (15 * h))) else 0 - ((nI (45 * i)) - (nI (15 * h))))) else (if 0 ≤ ((nI (45 * i)) - (nI (15 * h))) then ((nI (45 * i)) - (nI (15 * h))) else 0 - ((nI (45 * i)) - (nI (15 * h)))))), (2, .int (if 0 ≤ ((nI (45 * i)) - (nI (15 * h))) then ((nI (45 * i)) - (nI (15 * h))) else 0 - ((nI (45 * i)) - (nI (15 * h))))), (0, .int (nI i)), (1, .int (nI h))]) hx hb dX1_heatIn_35 rfl hl (by decide) rfl (fun ls hl => ?_)
    refine lv_iconst (v := 0) hx hb dX1_heatIn_36 (by decide) ?_
    refine lv_bipush (v := 90) hx hb dX1_heatIn_37 (by decide) ?_
    refine lv_iload_n hx hb dX1_heatIn_39 rfl (lv_at hl 0 rfl) ?_
    refine lv_isub hx hb dX1_heatIn_40 ?_
    refine va_mmax hx hb (hml.trans hl.1.symm) hown (hts (.methodLink RX1 23 Lib.Math.max.name) (by decide +kernel)) (hts (.static Lib.Math.max.name) (by decide +kernel)) (hts (.initialized "java/lang/Math") (by decide +kernel)) (hts (.code Lib.Math.max.name Lib.Math.max.code 2 (some .int)) (by decide +kernel)) (Nat.le_of_ble_eq_true rfl) (Nat.le_of_ble_eq_true rfl) (Nat.zero_le _) (Nat.zero_le _) dX1_heatIn_41 ?_
    exact sn_ret hx hb hr hlk dX1_heatIn_44 (sn_hvC i hi h hh c_1)
  · have c_1 : ¬ (6 ≤ (nI h) ∧ (nI h) ≤ 18) := sn_b_z.mp c_1
    refine lv_iconst (v := 0) hx hb dX1_heatIn_11 (by decide) ?_
    exact sn_ret hx hb hr hlk dX1_heatIn_12 (sn_hv0 h hh c_1 i hi)
set_option maxRecDepth 100000 in
set_option maxHeartbeats 4000000 in
theorem ct_X4_heatIn (l : Launch) (D : va_G) (tys : List (ClassId × FieldType)) (w : va_W) (i h : Nat) (hi : i < 8) (hh : h < 24) : sn_Rd l yX4_heatIn wsX4_heatIn 1 [.int (nI i), .int (nI h)] D tys (w) (nI (sn_hv i h)) := by
  refine sn_rd (cc := cX4_heatIn) (maxL := 3) (ret := (some .int)) (by decide) rfl (Nat.le_of_ble_eq_true rfl) ?_
  intro p e s m below meth c hx hb hml hr hlk hts hown hP hK hN ls hl
  have hC : CallFix p m c cX4_heatIn 3 s [.int (nI i), .int (nI h)].toArray wsX4_heatIn RX4 := ⟨hx, hb, hml, hown, hts⟩
  have hl : lv_has ls 3 [(0, .int (nI i)), (1, .int (nI h))] := hl
  refine lv_iload_n hx hb dX4_heatIn_0 rfl (lv_at hl 1 rfl) ?_
  refine lv_bipush (v := 6) hx hb dX4_heatIn_1 (by decide) ?_
  refine lv_bipush (v := 18) hx hb dX4_heatIn_3 (by decide) ?_
  refine sn_cS 3 hC hl (ct_X4_in l D _ [] (nI h) 6 18) gX4_heatIn_X4_in rfl (by decide +kernel) rfl ⟨Nat.le_of_ble_eq_true rfl, Nat.le_of_ble_eq_true rfl⟩ ⟨Nat.zero_le _, Nat.zero_le _⟩ (fun _ _ h => by simp at h) hK hN rfl (Nat.le_of_ble_eq_true rfl) dX4_heatIn_5 ?_
  refine lv_if_ne (tgt := 13) hx hb dX4_heatIn_8 (by decide) (fun c_1 => ?_) (fun c_1 => ?_)
  · have c_1 : 6 ≤ (nI h) ∧ (nI h) ≤ 18 := sn_b_nz.mp c_1
    refine lv_bipush (v := 45) hx hb dX4_heatIn_13 (by decide) ?_
    refine lv_iload_n hx hb dX4_heatIn_15 rfl (lv_at hl 0 rfl) ?_
    refine lv_imul hx hb dX4_heatIn_16 ?_
    refine sn_top (sn_nmul (a := 45) (b := i) rfl rfl) ?_
    refine lv_bipush (v := 15) hx hb dX4_heatIn_17 (by decide) ?_
    refine lv_iload_n hx hb dX4_heatIn_19 rfl (lv_at hl 1 rfl) ?_
    refine lv_imul hx hb dX4_heatIn_20 ?_
    refine sn_top (sn_nmul (a := 15) (b := h) rfl rfl) ?_
    refine lv_isub hx hb dX4_heatIn_21 ?_
    refine lv_istore_n (lv' := [(2, .int ((nI (45 * i)) - (nI (15 * h)))), (0, .int (nI i)), (1, .int (nI h))]) hx hb dX4_heatIn_22 rfl hl (by decide) rfl (fun ls hl => ?_)
    refine lv_iload_n hx hb dX4_heatIn_23 rfl (lv_at hl 0 rfl) ?_
    refine lv_if_ge (tgt := 32) hx hb dX4_heatIn_24 (by decide) (fun c_2 => ?_) (fun c_2 => ?_)
    · refine lv_iload_n hx hb dX4_heatIn_32 rfl (lv_at hl 0 rfl) ?_
      refine lv_istore_n (lv' := [(2, .int ((nI (45 * i)) - (nI (15 * h)))), (0, .int (nI i)), (1, .int (nI h))]) hx hb dX4_heatIn_33 rfl hl (by decide) rfl (fun ls hl => ?_)
      refine lv_iload_n hx hb dX4_heatIn_34 rfl (lv_at hl 0 rfl) ?_
      refine lv_sipush (v := 180) hx hb dX4_heatIn_35 (by decide) ?_
      refine lv_icmp_le (tgt := 49) hx hb dX4_heatIn_38 (by decide) (fun c_3 => ?_) (fun c_3 => ?_)
      · refine lv_iload_n hx hb dX4_heatIn_49 rfl (lv_at hl 0 rfl) ?_
        refine lv_istore_n (lv' := [(2, .int ((nI (45 * i)) - (nI (15 * h)))), (0, .int (nI i)), (1, .int (nI h))]) hx hb dX4_heatIn_50 rfl hl (by decide) rfl (fun ls hl => ?_)
        refine lv_iload_n hx hb dX4_heatIn_51 rfl (lv_at hl 0 rfl) ?_
        refine lv_bipush (v := 90) hx hb dX4_heatIn_52 (by decide) ?_
        refine lv_icmp_le (tgt := 61) hx hb dX4_heatIn_54 (by decide) (fun c_4 => ?_) (fun c_4 => ?_)
        · refine lv_bipush (v := 90) hx hb dX4_heatIn_61 (by decide) ?_
          refine lv_iload_n hx hb dX4_heatIn_63 rfl (lv_at hl 0 rfl) ?_
          refine lv_isub hx hb dX4_heatIn_64 ?_
          exact sn_ret hx hb hr hlk dX4_heatIn_65 ((show ∀ i, i < 8 → ∀ h, h < 24 → ((6 ≤ (nI h) ∧ (nI h) ≤ 18) ∧ (0 ≤ ((nI (45 * i)) - (nI (15 * h)))) ∧ (((nI (45 * i)) - (nI (15 * h))) ≤ 180) ∧ (((nI (45 * i)) - (nI (15 * h))) ≤ 90)) → (90 - ((nI (45 * i)) - (nI (15 * h)))) = nI (sn_hv i h) by decide +kernel) i hi h hh ⟨c_1, c_2, c_3, c_4⟩)
        · refine lv_iconst (v := 0) hx hb dX4_heatIn_57 (by decide) ?_
          refine lv_goto (tgt := 65) hx hb dX4_heatIn_58 (by decide) ?_
          exact sn_ret hx hb hr hlk dX4_heatIn_65 ((show ∀ i, i < 8 → ∀ h, h < 24 → ((6 ≤ (nI h) ∧ (nI h) ≤ 18) ∧ (0 ≤ ((nI (45 * i)) - (nI (15 * h)))) ∧ (((nI (45 * i)) - (nI (15 * h))) ≤ 180) ∧ (¬ ((nI (45 * i)) - (nI (15 * h))) ≤ 90)) → 0 = nI (sn_hv i h) by decide +kernel) i hi h hh ⟨c_1, c_2, c_3, c_4⟩)
      · refine lv_sipush (v := 360) hx hb dX4_heatIn_41 (by decide) ?_
        refine lv_iload_n hx hb dX4_heatIn_44 rfl (lv_at hl 0 rfl) ?_
        refine lv_isub hx hb dX4_heatIn_45 ?_
        refine lv_goto (tgt := 50) hx hb dX4_heatIn_46 (by decide) ?_
        refine lv_istore_n (lv' := [(2, .int (360 - ((nI (45 * i)) - (nI (15 * h))))), (0, .int (nI i)), (1, .int (nI h))]) hx hb dX4_heatIn_50 rfl hl (by decide) rfl (fun ls hl => ?_)
        refine lv_iload_n hx hb dX4_heatIn_51 rfl (lv_at hl 0 rfl) ?_
        refine lv_bipush (v := 90) hx hb dX4_heatIn_52 (by decide) ?_
        refine lv_icmp_le (tgt := 61) hx hb dX4_heatIn_54 (by decide) (fun c_5 => ?_) (fun c_5 => ?_)
        · refine lv_bipush (v := 90) hx hb dX4_heatIn_61 (by decide) ?_
          refine lv_iload_n hx hb dX4_heatIn_63 rfl (lv_at hl 0 rfl) ?_
          refine lv_isub hx hb dX4_heatIn_64 ?_
          exact sn_ret hx hb hr hlk dX4_heatIn_65 ((show ∀ i, i < 8 → ∀ h, h < 24 → ((6 ≤ (nI h) ∧ (nI h) ≤ 18) ∧ (0 ≤ ((nI (45 * i)) - (nI (15 * h)))) ∧ (¬ ((nI (45 * i)) - (nI (15 * h))) ≤ 180) ∧ ((360 - ((nI (45 * i)) - (nI (15 * h)))) ≤ 90)) → (90 - (360 - ((nI (45 * i)) - (nI (15 * h))))) = nI (sn_hv i h) by decide +kernel) i hi h hh ⟨c_1, c_2, c_3, c_5⟩)
        · refine lv_iconst (v := 0) hx hb dX4_heatIn_57 (by decide) ?_
          refine lv_goto (tgt := 65) hx hb dX4_heatIn_58 (by decide) ?_
          exact sn_ret hx hb hr hlk dX4_heatIn_65 ((show ∀ i, i < 8 → ∀ h, h < 24 → ((6 ≤ (nI h) ∧ (nI h) ≤ 18) ∧ (0 ≤ ((nI (45 * i)) - (nI (15 * h)))) ∧ (¬ ((nI (45 * i)) - (nI (15 * h))) ≤ 180) ∧ (¬ (360 - ((nI (45 * i)) - (nI (15 * h)))) ≤ 90)) → 0 = nI (sn_hv i h) by decide +kernel) i hi h hh ⟨c_1, c_2, c_3, c_5⟩)
    · refine lv_iload_n hx hb dX4_heatIn_27 rfl (lv_at hl 0 rfl) ?_
      refine lv_ineg hx hb dX4_heatIn_28 ?_
      refine lv_goto (tgt := 33) hx hb dX4_heatIn_29 (by decide) ?_
      refine lv_istore_n (lv' := [(2, .int (-((nI (45 * i)) - (nI (15 * h))))), (0, .int (nI i)), (1, .int (nI h))]) hx hb dX4_heatIn_33 rfl hl (by decide) rfl (fun ls hl => ?_)
      refine lv_iload_n hx hb dX4_heatIn_34 rfl (lv_at hl 0 rfl) ?_
      refine lv_sipush (v := 180) hx hb dX4_heatIn_35 (by decide) ?_
      refine lv_icmp_le (tgt := 49) hx hb dX4_heatIn_38 (by decide) (fun c_6 => ?_) (fun c_6 => ?_)
      · refine lv_iload_n hx hb dX4_heatIn_49 rfl (lv_at hl 0 rfl) ?_
        refine lv_istore_n (lv' := [(2, .int (-((nI (45 * i)) - (nI (15 * h))))), (0, .int (nI i)), (1, .int (nI h))]) hx hb dX4_heatIn_50 rfl hl (by decide) rfl (fun ls hl => ?_)
        refine lv_iload_n hx hb dX4_heatIn_51 rfl (lv_at hl 0 rfl) ?_
        refine lv_bipush (v := 90) hx hb dX4_heatIn_52 (by decide) ?_
        refine lv_icmp_le (tgt := 61) hx hb dX4_heatIn_54 (by decide) (fun c_7 => ?_) (fun c_7 => ?_)
        · refine lv_bipush (v := 90) hx hb dX4_heatIn_61 (by decide) ?_
          refine lv_iload_n hx hb dX4_heatIn_63 rfl (lv_at hl 0 rfl) ?_
          refine lv_isub hx hb dX4_heatIn_64 ?_
          exact sn_ret hx hb hr hlk dX4_heatIn_65 ((show ∀ i, i < 8 → ∀ h, h < 24 → ((6 ≤ (nI h) ∧ (nI h) ≤ 18) ∧ (¬ 0 ≤ ((nI (45 * i)) - (nI (15 * h)))) ∧ ((-((nI (45 * i)) - (nI (15 * h)))) ≤ 180) ∧ ((-((nI (45 * i)) - (nI (15 * h)))) ≤ 90)) → (90 - (-((nI (45 * i)) - (nI (15 * h))))) = nI (sn_hv i h) by decide +kernel) i hi h hh ⟨c_1, c_2, c_6, c_7⟩)
        · refine lv_iconst (v := 0) hx hb dX4_heatIn_57 (by decide) ?_
          refine lv_goto (tgt := 65) hx hb dX4_heatIn_58 (by decide) ?_
          exact sn_ret hx hb hr hlk dX4_heatIn_65 ((show ∀ i, i < 8 → ∀ h, h < 24 → ((6 ≤ (nI h) ∧ (nI h) ≤ 18) ∧ (¬ 0 ≤ ((nI (45 * i)) - (nI (15 * h)))) ∧ ((-((nI (45 * i)) - (nI (15 * h)))) ≤ 180) ∧ (¬ (-((nI (45 * i)) - (nI (15 * h)))) ≤ 90)) → 0 = nI (sn_hv i h) by decide +kernel) i hi h hh ⟨c_1, c_2, c_6, c_7⟩)
      · refine lv_sipush (v := 360) hx hb dX4_heatIn_41 (by decide) ?_
        refine lv_iload_n hx hb dX4_heatIn_44 rfl (lv_at hl 0 rfl) ?_
        refine lv_isub hx hb dX4_heatIn_45 ?_
        refine lv_goto (tgt := 50) hx hb dX4_heatIn_46 (by decide) ?_
        refine lv_istore_n (lv' := [(2, .int (360 - (-((nI (45 * i)) - (nI (15 * h)))))), (0, .int (nI i)), (1, .int (nI h))]) hx hb dX4_heatIn_50 rfl hl (by decide) rfl (fun ls hl => ?_)
        refine lv_iload_n hx hb dX4_heatIn_51 rfl (lv_at hl 0 rfl) ?_
        refine lv_bipush (v := 90) hx hb dX4_heatIn_52 (by decide) ?_
        refine lv_icmp_le (tgt := 61) hx hb dX4_heatIn_54 (by decide) (fun c_8 => ?_) (fun c_8 => ?_)
        · refine lv_bipush (v := 90) hx hb dX4_heatIn_61 (by decide) ?_
          refine lv_iload_n hx hb dX4_heatIn_63 rfl (lv_at hl 0 rfl) ?_
          refine lv_isub hx hb dX4_heatIn_64 ?_
          exact sn_ret hx hb hr hlk dX4_heatIn_65 ((show ∀ i, i < 8 → ∀ h, h < 24 → ((6 ≤ (nI h) ∧ (nI h) ≤ 18) ∧ (¬ 0 ≤ ((nI (45 * i)) - (nI (15 * h)))) ∧ (¬ (-((nI (45 * i)) - (nI (15 * h)))) ≤ 180) ∧ ((360 - (-((nI (45 * i)) - (nI (15 * h))))) ≤ 90)) → (90 - (360 - (-((nI (45 * i)) - (nI (15 * h)))))) = nI (sn_hv i h) by decide +kernel) i hi h hh ⟨c_1, c_2, c_6, c_8⟩)
        · refine lv_iconst (v := 0) hx hb dX4_heatIn_57 (by decide) ?_
          refine lv_goto (tgt := 65) hx hb dX4_heatIn_58 (by decide) ?_
          exact sn_ret hx hb hr hlk dX4_heatIn_65 ((show ∀ i, i < 8 → ∀ h, h < 24 → ((6 ≤ (nI h) ∧ (nI h) ≤ 18) ∧ (¬ 0 ≤ ((nI (45 * i)) - (nI (15 * h)))) ∧ (¬ (-((nI (45 * i)) - (nI (15 * h)))) ≤ 180) ∧ (¬ (360 - (-((nI (45 * i)) - (nI (15 * h))))) ≤ 90)) → 0 = nI (sn_hv i h) by decide +kernel) i hi h hh ⟨c_1, c_2, c_6, c_8⟩)
  · have c_1 : ¬ (6 ≤ (nI h) ∧ (nI h) ≤ 18) := sn_b_z.mp c_1
    refine lv_iconst (v := 0) hx hb dX4_heatIn_11 (by decide) ?_
    exact sn_ret hx hb hr hlk dX4_heatIn_12 (sn_hv0 h hh c_1 i hi)
set_option maxRecDepth 100000 in
set_option maxHeartbeats 4000000 in
theorem ct_X1_heatUpTo (l : Launch) (D : va_G) (tys : List (ClassId × FieldType)) (w : va_W) (i h : Nat) (hi : i < 8) (hh : h < 24) : sn_Rd l yX1_heatUpTo wsX1_heatUpTo 2 [.int (nI i), .int (nI h)] D tys (w) (nI (sn_hs i (h + 1))) := by
  refine sn_rd (cc := cX1_heatUpTo) (maxL := 4) (ret := (some .int)) (by decide) rfl (Nat.le_of_ble_eq_true rfl) ?_
  intro p e s m below meth c hx hb hml hr hlk hts hown hP hK hN ls hl
  have hC : CallFix p m c cX1_heatUpTo 4 s [.int (nI i), .int (nI h)].toArray wsX1_heatUpTo RX1 := ⟨hx, hb, hml, hown, hts⟩
  have hl : lv_has ls 4 [(0, .int (nI i)), (1, .int (nI h))] := hl
  refine lv_iconst (v := 0) hx hb dX1_heatUpTo_0 (by decide) ?_
  refine lv_istore_n (lv' := [(2, .int 0), (0, .int (nI i)), (1, .int (nI h))]) hx hb dX1_heatUpTo_1 rfl hl (by decide) rfl (fun ls hl => ?_)
  refine lv_iconst (v := 0) hx hb dX1_heatUpTo_2 (by decide) ?_
  refine lv_istore_n (lv' := [(3, .int 0), (2, .int 0), (0, .int (nI i)), (1, .int (nI h))]) hx hb dX1_heatUpTo_3 rfl hl (by decide) rfl (fun ls hl => ?_)
  have loop : ∀ (fu : Nat) (k : Nat), (k ≤ h + 1) → h + 1 - k < fu → ∀ ls : Array Slot, lv_has ls 4 [(0, .int (nI i)), (1, .int (nI h)), (2, .int (nI (sn_hs i k))), (3, .int (nI k))] → W p l e (sn_rm 2 0 0) s m [.int (nI i), .int (nI h)].toArray below meth c s.heap [] 0 0 (MQ below (vp_Si (fun r_ => r_ = (nI (sn_hs i (h + 1))))) [.int (nI i), .int (nI h)].toArray s 0 0 (fun _ => False)) (F0 m 4 ls []) := by
    intro fu
    induction fu with
    | zero => intro k h1 hm; exact absurd hm (Nat.not_lt_zero _)
    | succ fu ih_loop =>
      intro k h1 hm ls hl
      refine lv_iload_n hx hb dX1_heatUpTo_4 rfl (lv_at hl 3 rfl) ?_
      refine lv_iload_n hx hb dX1_heatUpTo_5 rfl (lv_at hl 1 rfl) ?_
      refine lv_icmp_gt (tgt := 23) hx hb dX1_heatUpTo_6 (by decide) (fun c_1 => ?_) (fun c_1 => ?_)
      · have c_1 := (sn_cgtj (a := k) (b := h) rfl rfl (by omega) (by omega)).mp c_1
        refine lv_iload_n hx hb dX1_heatUpTo_23 rfl (lv_at hl 2 rfl) ?_
        exact sn_ret hx hb hr hlk dX1_heatUpTo_24 (by rw [show k = h + 1 by omega])
      · have c_1 := (sn_cgtf (a := k) (b := h) rfl rfl (by omega) (by omega)).mp c_1
        refine lv_iload_n hx hb dX1_heatUpTo_9 rfl (lv_at hl 2 rfl) ?_
        refine lv_iload_n hx hb dX1_heatUpTo_10 rfl (lv_at hl 0 rfl) ?_
        refine lv_iload_n hx hb dX1_heatUpTo_11 rfl (lv_at hl 3 rfl) ?_
        refine sn_cS 2 hC hl (ct_X1_heatIn l D _ [] i k (by omega) (by omega)) gX1_heatUpTo_X1_heatIn rfl (by decide +kernel) rfl ⟨Nat.le_of_ble_eq_true rfl, Nat.le_of_ble_eq_true rfl⟩ ⟨Nat.zero_le _, Nat.zero_le _⟩ (fun _ _ h => by simp at h) hK hN rfl (Nat.le_of_ble_eq_true rfl) dX1_heatUpTo_12 ?_
        refine lv_iadd hx hb dX1_heatUpTo_15 ?_
        refine sn_top (sn_nadd (a := sn_hs i k) (b := sn_hv i k) rfl rfl) ?_
        refine lv_istore_n (lv' := [(2, .int (nI (sn_hs i k + (sn_hv i k)))), (0, .int (nI i)), (1, .int (nI h)), (3, .int (nI k))]) hx hb dX1_heatUpTo_16 rfl hl (by decide) rfl (fun ls hl => ?_)
        refine lv_iinc (v := nI (k + 1)) (lv' := [(3, .int (nI (k + 1))), (2, .int (nI (sn_hs i k + (sn_hv i k)))), (0, .int (nI i)), (1, .int (nI h))]) hx hb dX1_heatUpTo_17 hl (k := 3) rfl (sn_inc _) (by decide) rfl (fun ls hl => ?_)
        refine lv_goto (tgt := 4) hx hb dX1_heatUpTo_20 (by decide) ?_
        exact ih_loop (k + 1) (by omega) (by omega) ls (lv_sub hl [2, 3, 1, 0] rfl)
  exact loop ((h + 1 - 0) + 1) 0 (Nat.zero_le _) (by omega) ls (lv_sub hl [2, 3, 1, 0] rfl)
set_option maxRecDepth 100000 in
set_option maxHeartbeats 4000000 in
theorem ct_X4_heatTill (l : Launch) (D : va_G) (tys : List (ClassId × FieldType)) (w : va_W) (i h : Nat) (hi : i < 8) (hh : h < 24) : sn_Rd l yX4_heatTill wsX4_heatTill 2 [.int (nI i), .int (nI h)] D tys (w) (nI (sn_hs i (h + 1))) := by
  refine sn_rd (cc := cX4_heatTill) (maxL := 4) (ret := (some .int)) (by decide) rfl (Nat.le_of_ble_eq_true rfl) ?_
  intro p e s m below meth c hx hb hml hr hlk hts hown hP hK hN ls hl
  have hC : CallFix p m c cX4_heatTill 4 s [.int (nI i), .int (nI h)].toArray wsX4_heatTill RX4 := ⟨hx, hb, hml, hown, hts⟩
  have hl : lv_has ls 4 [(0, .int (nI i)), (1, .int (nI h))] := hl
  refine lv_iconst (v := 0) hx hb dX4_heatTill_0 (by decide) ?_
  refine lv_istore_n (lv' := [(2, .int 0), (0, .int (nI i)), (1, .int (nI h))]) hx hb dX4_heatTill_1 rfl hl (by decide) rfl (fun ls hl => ?_)
  refine lv_iconst (v := 0) hx hb dX4_heatTill_2 (by decide) ?_
  refine lv_istore_n (lv' := [(3, .int 0), (2, .int 0), (0, .int (nI i)), (1, .int (nI h))]) hx hb dX4_heatTill_3 rfl hl (by decide) rfl (fun ls hl => ?_)
  have loop : ∀ (fu : Nat) (k : Nat), (k ≤ h + 1) → h + 1 - k < fu → ∀ ls : Array Slot, lv_has ls 4 [(0, .int (nI i)), (1, .int (nI h)), (2, .int (nI (sn_hs i k))), (3, .int (nI k))] → W p l e (sn_rm 2 0 0) s m [.int (nI i), .int (nI h)].toArray below meth c s.heap [] 0 0 (MQ below (vp_Si (fun r_ => r_ = (nI (sn_hs i (h + 1))))) [.int (nI i), .int (nI h)].toArray s 0 0 (fun _ => False)) (F0 m 4 ls []) := by
    intro fu
    induction fu with
    | zero => intro k h1 hm; exact absurd hm (Nat.not_lt_zero _)
    | succ fu ih_loop =>
      intro k h1 hm ls hl
      refine lv_iload_n hx hb dX4_heatTill_4 rfl (lv_at hl 3 rfl) ?_
      refine lv_iload_n hx hb dX4_heatTill_5 rfl (lv_at hl 1 rfl) ?_
      refine lv_icmp_gt (tgt := 23) hx hb dX4_heatTill_6 (by decide) (fun c_1 => ?_) (fun c_1 => ?_)
      · have c_1 := (sn_cgtj (a := k) (b := h) rfl rfl (by omega) (by omega)).mp c_1
        refine lv_iload_n hx hb dX4_heatTill_23 rfl (lv_at hl 2 rfl) ?_
        exact sn_ret hx hb hr hlk dX4_heatTill_24 (by rw [show k = h + 1 by omega])
      · have c_1 := (sn_cgtf (a := k) (b := h) rfl rfl (by omega) (by omega)).mp c_1
        refine lv_iload_n hx hb dX4_heatTill_9 rfl (lv_at hl 2 rfl) ?_
        refine lv_iload_n hx hb dX4_heatTill_10 rfl (lv_at hl 0 rfl) ?_
        refine lv_iload_n hx hb dX4_heatTill_11 rfl (lv_at hl 3 rfl) ?_
        refine sn_cS 2 hC hl (ct_X4_heatIn l D _ [] i k (by omega) (by omega)) gX4_heatTill_X4_heatIn rfl (by decide +kernel) rfl ⟨Nat.le_of_ble_eq_true rfl, Nat.le_of_ble_eq_true rfl⟩ ⟨Nat.zero_le _, Nat.zero_le _⟩ (fun _ _ h => by simp at h) hK hN rfl (Nat.le_of_ble_eq_true rfl) dX4_heatTill_12 ?_
        refine lv_iadd hx hb dX4_heatTill_15 ?_
        refine sn_top (sn_nadd (a := sn_hs i k) (b := sn_hv i k) rfl rfl) ?_
        refine lv_istore_n (lv' := [(2, .int (nI (sn_hs i k + (sn_hv i k)))), (0, .int (nI i)), (1, .int (nI h)), (3, .int (nI k))]) hx hb dX4_heatTill_16 rfl hl (by decide) rfl (fun ls hl => ?_)
        refine lv_iinc (v := nI (k + 1)) (lv' := [(3, .int (nI (k + 1))), (2, .int (nI (sn_hs i k + (sn_hv i k)))), (0, .int (nI i)), (1, .int (nI h))]) hx hb dX4_heatTill_17 hl (k := 3) rfl (sn_inc _) (by decide) rfl (fun ls hl => ?_)
        refine lv_goto (tgt := 4) hx hb dX4_heatTill_20 (by decide) ?_
        exact ih_loop (k + 1) (by omega) (by omega) ls (lv_sub hl [2, 3, 1, 0] rfl)
  exact loop ((h + 1 - 0) + 1) 0 (Nat.zero_le _) (by omega) ls (lv_sub hl [2, 3, 1, 0] rfl)
set_option maxRecDepth 100000 in
set_option maxHeartbeats 4000000 in
theorem ct_X1_warmHour (l : Launch) (D : va_G) (tys : List (ClassId × FieldType)) (w : va_W) (i t : Nat) (hi : i < 8) (ht : t ≤ 999) : sn_Rd l yX1_warmHour wsX1_warmHour 2 [.int (nI i), .int (nI t)] D tys (w) (sn_e24 (sn_wh i t)) := by
  refine sn_rd (cc := cX1_warmHour) (maxL := 4) (ret := (some .int)) (by decide) rfl (Nat.le_of_ble_eq_true rfl) ?_
  intro p e s m below meth c hx hb hml hr hlk hts hown hP hK hN ls hl
  have hC : CallFix p m c cX1_warmHour 4 s [.int (nI i), .int (nI t)].toArray wsX1_warmHour RX1 := ⟨hx, hb, hml, hown, hts⟩
  have hl : lv_has ls 4 [(0, .int (nI i)), (1, .int (nI t))] := hl
  refine lv_iconst (v := 0) hx hb dX1_warmHour_0 (by decide) ?_
  refine lv_istore_n (lv' := [(2, .int 0), (0, .int (nI i)), (1, .int (nI t))]) hx hb dX1_warmHour_1 rfl hl (by decide) rfl (fun ls hl => ?_)
  refine lv_iconst (v := 0) hx hb dX1_warmHour_2 (by decide) ?_
  refine lv_istore_n (lv' := [(3, .int 0), (2, .int 0), (0, .int (nI i)), (1, .int (nI t))]) hx hb dX1_warmHour_3 rfl hl (by decide) rfl (fun ls hl => ?_)
  have loop : ∀ (fu : Nat) (k : Nat), (k ≤ 24) → (sn_whA i t (24 - k) k = sn_wh i t) → 24 - k < fu → ∀ ls : Array Slot, lv_has ls 4 [(0, .int (nI i)), (1, .int (nI t)), (2, .int (nI (sn_hs i k))), (3, .int (nI k))] → W p l e (sn_rm 2 0 0) s m [.int (nI i), .int (nI t)].toArray below meth c s.heap [] 0 0 (MQ below (vp_Si (fun r_ => r_ = (sn_e24 (sn_wh i t)))) [.int (nI i), .int (nI t)].toArray s 0 0 (fun _ => False)) (F0 m 4 ls []) := by
    intro fu
    induction fu with
    | zero => intro k h1 hq hm; exact absurd hm (Nat.not_lt_zero _)
    | succ fu ih_loop =>
      intro k h1 hq hm ls hl
      refine lv_iload_n hx hb dX1_warmHour_4 rfl (lv_at hl 3 rfl) ?_
      refine lv_bipush (v := 24) hx hb dX1_warmHour_5 (by decide) ?_
      refine lv_icmp_ge (tgt := 31) hx hb dX1_warmHour_7 (by decide) (fun c_1 => ?_) (fun c_1 => ?_)
      · have c_1 := (sn_cgej (a := k) (b := 24) rfl rfl (by omega) (by omega)).mp c_1
        refine lv_bipush (v := (-6)) hx hb dX1_warmHour_31 (by decide) ?_
        exact sn_ret hx hb hr hlk dX1_warmHour_33 (by rw [← hq, show k = 24 by omega]; rfl)
      · have c_1 := (sn_cgef (a := k) (b := 24) rfl rfl (by omega) (by omega)).mp c_1
        refine lv_iload_n hx hb dX1_warmHour_10 rfl (lv_at hl 2 rfl) ?_
        refine lv_iload_n hx hb dX1_warmHour_11 rfl (lv_at hl 0 rfl) ?_
        refine lv_iload_n hx hb dX1_warmHour_12 rfl (lv_at hl 3 rfl) ?_
        refine sn_cS 2 hC hl (ct_X1_heatIn l D _ [] i k (by omega) (by omega)) gX1_warmHour_X1_heatIn rfl (by decide +kernel) rfl ⟨Nat.le_of_ble_eq_true rfl, Nat.le_of_ble_eq_true rfl⟩ ⟨Nat.zero_le _, Nat.zero_le _⟩ (fun _ _ h => by simp at h) hK hN rfl (Nat.le_of_ble_eq_true rfl) dX1_warmHour_13 ?_
        refine lv_iadd hx hb dX1_warmHour_16 ?_
        refine sn_top (sn_nadd (a := sn_hs i k) (b := sn_hv i k) rfl rfl) ?_
        refine sn_top (y := nI (sn_hs i (k + 1))) (rfl) ?_
        refine lv_istore_n (lv' := [(2, .int (nI (sn_hs i (k + 1)))), (0, .int (nI i)), (1, .int (nI t)), (3, .int (nI k))]) hx hb dX1_warmHour_17 rfl hl (by decide) rfl (fun ls hl => ?_)
        refine lv_iload_n hx hb dX1_warmHour_18 rfl (lv_at hl 0 rfl) ?_
        refine lv_iload_n hx hb dX1_warmHour_19 rfl (lv_at hl 2 rfl) ?_
        have hsb := sn_hs_le i (k + 1)
        refine lv_icmp_lt (tgt := 25) hx hb dX1_warmHour_20 (by decide) (fun c_2 => ?_) (fun c_2 => ?_)
        · have c_2 := (sn_cltj (a := sn_hs i (k + 1)) (b := t) rfl rfl (by omega) (by omega)).mp c_2
          refine lv_iinc (v := nI (k + 1)) (lv' := [(3, .int (nI (k + 1))), (2, .int (nI (sn_hs i (k + 1)))), (0, .int (nI i)), (1, .int (nI t))]) hx hb dX1_warmHour_25 hl (k := 3) rfl (sn_inc _) (by decide) rfl (fun ls hl => ?_)
          refine lv_goto (tgt := 4) hx hb dX1_warmHour_28 (by decide) ?_
          exact ih_loop (k + 1) (by omega) ((sn_whA_miss (by omega) (by omega)).symm.trans hq) (by omega) ls (lv_sub hl [2, 3, 1, 0] rfl)
        · have c_2 := (sn_cltf (a := sn_hs i (k + 1)) (b := t) rfl rfl (by omega) (by omega)).mp c_2
          refine lv_iload_n hx hb dX1_warmHour_23 rfl (lv_at hl 3 rfl) ?_
          exact sn_ret hx hb hr hlk dX1_warmHour_24 (by rw [← hq, sn_whA_hit (by omega) (by omega)]; exact (if_pos (by omega)).symm)
  exact loop ((24 - 0) + 1) 0 (Nat.zero_le _) rfl (by omega) ls (lv_sub hl [2, 3, 1, 0] rfl)
set_option maxRecDepth 100000 in
set_option maxHeartbeats 4000000 in
theorem ct_X4_warmHour (l : Launch) (D : va_G) (tys : List (ClassId × FieldType)) (w : va_W) (i t : Nat) (hi : i < 8) (ht : t ≤ 999) : sn_Rd l yX4_warmHour wsX4_warmHour 3 [.int (nI i), .int (nI t)] D tys (w) (sn_e24 (sn_wh i t)) := by
  refine sn_rd (cc := cX4_warmHour) (maxL := 3) (ret := (some .int)) (by decide) rfl (Nat.le_of_ble_eq_true rfl) ?_
  intro p e s m below meth c hx hb hml hr hlk hts hown hP hK hN ls hl
  have hC : CallFix p m c cX4_warmHour 3 s [.int (nI i), .int (nI t)].toArray wsX4_warmHour RX4 := ⟨hx, hb, hml, hown, hts⟩
  have hl : lv_has ls 3 [(0, .int (nI i)), (1, .int (nI t))] := hl
  refine lv_iconst (v := 0) hx hb dX4_warmHour_0 (by decide) ?_
  refine lv_istore_n (lv' := [(2, .int 0), (0, .int (nI i)), (1, .int (nI t))]) hx hb dX4_warmHour_1 rfl hl (by decide) rfl (fun ls hl => ?_)
  have loop : ∀ (fu : Nat) (k : Nat), (k ≤ 24) → (sn_whA i t (24 - k) k = sn_wh i t) → 24 - k < fu → ∀ ls : Array Slot, lv_has ls 3 [(0, .int (nI i)), (1, .int (nI t)), (2, .int (nI k))] → W p l e (sn_rm 3 0 0) s m [.int (nI i), .int (nI t)].toArray below meth c s.heap [] 0 0 (MQ below (vp_Si (fun r_ => r_ = (sn_e24 (sn_wh i t)))) [.int (nI i), .int (nI t)].toArray s 0 0 (fun _ => False)) (F0 m 2 ls []) := by
    intro fu
    induction fu with
    | zero => intro k h1 hq hm; exact absurd hm (Nat.not_lt_zero _)
    | succ fu ih_loop =>
      intro k h1 hq hm ls hl
      refine lv_iload_n hx hb dX4_warmHour_2 rfl (lv_at hl 2 rfl) ?_
      refine lv_bipush (v := 24) hx hb dX4_warmHour_3 (by decide) ?_
      refine lv_icmp_ge (tgt := 25) hx hb dX4_warmHour_5 (by decide) (fun c_1 => ?_) (fun c_1 => ?_)
      · have c_1 := (sn_cgej (a := k) (b := 24) rfl rfl (by omega) (by omega)).mp c_1
        refine lv_bipush (v := (-6)) hx hb dX4_warmHour_25 (by decide) ?_
        exact sn_ret hx hb hr hlk dX4_warmHour_27 (by rw [← hq, show k = 24 by omega]; rfl)
      · have c_1 := (sn_cgef (a := k) (b := 24) rfl rfl (by omega) (by omega)).mp c_1
        refine lv_iload_n hx hb dX4_warmHour_8 rfl (lv_at hl 0 rfl) ?_
        refine lv_iload_n hx hb dX4_warmHour_9 rfl (lv_at hl 2 rfl) ?_
        refine sn_cS 2 hC hl (ct_X4_heatTill l D _ [] i k (by omega) (by omega)) gX4_warmHour_X4_heatTill rfl (by decide +kernel) rfl ⟨Nat.le_of_ble_eq_true rfl, Nat.le_of_ble_eq_true rfl⟩ ⟨Nat.zero_le _, Nat.zero_le _⟩ (fun _ _ h => by simp at h) hK hN rfl (Nat.le_of_ble_eq_true rfl) dX4_warmHour_10 ?_
        refine lv_iload_n hx hb dX4_warmHour_13 rfl (lv_at hl 1 rfl) ?_
        have hsb := sn_hs_le i (k + 1)
        refine lv_icmp_lt (tgt := 19) hx hb dX4_warmHour_14 (by decide) (fun c_2 => ?_) (fun c_2 => ?_)
        · have c_2 := (sn_cltj (a := sn_hs i (k + 1)) (b := t) rfl rfl (by omega) (by omega)).mp c_2
          refine lv_iinc (v := nI (k + 1)) (lv' := [(2, .int (nI (k + 1))), (0, .int (nI i)), (1, .int (nI t))]) hx hb dX4_warmHour_19 hl (k := 2) rfl (sn_inc _) (by decide) rfl (fun ls hl => ?_)
          refine lv_goto (tgt := 2) hx hb dX4_warmHour_22 (by decide) ?_
          exact ih_loop (k + 1) (by omega) ((sn_whA_miss (by omega) (by omega)).symm.trans hq) (by omega) ls (lv_sub hl [1, 2, 0] rfl)
        · have c_2 := (sn_cltf (a := sn_hs i (k + 1)) (b := t) rfl rfl (by omega) (by omega)).mp c_2
          refine lv_iload_n hx hb dX4_warmHour_17 rfl (lv_at hl 2 rfl) ?_
          exact sn_ret hx hb hr hlk dX4_warmHour_18 (by rw [← hq, sn_whA_hit (by omega) (by omega)]; exact (if_pos (by omega)).symm)
  exact loop ((24 - 0) + 1) 0 (Nat.zero_le _) rfl (by omega) ls (lv_sub hl [1, 2, 0] rfl)
set_option maxRecDepth 100000 in
set_option maxHeartbeats 4000000 in
theorem ct_X1_warmSides (l : Launch) (D : va_G) (tys : List (ClassId × FieldType)) (w : va_W) (t : Nat) (ht : t ≤ 999) : sn_Rd l yX1_warmSides wsX1_warmSides 3 [.int (nI t)] D tys (w) (nI (sn_ws t 8)) := by
  refine sn_rd (cc := cX1_warmSides) (maxL := 3) (ret := (some .int)) (by decide) rfl (Nat.le_of_ble_eq_true rfl) ?_
  intro p e s m below meth c hx hb hml hr hlk hts hown hP hK hN ls hl
  have hC : CallFix p m c cX1_warmSides 3 s [.int (nI t)].toArray wsX1_warmSides RX1 := ⟨hx, hb, hml, hown, hts⟩
  have hl : lv_has ls 3 [(0, .int (nI t))] := hl
  refine lv_iconst (v := 0) hx hb dX1_warmSides_0 (by decide) ?_
  refine lv_istore_n (lv' := [(1, .int 0), (0, .int (nI t))]) hx hb dX1_warmSides_1 rfl hl (by decide) rfl (fun ls hl => ?_)
  refine lv_iconst (v := 0) hx hb dX1_warmSides_2 (by decide) ?_
  refine lv_istore_n (lv' := [(2, .int 0), (1, .int 0), (0, .int (nI t))]) hx hb dX1_warmSides_3 rfl hl (by decide) rfl (fun ls hl => ?_)
  have loop : ∀ (fu : Nat) (k : Nat), (k ≤ 8) → 8 - k < fu → ∀ ls : Array Slot, lv_has ls 3 [(0, .int (nI t)), (1, .int (nI (sn_ws t k))), (2, .int (nI k))] → W p l e (sn_rm 3 0 0) s m [.int (nI t)].toArray below meth c s.heap [] 0 0 (MQ below (vp_Si (fun r_ => r_ = (nI (sn_ws t 8)))) [.int (nI t)].toArray s 0 0 (fun _ => False)) (F0 m 4 ls []) := by
    intro fu
    induction fu with
    | zero => intro k h1 hm; exact absurd hm (Nat.not_lt_zero _)
    | succ fu ih_loop =>
      intro k h1 hm ls hl
      refine lv_iload_n hx hb dX1_warmSides_4 rfl (lv_at hl 2 rfl) ?_
      refine lv_bipush (v := 8) hx hb dX1_warmSides_5 (by decide) ?_
      refine lv_icmp_ge (tgt := 29) hx hb dX1_warmSides_7 (by decide) (fun c_1 => ?_) (fun c_1 => ?_)
      · have c_1 := (sn_cgej (a := k) (b := 8) rfl rfl (by omega) (by omega)).mp c_1
        refine lv_iload_n hx hb dX1_warmSides_29 rfl (lv_at hl 1 rfl) ?_
        exact sn_ret hx hb hr hlk dX1_warmSides_30 (by rw [show k = 8 by omega])
      · have c_1 := (sn_cgef (a := k) (b := 8) rfl rfl (by omega) (by omega)).mp c_1
        refine lv_iload_n hx hb dX1_warmSides_10 rfl (lv_at hl 2 rfl) ?_
        refine lv_iload_n hx hb dX1_warmSides_11 rfl (lv_at hl 0 rfl) ?_
        refine sn_cS 2 hC hl (ct_X1_warmHour l D _ [] k t (by omega) (by omega)) gX1_warmSides_X1_warmHour rfl (by decide +kernel) rfl ⟨Nat.le_of_ble_eq_true rfl, Nat.le_of_ble_eq_true rfl⟩ ⟨Nat.zero_le _, Nat.zero_le _⟩ (fun _ _ h => by simp at h) hK hN rfl (Nat.le_of_ble_eq_true rfl) dX1_warmSides_12 ?_
        refine lv_bipush (v := (-6)) hx hb dX1_warmSides_15 (by decide) ?_
        refine lv_icmp_eq (tgt := 23) hx hb dX1_warmSides_17 (by decide) (fun c_2 => ?_) (fun c_2 => ?_)
        · have c_2 := sn_e24_none.mp c_2
          refine lv_iinc (v := nI (k + 1)) (lv' := [(2, .int (nI (k + 1))), (0, .int (nI t)), (1, .int (nI (sn_ws t k)))]) hx hb dX1_warmSides_23 hl (k := 2) rfl (sn_inc _) (by decide) rfl (fun ls hl => ?_)
          refine lv_goto (tgt := 4) hx hb dX1_warmSides_26 (by decide) ?_
          have hv : sn_ws t k = sn_ws t (k + 1) := by show _ = sn_ws t k + _; rw [if_neg c_2, Nat.add_zero]
          rw [hv] at hl
          exact ih_loop (k + 1) (by omega) (by omega) ls (lv_sub hl [1, 2, 0] rfl)
        · have c_2 : sn_wh k t < 24 := Decidable.of_not_not (fun z => c_2 (sn_e24_none.mpr z))
          refine lv_iinc (v := nI (sn_ws t k + 1)) (lv' := [(1, .int (nI (sn_ws t k + 1))), (0, .int (nI t)), (2, .int (nI k))]) hx hb dX1_warmSides_20 hl (k := 1) rfl (sn_inc _) (by decide) rfl (fun ls hl => ?_)
          refine lv_iinc (v := nI (k + 1)) (lv' := [(2, .int (nI (k + 1))), (1, .int (nI (sn_ws t k + 1))), (0, .int (nI t))]) hx hb dX1_warmSides_23 hl (k := 2) rfl (sn_inc _) (by decide) rfl (fun ls hl => ?_)
          refine lv_goto (tgt := 4) hx hb dX1_warmSides_26 (by decide) ?_
          have hv : sn_ws t k + 1 = sn_ws t (k + 1) := by show _ = sn_ws t k + _; rw [if_pos c_2]
          rw [hv] at hl
          exact ih_loop (k + 1) (by omega) (by omega) ls (lv_sub hl [2, 1, 0] rfl)
  exact loop ((8 - 0) + 1) 0 (Nat.zero_le _) (by omega) ls (lv_sub hl [2, 1, 0] rfl)
set_option maxRecDepth 100000 in
set_option maxHeartbeats 4000000 in
theorem ct_X1_sideAtPlace (l : Launch) (D : va_G) (tys : List (ClassId × FieldType)) (w : va_W) (t : Nat) (ht : t ≤ 999) (y : Int32) : sn_Rd l yX1_sideAtPlace wsX1_sideAtPlace 3 [.int (nI t), .int y] D tys (w) (sn_pick (sn_ro t 24) 0 y) := by
  refine sn_rd (cc := cX1_sideAtPlace) (maxL := 5) (ret := (some .int)) (by decide) rfl (Nat.le_of_ble_eq_true rfl) ?_
  intro p e s m below meth c hx hb hml hr hlk hts hown hP hK hN ls hl
  have hC : CallFix p m c cX1_sideAtPlace 5 s [.int (nI t), .int y].toArray wsX1_sideAtPlace RX1 := ⟨hx, hb, hml, hown, hts⟩
  have hl : lv_has ls 5 [(0, .int (nI t)), (1, .int y)] := hl
  refine lv_iconst (v := 0) hx hb dX1_sideAtPlace_0 (by decide) ?_
  refine lv_istore_n (lv' := [(2, .int 0), (0, .int (nI t)), (1, .int y)]) hx hb dX1_sideAtPlace_1 rfl hl (by decide) rfl (fun ls hl => ?_)
  refine lv_iconst (v := 0) hx hb dX1_sideAtPlace_2 (by decide) ?_
  refine lv_istore_n (lv' := [(3, .int 0), (2, .int 0), (0, .int (nI t)), (1, .int y)]) hx hb dX1_sideAtPlace_3 rfl hl (by decide) rfl (fun ls hl => ?_)
  have loopO : ∀ (fu : Nat) (k : Nat) (v : Int32), (k ≤ 24) → (sn_pick (sn_ro t (24 - k)) v y = sn_pick (sn_ro t 24) 0 y) → 24 - k < fu → ∀ ls : Array Slot, lv_has ls 5 [(0, .int (nI t)), (1, .int y), (2, .int v), (3, .int (nI k))] → W p l e (sn_rm 3 0 0) s m [.int (nI t), .int y].toArray below meth c s.heap [] 0 0 (MQ below (vp_Si (fun r_ => r_ = (sn_pick (sn_ro t 24) 0 y))) [.int (nI t), .int y].toArray s 0 0 (fun _ => False)) (F0 m 4 ls []) := by
    intro fu
    induction fu with
    | zero => intro k v h1 hq hm; exact absurd hm (Nat.not_lt_zero _)
    | succ fu ih_loopO =>
      intro k v h1 hq hm ls hl
      refine lv_iload_n hx hb dX1_sideAtPlace_4 rfl (lv_at hl 3 rfl) ?_
      refine lv_bipush (v := 24) hx hb dX1_sideAtPlace_5 (by decide) ?_
      refine lv_icmp_ge (tgt := 53) hx hb dX1_sideAtPlace_7 (by decide) (fun c_1 => ?_) (fun c_1 => ?_)
      · have c_1 := (sn_cgej (a := k) (b := 24) rfl rfl (by omega) (by omega)).mp c_1
        refine lv_bipush (v := (-6)) hx hb dX1_sideAtPlace_53 (by decide) ?_
        exact sn_ret hx hb hr hlk dX1_sideAtPlace_55 (by rw [← hq, show k = 24 by omega]; rfl)
      · have c_1 := (sn_cgef (a := k) (b := 24) rfl rfl (by omega) (by omega)).mp c_1
        refine lv_iconst (v := 0) hx hb dX1_sideAtPlace_10 (by decide) ?_
        refine lv_istore (lv' := [(4, .int 0), (0, .int (nI t)), (1, .int y), (2, .int v), (3, .int (nI k))]) hx hb dX1_sideAtPlace_11 hl (by decide) rfl (fun ls hl => ?_)
        have loopI : ∀ (fu : Nat) (q : Nat) (v2 : Int32), (q ≤ 8) → (sn_pick (sn_ri t k (8 - q) ++ sn_ro t (24 - (k + 1))) v2 y = sn_pick (sn_ro t 24) 0 y) → 8 - q < fu → ∀ ls : Array Slot, lv_has ls 5 [(0, .int (nI t)), (1, .int y), (2, .int v2), (3, .int (nI k)), (4, .int (nI q))] → W p l e (sn_rm 3 0 0) s m [.int (nI t), .int y].toArray below meth c s.heap [] 0 0 (MQ below (vp_Si (fun r_ => r_ = (sn_pick (sn_ro t 24) 0 y))) [.int (nI t), .int y].toArray s 0 0 (fun _ => False)) (F0 m 13 ls []) := by
          intro fu
          induction fu with
          | zero => intro q v2 h2 hq2 hm; exact absurd hm (Nat.not_lt_zero _)
          | succ fu ih_loopI =>
            intro q v2 h2 hq2 hm ls hl
            refine lv_iload hx hb dX1_sideAtPlace_13 (lv_at hl 4 rfl) ?_
            refine lv_bipush (v := 8) hx hb dX1_sideAtPlace_15 (by decide) ?_
            refine lv_icmp_ge (tgt := 47) hx hb dX1_sideAtPlace_17 (by decide) (fun c_2 => ?_) (fun c_2 => ?_)
            · have c_2 := (sn_cgej (a := q) (b := 8) rfl rfl (by omega) (by omega)).mp c_2
              refine lv_iinc (v := nI (k + 1)) (lv' := [(3, .int (nI (k + 1))), (0, .int (nI t)), (1, .int y), (2, .int v2), (4, .int (nI q))]) hx hb dX1_sideAtPlace_47 hl (k := 3) rfl (sn_inc _) (by decide) rfl (fun ls hl => ?_)
              refine lv_goto (tgt := 4) hx hb dX1_sideAtPlace_50 (by decide) ?_
              exact ih_loopO (k + 1) v2 (by omega) (by rw [← hq2, show 8 - q = 0 by omega]; rfl) (by omega) ls (lv_sub hl [1, 2, 3, 0] rfl)
            · have c_2 := (sn_cgef (a := q) (b := 8) rfl rfl (by omega) (by omega)).mp c_2
              refine lv_iload hx hb dX1_sideAtPlace_20 (lv_at hl 4 rfl) ?_
              refine lv_iload_n hx hb dX1_sideAtPlace_22 rfl (lv_at hl 0 rfl) ?_
              refine sn_cS 2 hC hl (ct_X1_warmHour l D _ [] q t (by omega) (by omega)) gX1_sideAtPlace_X1_warmHour rfl (by decide +kernel) rfl ⟨Nat.le_of_ble_eq_true rfl, Nat.le_of_ble_eq_true rfl⟩ ⟨Nat.zero_le _, Nat.zero_le _⟩ (fun _ _ h => by simp at h) hK hN rfl (Nat.le_of_ble_eq_true rfl) dX1_sideAtPlace_23 ?_
              refine lv_iload_n hx hb dX1_sideAtPlace_26 rfl (lv_at hl 3 rfl) ?_
              refine lv_icmp_ne (tgt := 41) hx hb dX1_sideAtPlace_27 (by decide) (fun c_3 => ?_) (fun c_3 => ?_)
              · have c_3 : ¬ sn_wh q t = k := fun z => c_3 ((sn_e24_eq (by omega)).mpr z)
                refine lv_iinc (v := nI (q + 1)) (lv' := [(4, .int (nI (q + 1))), (0, .int (nI t)), (1, .int y), (2, .int v2), (3, .int (nI k))]) hx hb dX1_sideAtPlace_41 hl (k := 4) rfl (sn_inc _) (by decide) rfl (fun ls hl => ?_)
                refine lv_goto (tgt := 13) hx hb dX1_sideAtPlace_44 (by decide) ?_
                exact ih_loopI (q + 1) v2 (by omega) (by rw [← hq2, sn_ri_n (by omega) c_3]) (by omega) ls (lv_sub hl [1, 2, 3, 4, 0] rfl)
              · have c_3 : sn_wh q t = k := (sn_e24_eq (by omega)).mp c_3
                refine lv_iload_n hx hb dX1_sideAtPlace_30 rfl (lv_at hl 2 rfl) ?_
                refine lv_iload_n hx hb dX1_sideAtPlace_31 rfl (lv_at hl 1 rfl) ?_
                refine lv_icmp_ne (tgt := 38) hx hb dX1_sideAtPlace_32 (by decide) (fun c_4 => ?_) (fun c_4 => ?_)
                · refine lv_iinc (v := v2 + 1) (lv' := [(2, .int (v2 + 1)), (0, .int (nI t)), (1, .int y), (3, .int (nI k)), (4, .int (nI q))]) hx hb dX1_sideAtPlace_38 hl (k := 2) rfl (rfl) (by decide) rfl (fun ls hl => ?_)
                  refine lv_iinc (v := nI (q + 1)) (lv' := [(4, .int (nI (q + 1))), (2, .int (v2 + 1)), (0, .int (nI t)), (1, .int y), (3, .int (nI k))]) hx hb dX1_sideAtPlace_41 hl (k := 4) rfl (sn_inc _) (by decide) rfl (fun ls hl => ?_)
                  refine lv_goto (tgt := 13) hx hb dX1_sideAtPlace_44 (by decide) ?_
                  exact ih_loopI (q + 1) (v2 + 1) (by omega) (by rw [← hq2, sn_ri_y (by omega) c_3]; exact (if_neg c_4).symm) (by omega) ls (lv_sub hl [2, 3, 1, 4, 0] rfl)
                · refine lv_iload hx hb dX1_sideAtPlace_35 (lv_at hl 4 rfl) ?_
                  exact sn_ret hx hb hr hlk dX1_sideAtPlace_37 (by rw [← hq2, sn_ri_y (by omega) c_3]; exact (if_pos c_4).symm)
        exact loopI ((8 - 0) + 1) 0 v (Nat.zero_le _) (by rw [← hq, sn_ro_s (k := k) (by omega)]) (by omega) ls (lv_sub hl [1, 2, 3, 4, 0] rfl)
  exact loopO ((24 - 0) + 1) 0 0 (Nat.zero_le _) rfl (by omega) ls (lv_sub hl [2, 3, 1, 0] rfl)
set_option maxRecDepth 100000 in
set_option maxHeartbeats 4000000 in
theorem ct_X2_weightOf (l : Launch) (D : va_G) (tys : List (ClassId × FieldType)) (w : va_W) (t : Nat) (ht : t ≤ 30) (v : Int32) : sn_Rd l yX2_weightOf wsX2_weightOf 0 [.int (nI t), .int v] D tys (w) (sn_wt t v) := by
  refine sn_rd (cc := cX2_weightOf) (maxL := 2) (ret := (some .int)) (by decide) rfl (Nat.le_of_ble_eq_true rfl) ?_
  intro p e s m below meth c hx hb hml hr hlk hts hown hP hK hN ls hl
  have hC : CallFix p m c cX2_weightOf 2 s [.int (nI t), .int v].toArray wsX2_weightOf RX2 := ⟨hx, hb, hml, hown, hts⟩
  have hl : lv_has ls 2 [(0, .int (nI t)), (1, .int v)] := hl
  refine lv_iload_n hx hb dX2_weightOf_0 rfl (lv_at hl 0 rfl) ?_
  refine lv_bipush (v := 10) hx hb dX2_weightOf_1 (by decide) ?_
  refine lv_icmp_gt (tgt := 8) hx hb dX2_weightOf_3 (by decide) (fun c_1 => ?_) (fun c_1 => ?_)
  · have c_1 := (sn_cgtj (a := t) (b := 10) rfl rfl (by omega) (by omega)).mp c_1
    refine lv_iload_n hx hb dX2_weightOf_8 rfl (lv_at hl 0 rfl) ?_
    refine lv_bipush (v := 20) hx hb dX2_weightOf_9 (by decide) ?_
    refine lv_icmp_gt (tgt := 20) hx hb dX2_weightOf_11 (by decide) (fun c_2 => ?_) (fun c_2 => ?_)
    · have c_2 := (sn_cgtj (a := t) (b := 20) rfl rfl (by omega) (by omega)).mp c_2
      refine lv_iconst (v := 4) hx hb dX2_weightOf_20 (by decide) ?_
      refine lv_iload_n hx hb dX2_weightOf_21 rfl (lv_at hl 1 rfl) ?_
      refine lv_imul hx hb dX2_weightOf_22 ?_
      exact sn_ret hx hb hr hlk dX2_weightOf_23 (by unfold sn_wt; (repeat' split) <;> first | rfl | omega)
    · have c_2 := (sn_cgtf (a := t) (b := 20) rfl rfl (by omega) (by omega)).mp c_2
      refine lv_iconst (v := 2) hx hb dX2_weightOf_14 (by decide) ?_
      refine lv_iload_n hx hb dX2_weightOf_15 rfl (lv_at hl 1 rfl) ?_
      refine lv_imul hx hb dX2_weightOf_16 ?_
      refine lv_goto (tgt := 23) hx hb dX2_weightOf_17 (by decide) ?_
      exact sn_ret hx hb hr hlk dX2_weightOf_23 (by unfold sn_wt; (repeat' split) <;> first | rfl | omega)
  · have c_1 := (sn_cgtf (a := t) (b := 10) rfl rfl (by omega) (by omega)).mp c_1
    refine lv_iload_n hx hb dX2_weightOf_6 rfl (lv_at hl 1 rfl) ?_
    exact sn_ret hx hb hr hlk dX2_weightOf_7 (by unfold sn_wt; (repeat' split) <;> first | rfl | omega)
set_option maxRecDepth 100000 in
set_option maxHeartbeats 4000000 in
theorem ct_X4_weightOf (l : Launch) (D : va_G) (tys : List (ClassId × FieldType)) (w : va_W) (t : Nat) (ht : t ≤ 30) (v : Int32) : sn_Rd l yX4_weightOf wsX4_weightOf 0 [.int (nI t), .int v] D tys (w) (sn_wt t v) := by
  refine sn_rd (cc := cX4_weightOf) (maxL := 2) (ret := (some .int)) (by decide) rfl (Nat.le_of_ble_eq_true rfl) ?_
  intro p e s m below meth c hx hb hml hr hlk hts hown hP hK hN ls hl
  have hC : CallFix p m c cX4_weightOf 2 s [.int (nI t), .int v].toArray wsX4_weightOf RX4 := ⟨hx, hb, hml, hown, hts⟩
  have hl : lv_has ls 2 [(0, .int (nI t)), (1, .int v)] := hl
  refine lv_iload_n hx hb dX4_weightOf_0 rfl (lv_at hl 0 rfl) ?_
  refine lv_bipush (v := 20) hx hb dX4_weightOf_1 (by decide) ?_
  refine lv_icmp_le (tgt := 12) hx hb dX4_weightOf_3 (by decide) (fun c_1 => ?_) (fun c_1 => ?_)
  · have c_1 := (sn_clej (a := t) (b := 20) rfl rfl (by omega) (by omega)).mp c_1
    refine lv_iload_n hx hb dX4_weightOf_12 rfl (lv_at hl 0 rfl) ?_
    refine lv_bipush (v := 10) hx hb dX4_weightOf_13 (by decide) ?_
    refine lv_icmp_le (tgt := 24) hx hb dX4_weightOf_15 (by decide) (fun c_2 => ?_) (fun c_2 => ?_)
    · have c_2 := (sn_clej (a := t) (b := 10) rfl rfl (by omega) (by omega)).mp c_2
      refine lv_iload_n hx hb dX4_weightOf_24 rfl (lv_at hl 1 rfl) ?_
      exact sn_ret hx hb hr hlk dX4_weightOf_25 (by unfold sn_wt; (repeat' split) <;> first | rfl | omega)
    · have c_2 := (sn_clef (a := t) (b := 10) rfl rfl (by omega) (by omega)).mp c_2
      refine lv_iconst (v := 2) hx hb dX4_weightOf_18 (by decide) ?_
      refine lv_iload_n hx hb dX4_weightOf_19 rfl (lv_at hl 1 rfl) ?_
      refine lv_imul hx hb dX4_weightOf_20 ?_
      refine lv_goto (tgt := 25) hx hb dX4_weightOf_21 (by decide) ?_
      exact sn_ret hx hb hr hlk dX4_weightOf_25 (by unfold sn_wt; (repeat' split) <;> first | rfl | omega)
  · have c_1 := (sn_clef (a := t) (b := 20) rfl rfl (by omega) (by omega)).mp c_1
    refine lv_iconst (v := 4) hx hb dX4_weightOf_6 (by decide) ?_
    refine lv_iload_n hx hb dX4_weightOf_7 rfl (lv_at hl 1 rfl) ?_
    refine lv_imul hx hb dX4_weightOf_8 ?_
    refine lv_goto (tgt := 25) hx hb dX4_weightOf_9 (by decide) ?_
    exact sn_ret hx hb hr hlk dX4_weightOf_25 (by unfold sn_wt; (repeat' split) <;> first | rfl | omega)
end
section
/-! ===== what the calls that change nothing answer ===== -/
theorem sn_isL {n : Nat} (hn : n ≤ 10) {x : Int32} (h : 0 ≤ x ∧ x ≤ nI n - 1) : ∃ i, i < n ∧ x = nI i := by
  have h1 := h.1
  have h2 := h.2
  rw [sn_le] at h1 h2
  have h0 : (0 : Int32).toInt = 0 := rfl
  rw [h0] at h1
  rw [sn_sub_toInt (by rw [nI_toInt (by omega)]; show _ ≤ (n : Int) - 1; omega) (by rw [nI_toInt (by omega)]; show (n : Int) - 1 < _; omega), nI_toInt (by omega)] at h2
  have h3 : x.toInt ≤ (n : Int) - 1 := h2
  refine ⟨x.toInt.toNat, by omega, ?_⟩
  rw [sn_eq, nI_toInt (by omega)]
  omega
theorem sn_Lis {n i : Nat} (hn : n ≤ 10) (hi : i < n) : 0 ≤ nI i ∧ nI i ≤ nI n - 1 := by
  have e : nI n - 1 = nI (n - 1) := pk_sub (b := 1) (by omega)
  rw [e]
  exact ⟨nI_pos' (by omega), nI_le (by omega) (by omega)⟩
theorem sn_topN {n i : Nat} (hn : n ≤ 10) (hi : i < n) : nI i = nI n - 1 ↔ i = n - 1 := by
  have e : nI n - 1 = nI (n - 1) := pk_sub (b := 1) (by omega)
  rw [e]
  exact nI_eq (by omega) (by omega)
def sn_RlayerN (f : Nat → Int32) (n i : Nat) (y : Int32) : Int32 :=
  if y = 0 then f (7 + 5 * i) else if y = 1 then f (8 + 5 * i) else if y = 2 then f (9 + 5 * i) else if y = 3 then f (10 + 5 * i) else if y = 4 then f (11 + 5 * i) else if y = 5 then sn_str f i else if y = 6 then sn_dep f (i + 1) n else if y = 7 then sn_lod f i n else -2
def sn_Rlayer (f : Nat → Int32) (n : Nat) (x y : Int32) : Int32 := if 0 ≤ x ∧ x ≤ nI n - 1 then sn_RlayerN f n x.toNatClampNeg y else -1
def sn_Rslope (f : Nat → Int32) (n : Nat) (x y z : Int32) : Int32 :=
  if 0 ≤ x ∧ x ≤ nI n - 1 then (if (0 ≤ y ∧ y ≤ 100) ∧ (0 ≤ z ∧ z ≤ 1) then (if z = 0 then sn_she f x.toNatClampNeg n y else sn_mar f x.toNatClampNeg n y) else -2) else -1
def sn_Rweak (f : Nat → Int32) (n : Nat) (x y : Int32) : Int32 :=
  if (0 ≤ x ∧ x ≤ 100) ∧ (0 ≤ y ∧ y ≤ 1) then (if sn_wk f n x = 0 then -6 else if y = 0 then nI (sn_wk f n x - 1) else sn_mar f (sn_wk f n x - 1) n x) else -2
def sn_Rgoes (f : Nat → Int32) (n : Nat) (x y z : Int32) : Int32 :=
  if 0 ≤ x ∧ x ≤ nI n - 1 then (if (0 ≤ y ∧ y ≤ 100) ∧ (0 ≤ z ∧ z ≤ 99) then (if x = nI n - 1 then -3 else sn_b (sn_Go f n y z x.toNatClampNeg)) else -2) else -1
def sn_stp (f : Nat → Int32) (n : Nat) (x y : Int32) : Nat → Nat → Int32
  | 0, _ => -6
  | r + 1, k => if sn_gn f n (nI k) x = 0 then sn_stp f n x y r (k + 1) else if y = 0 then nI k else nI (sn_gn f n (nI k) x - 1)
theorem sn_stp_z {f : Nat → Int32} {n : Nat} {x y : Int32} {k : Nat} (hk : k ≤ 100) (h : sn_gn f n (nI k) x = 0) : sn_stp f n x y (101 - k) k = sn_stp f n x y (101 - (k + 1)) (k + 1) := by
  rw [show 101 - k = (100 - k) + 1 by omega, show 101 - (k + 1) = 100 - k by omega]
  exact if_pos h
theorem sn_stp_p {f : Nat → Int32} {n : Nat} {x y : Int32} {k : Nat} (hk : k ≤ 100) (h : ¬ sn_gn f n (nI k) x = 0) : sn_stp f n x y (101 - k) k = if y = 0 then nI k else nI (sn_gn f n (nI k) x - 1) := by
  rw [show 101 - k = (100 - k) + 1 by omega]
  exact if_neg h
def sn_Rsteep (f : Nat → Int32) (n : Nat) (x y : Int32) : Int32 := if (0 ≤ x ∧ x ≤ 99) ∧ (0 ≤ y ∧ y ≤ 1) then sn_stp f n x y 101 0 else -2
def sn_ned (f : Nat → Int32) (n t : Nat) : Nat → Nat → Int32
  | 0, _ => -6
  | r + 1, v => if sn_bk f n (sn_wt t (nI v)) = 0 then sn_ned f n t r (v + 1) else nI v
theorem sn_ned_z {f : Nat → Int32} {n t v : Nat} (hv : v ≤ 50) (h : sn_bk f n (sn_wt t (nI v)) = 0) : sn_ned f n t (51 - v) v = sn_ned f n t (51 - (v + 1)) (v + 1) := by
  rw [show 51 - v = (50 - v) + 1 by omega, show 51 - (v + 1) = 50 - v by omega]
  exact if_pos h
theorem sn_ned_p {f : Nat → Int32} {n t v : Nat} (hv : v ≤ 50) (h : ¬ sn_bk f n (sn_wt t (nI v)) = 0) : sn_ned f n t (51 - v) v = nI v := by
  rw [show 51 - v = (50 - v) + 1 by omega]
  exact if_neg h
def sn_Rneed (f : Nat → Int32) (n : Nat) (x : Int32) : Int32 := if 1 ≤ x ∧ x ≤ 30 then sn_ned f n x.toNatClampNeg 50 1 else -2
def sn_Rheat (x y z : Int32) : Int32 :=
  if 0 ≤ x ∧ x ≤ 7 then (if (0 ≤ y ∧ y ≤ 23) ∧ (0 ≤ z ∧ z ≤ 1) then (if z = 0 then nI (sn_hv x.toNatClampNeg y.toNatClampNeg) else nI (sn_hs x.toNatClampNeg (y.toNatClampNeg + 1))) else -2) else -1
def sn_Rwarm (x y : Int32) : Int32 := if 0 ≤ x ∧ x ≤ 7 then (if 1 ≤ y ∧ y ≤ 999 then sn_e24 (sn_wh x.toNatClampNeg y.toNatClampNeg) else -2) else -1
def sn_Rord (x y : Int32) : Int32 := if 1 ≤ x ∧ x ≤ 999 then sn_pikM (sn_ro x.toNatClampNeg 24) 0 y else -2
def sn_kps (kp : Nat → Int32) : Int32 := (if kp 0 = 0 then 0 else 1) + (if kp 1 = 0 then 0 else 2)
def sn_Rcount (f : Nat → Int32) (n : Nat) (kp : Nat → Int32) (x : Int32) : Int32 :=
  if 10 ≤ x ∧ x ≤ 14 then f (2 + (x.toNatClampNeg - 10)) else if x = 0 then nI n else if x = 1 then sn_dep f 0 n else if x = 2 then sn_mas f 0 n else if x = 3 then f 1 else if x = 4 then sn_kps kp else -2
abbrev sn_cle (f : Nat → Int32) (i : Nat) : Prop := 2 ≤ f (10 + 5 * (i + 1)) - f (10 + 5 * i) ∨ f (10 + 5 * (i + 1)) - f (10 + 5 * i) ≤ -2

theorem sn_2in {x : Int32} (h : vp_in x 5) : vp_in (2 + x) 57 := by
  obtain ⟨j, hj, rfl⟩ := vp_in_of h (by decide)
  rw [show (2 : Int32) + nI j = nI (2 + j) from nI_add 2 j]
  exact vp_in_nI (by omega) (by decide)
theorem sn_2cl {x : Int32} (h : vp_in x 5) : (2 + x).toNatClampNeg = 2 + x.toNatClampNeg := by
  obtain ⟨j, hj, rfl⟩ := vp_in_of h (by decide)
  rw [show (2 : Int32) + nI j = nI (2 + j) from nI_add 2 j, nI_clamp (by omega), nI_clamp (by omega)]
theorem sn_dn_11 : ∀ n : Nat, sn_dn (n - 1) (nI n - 1 - 1)
  | 0 => show (nI 0 - 1 - 1 : Int32) < 0 by decide
  | 1 => show (nI 1 - 1 - 1 : Int32) < 0 by decide
  | b + 2 => by
    show nI (b + 2) - 1 - 1 = nI b
    rw [nI_pred, nI_pred]
theorem sn_getop {n k : Nat} (hn : n ≤ 10) (hk : k ≤ 10) : nI n - 1 ≤ nI k ↔ n - 1 ≤ k := by
  cases n with
  | zero => exact ⟨fun _ => Nat.zero_le _, fun _ => by rw [sn_le, nI_toInt (by omega)]; show (-1 : Int) ≤ k; omega⟩
  | succ n => rw [nI_pred]; exact nI_leI (by omega) (by omega)
end
section
set_option maxRecDepth 100000 in
set_option maxHeartbeats 4000000 in
theorem ct_X4_at (l : Launch) (D : va_G) (tys : List (ClassId × FieldType)) (w : va_W) (i k : Nat) : sn_Rd l yX4_at wsX4_at 0 [.int (nI i), .int (nI k)] D tys (w) (nI (7 + 5 * i + k)) := by
  refine sn_rd (cc := cX4_at) (maxL := 2) (ret := (some .int)) (by decide) rfl (Nat.le_of_ble_eq_true rfl) ?_
  intro p e s m below meth c hx hb hml hr hlk hts hown hP hK hN ls hl
  have hC : CallFix p m c cX4_at 2 s [.int (nI i), .int (nI k)].toArray wsX4_at RX4 := ⟨hx, hb, hml, hown, hts⟩
  have hl : lv_has ls 2 [(0, .int (nI i)), (1, .int (nI k))] := hl
  refine lv_bipush (v := 7) hx hb dX4_at_0 (by decide) ?_
  refine lv_iconst (v := 5) hx hb dX4_at_2 (by decide) ?_
  refine lv_iload_n hx hb dX4_at_3 rfl (lv_at hl 0 rfl) ?_
  refine lv_imul hx hb dX4_at_4 ?_
  refine sn_top (sn_nmul (a := 5) (b := i) rfl rfl) ?_
  refine lv_iadd hx hb dX4_at_5 ?_
  refine sn_top (sn_nadd (a := 7) (b := 5 * i) rfl rfl) ?_
  refine lv_iload_n hx hb dX4_at_6 rfl (lv_at hl 1 rfl) ?_
  refine lv_iadd hx hb dX4_at_7 ?_
  refine sn_top (sn_nadd (a := 7 + (5 * i)) (b := k) rfl rfl) ?_
  exact sn_ret hx hb hr hlk dX4_at_8 (rfl)
set_option maxRecDepth 100000 in
set_option maxHeartbeats 4000000 in
theorem ct_X4_isLayer (l : Launch) (D : va_G) (cI cZ cR : ClassId) (a : Nat → Nat) (f g kp tp ly : Nat → Int32) (nb : Int32) (n : Nat) (hI : sn_I f n) (x : Int32) : sn_Rd l yX4_isLayer wsX4_isLayer 1 [.ref (a 0), .int x] D (sn_ty cI cZ cR) (sn_wM cI cZ a f g kp tp ly nb) (sn_b (0 ≤ x ∧ x ≤ nI n - 1)) := by
  refine sn_rd (cc := cX4_isLayer) (maxL := 2) (ret := (some .boolean)) (by decide) rfl (Nat.le_of_ble_eq_true rfl) ?_
  intro p e s m below meth c hx hb hml hr hlk hts hown hP hK hN ls hl
  have hC : CallFix p m c cX4_isLayer 2 s [.ref (a 0), .int x].toArray wsX4_isLayer RX4 := ⟨hx, hb, hml, hown, hts⟩
  have hl : lv_has ls 2 [(0, .ref (a 0)), (1, .int x)] := hl
  have huX4 : ∀ w ∈ wsX40, w ∈ wsX4_isLayer := by decide +kernel
  refine lv_iload_n hx hb dX4_isLayer_0 rfl (lv_at hl 1 rfl) ?_
  refine lv_iconst (v := 0) hx hb dX4_isLayer_1 (by decide) ?_
  refine lv_aload_n hx hb dX4_isLayer_2 rfl (lv_at hl 0 rfl) ?_
  refine va_get (D := D) (ci := 3) (v := .ref (a 1)) (C := RX4) (T := TX4) (N := 6) hx hb hts huX4 hown hK hP 0 rfl rfl 0 (by decide) (hts (.fieldLink RX4 7 "SnowSlabsModel" "state" "[I") (by decide +kernel)) (fun _ h9 => h9) rfl dX4_isLayer_3 ?_
  refine lv_iconst (v := 0) hx hb dX4_isLayer_6 (by decide) ?_
  refine sn_ild (k := 0) (v := f 0) 1 0 hx hb hK hP rfl rfl (by omega) (by decide) rfl (rfl) dX4_isLayer_7 ?_
  refine sn_top (hI.1) ?_
  refine lv_iconst (v := 1) hx hb dX4_isLayer_8 (by decide) ?_
  refine lv_isub hx hb dX4_isLayer_9 ?_
  refine sn_cS 3 hC hl (ct_X4_in l D _ [] x 0 ((nI n) - 1)) gX4_isLayer_X4_in rfl (by decide +kernel) rfl ⟨Nat.le_of_ble_eq_true rfl, Nat.le_of_ble_eq_true rfl⟩ ⟨Nat.zero_le _, Nat.zero_le _⟩ (fun _ _ h => by simp at h) hK hN rfl (Nat.le_of_ble_eq_true rfl) dX4_isLayer_10 ?_
  exact sn_zret hx hb hr hlk dX4_isLayer_13 (sn_b_01 _) (rfl)
set_option maxRecDepth 100000 in
set_option maxHeartbeats 4000000 in
theorem ct_X4_top (l : Launch) (D : va_G) (cI cZ cR : ClassId) (a : Nat → Nat) (f g kp tp ly : Nat → Int32) (nb : Int32) (n : Nat) (hI : sn_I f n) : sn_Rd l yX4_top wsX4_top 0 [.ref (a 0)] D (sn_ty cI cZ cR) (sn_wM cI cZ a f g kp tp ly nb) (nI n - 1) := by
  refine sn_rd (cc := cX4_top) (maxL := 1) (ret := (some .int)) (by decide) rfl (Nat.le_of_ble_eq_true rfl) ?_
  intro p e s m below meth c hx hb hml hr hlk hts hown hP hK hN ls hl
  have hC : CallFix p m c cX4_top 1 s [.ref (a 0)].toArray wsX4_top RX4 := ⟨hx, hb, hml, hown, hts⟩
  have hl : lv_has ls 1 [(0, .ref (a 0))] := hl
  have huX4 : ∀ w ∈ wsX40, w ∈ wsX4_top := by decide +kernel
  refine lv_aload_n hx hb dX4_top_0 rfl (lv_at hl 0 rfl) ?_
  refine va_get (D := D) (ci := 3) (v := .ref (a 1)) (C := RX4) (T := TX4) (N := 6) hx hb hts huX4 hown hK hP 0 rfl rfl 0 (by decide) (hts (.fieldLink RX4 7 "SnowSlabsModel" "state" "[I") (by decide +kernel)) (fun _ h9 => h9) rfl dX4_top_1 ?_
  refine lv_iconst (v := 0) hx hb dX4_top_4 (by decide) ?_
  refine sn_ild (k := 0) (v := f 0) 1 0 hx hb hK hP rfl rfl (by omega) (by decide) rfl (rfl) dX4_top_5 ?_
  refine sn_top (hI.1) ?_
  refine lv_iconst (v := 1) hx hb dX4_top_6 (by decide) ?_
  refine lv_isub hx hb dX4_top_7 ?_
  exact sn_ret hx hb hr hlk dX4_top_8 (rfl)
set_option maxRecDepth 100000 in
set_option maxHeartbeats 4000000 in
theorem ct_X4_strength (l : Launch) (D : va_G) (cI cZ cR : ClassId) (a : Nat → Nat) (f g kp tp ly : Nat → Int32) (nb : Int32) (n : Nat) (hI : sn_I f n) (i : Nat) (hi : i < 10) : sn_Rd l yX4_strength wsX4_strength 1 [.ref (a 0), .int (nI i)] D (sn_ty cI cZ cR) (sn_wM cI cZ a f g kp tp ly nb) (sn_str f i) := by
  refine sn_rd (cc := cX4_strength) (maxL := 3) (ret := (some .int)) (by decide) rfl (Nat.le_of_ble_eq_true rfl) ?_
  intro p e s m below meth c hx hb hml hr hlk hts hown hP hK hN ls hl
  have hC : CallFix p m c cX4_strength 3 s [.ref (a 0), .int (nI i)].toArray wsX4_strength RX4 := ⟨hx, hb, hml, hown, hts⟩
  have hl : lv_has ls 3 [(0, .ref (a 0)), (1, .int (nI i))] := hl
  have huX4 : ∀ w ∈ wsX40, w ∈ wsX4_strength := by decide +kernel
  refine lv_aload_n hx hb dX4_strength_0 rfl (lv_at hl 0 rfl) ?_
  refine va_get (D := D) (ci := 3) (v := .ref (a 1)) (C := RX4) (T := TX4) (N := 6) hx hb hts huX4 hown hK hP 0 rfl rfl 0 (by decide) (hts (.fieldLink RX4 7 "SnowSlabsModel" "state" "[I") (by decide +kernel)) (fun _ h9 => h9) rfl dX4_strength_1 ?_
  refine lv_iconst (v := 2) hx hb dX4_strength_4 (by decide) ?_
  refine lv_aload_n hx hb dX4_strength_5 rfl (lv_at hl 0 rfl) ?_
  refine va_get (D := D) (ci := 3) (v := .ref (a 1)) (C := RX4) (T := TX4) (N := 6) hx hb hts huX4 hown hK hP 0 rfl rfl 0 (by decide) (hts (.fieldLink RX4 7 "SnowSlabsModel" "state" "[I") (by decide +kernel)) (fun _ h9 => h9) rfl dX4_strength_6 ?_
  refine lv_iload_n hx hb dX4_strength_9 rfl (lv_at hl 1 rfl) ?_
  refine lv_iconst (v := 2) hx hb dX4_strength_10 (by decide) ?_
  refine sn_cS 2 hC hl (ct_X4_at l D _ [] i 2) gX4_strength_X4_at rfl (by decide +kernel) rfl ⟨Nat.le_of_ble_eq_true rfl, Nat.le_of_ble_eq_true rfl⟩ ⟨Nat.zero_le _, Nat.zero_le _⟩ (fun _ _ h => by simp at h) hK hN rfl (Nat.le_of_ble_eq_true rfl) dX4_strength_11 ?_
  refine sn_top (y := nI (9 + 5 * i)) (congrArg nI (show _ = 9 + 5 * i by omega)) ?_
  refine sn_ild (k := 9 + 5 * i) (v := f (9 + 5 * i)) 1 0 hx hb hK hP rfl rfl (by omega) (by decide) rfl (rfl) dX4_strength_14 ?_
  refine lv_iadd hx hb dX4_strength_15 ?_
  refine va_iald hx hb hK hP 1 0 rfl rfl (sn_2in (hI.2.2.2 i hi).2.2.1) dX4_strength_16 ?_
  refine sn_top (y := f (2 + (f (9 + 5 * i)).toNatClampNeg)) (congrArg f (sn_2cl (hI.2.2.2 i hi).2.2.1)) ?_
  refine lv_aload_n hx hb dX4_strength_17 rfl (lv_at hl 0 rfl) ?_
  refine va_get (D := D) (ci := 3) (v := .ref (a 1)) (C := RX4) (T := TX4) (N := 6) hx hb hts huX4 hown hK hP 0 rfl rfl 0 (by decide) (hts (.fieldLink RX4 7 "SnowSlabsModel" "state" "[I") (by decide +kernel)) (fun _ h9 => h9) rfl dX4_strength_18 ?_
  refine lv_iload_n hx hb dX4_strength_21 rfl (lv_at hl 1 rfl) ?_
  refine lv_iconst (v := 3) hx hb dX4_strength_22 (by decide) ?_
  refine sn_cS 2 hC hl (ct_X4_at l D _ [] i 3) gX4_strength_X4_at rfl (by decide +kernel) rfl ⟨Nat.le_of_ble_eq_true rfl, Nat.le_of_ble_eq_true rfl⟩ ⟨Nat.zero_le _, Nat.zero_le _⟩ (fun _ _ h => by simp at h) hK hN rfl (Nat.le_of_ble_eq_true rfl) dX4_strength_23 ?_
  refine sn_top (y := nI (10 + 5 * i)) (congrArg nI (show _ = 10 + 5 * i by omega)) ?_
  refine sn_ild (k := 10 + 5 * i) (v := f (10 + 5 * i)) 1 0 hx hb hK hP rfl rfl (by omega) (by decide) rfl (rfl) dX4_strength_26 ?_
  refine lv_imul hx hb dX4_strength_27 ?_
  refine lv_aload_n hx hb dX4_strength_28 rfl (lv_at hl 0 rfl) ?_
  refine va_get (D := D) (ci := 3) (v := .ref (a 1)) (C := RX4) (T := TX4) (N := 6) hx hb hts huX4 hown hK hP 0 rfl rfl 0 (by decide) (hts (.fieldLink RX4 7 "SnowSlabsModel" "state" "[I") (by decide +kernel)) (fun _ h9 => h9) rfl dX4_strength_29 ?_
  refine lv_iload_n hx hb dX4_strength_32 rfl (lv_at hl 1 rfl) ?_
  refine lv_iconst (v := 1) hx hb dX4_strength_33 (by decide) ?_
  refine sn_cS 2 hC hl (ct_X4_at l D _ [] i 1) gX4_strength_X4_at rfl (by decide +kernel) rfl ⟨Nat.le_of_ble_eq_true rfl, Nat.le_of_ble_eq_true rfl⟩ ⟨Nat.zero_le _, Nat.zero_le _⟩ (fun _ _ h => by simp at h) hK hN rfl (Nat.le_of_ble_eq_true rfl) dX4_strength_34 ?_
  refine sn_top (y := nI (8 + 5 * i)) (congrArg nI (show _ = 8 + 5 * i by omega)) ?_
  refine sn_ild (k := 8 + 5 * i) (v := f (8 + 5 * i)) 1 0 hx hb hK hP rfl rfl (by omega) (by decide) rfl (rfl) dX4_strength_37 ?_
  refine lv_imul hx hb dX4_strength_38 ?_
  refine lv_bipush (v := 100) hx hb dX4_strength_39 (by decide) ?_
  refine lv_idiv hx hb dX4_strength_41 (by decide) ?_
  refine lv_istore_n (lv' := [(2, .int ((((f (2 + (f (9 + 5 * i)).toNatClampNeg)) * (f (10 + 5 * i))) * (f (8 + 5 * i))) / 100)), (0, .ref (a 0)), (1, .int (nI i))]) hx hb dX4_strength_42 rfl hl (by decide) rfl (fun ls hl => ?_)
  refine lv_aload_n hx hb dX4_strength_43 rfl (lv_at hl 1 rfl) ?_
  refine va_get (D := D) (ci := 3) (v := .ref (a 1)) (C := RX4) (T := TX4) (N := 6) hx hb hts huX4 hown hK hP 0 rfl rfl 0 (by decide) (hts (.fieldLink RX4 7 "SnowSlabsModel" "state" "[I") (by decide +kernel)) (fun _ h9 => h9) rfl dX4_strength_44 ?_
  refine lv_iload_n hx hb dX4_strength_47 rfl (lv_at hl 2 rfl) ?_
  refine lv_iconst (v := 4) hx hb dX4_strength_48 (by decide) ?_
  refine sn_cS 2 hC hl (ct_X4_at l D _ [] i 4) gX4_strength_X4_at rfl (by decide +kernel) rfl ⟨Nat.le_of_ble_eq_true rfl, Nat.le_of_ble_eq_true rfl⟩ ⟨Nat.zero_le _, Nat.zero_le _⟩ (fun _ _ h => by simp at h) hK hN rfl (Nat.le_of_ble_eq_true rfl) dX4_strength_49 ?_
  refine sn_top (y := nI (11 + 5 * i)) (congrArg nI (show _ = 11 + 5 * i by omega)) ?_
  refine sn_ild (k := 11 + 5 * i) (v := f (11 + 5 * i)) 1 0 hx hb hK hP rfl rfl (by omega) (by decide) rfl (rfl) dX4_strength_52 ?_
  refine lv_iconst (v := 1) hx hb dX4_strength_53 (by decide) ?_
  refine lv_icmp_ne (tgt := 63) hx hb dX4_strength_54 (by decide) (fun c_1 => ?_) (fun c_1 => ?_)
  · refine lv_iload_n hx hb dX4_strength_63 rfl (lv_at hl 0 rfl) ?_
    exact sn_ret hx hb hr hlk dX4_strength_64 ((if_pos ((hI.2.2.2 i hi).2.2.2.2.resolve_right c_1)).symm)
  · refine lv_iload_n hx hb dX4_strength_57 rfl (lv_at hl 0 rfl) ?_
    refine lv_iconst (v := 2) hx hb dX4_strength_58 (by decide) ?_
    refine lv_idiv hx hb dX4_strength_59 (by decide) ?_
    refine lv_goto (tgt := 64) hx hb dX4_strength_60 (by decide) ?_
    exact sn_ret hx hb hr hlk dX4_strength_64 ((if_neg (by rw [c_1]; decide)).symm)
set_option maxRecDepth 100000 in
set_option maxHeartbeats 4000000 in
theorem ct_X4_depth (l : Launch) (D : va_G) (cI cZ cR : ClassId) (a : Nat → Nat) (f g kp tp ly : Nat → Int32) (nb : Int32) (x : Int32) (i b : Nat) (hx1 : x + 1 = nI i) (hib : i ≤ b) (hb10 : b ≤ 10) : sn_Rd l yX4_depth wsX4_depth 1 [.ref (a 0), .int x, .int (nI b)] D (sn_ty cI cZ cR) (sn_wM cI cZ a f g kp tp ly nb) (sn_dep f i b) := by
  refine sn_rd (cc := cX4_depth) (maxL := 5) (ret := (some .int)) (by decide) rfl (Nat.le_of_ble_eq_true rfl) ?_
  intro p e s m below meth c hx hb hml hr hlk hts hown hP hK hN ls hl
  have hC : CallFix p m c cX4_depth 5 s [.ref (a 0), .int x, .int (nI b)].toArray wsX4_depth RX4 := ⟨hx, hb, hml, hown, hts⟩
  have hl : lv_has ls 5 [(0, .ref (a 0)), (1, .int x), (2, .int (nI b))] := hl
  have huX4 : ∀ w ∈ wsX40, w ∈ wsX4_depth := by decide +kernel
  refine lv_iconst (v := 0) hx hb dX4_depth_0 (by decide) ?_
  refine sn_top (y := sn_dep f i i) ((sn_dep_self f i).symm) ?_
  refine lv_istore_n (lv' := [(3, .int (sn_dep f i i)), (0, .ref (a 0)), (1, .int x), (2, .int (nI b))]) hx hb dX4_depth_1 rfl hl (by decide) rfl (fun ls hl => ?_)
  refine lv_iload_n hx hb dX4_depth_2 rfl (lv_at hl 2 rfl) ?_
  refine lv_iconst (v := 1) hx hb dX4_depth_3 (by decide) ?_
  refine lv_iadd hx hb dX4_depth_4 ?_
  refine sn_top (y := nI i) (hx1) ?_
  refine lv_istore (lv' := [(4, .int (nI i)), (3, .int (sn_dep f i i)), (0, .ref (a 0)), (1, .int x), (2, .int (nI b))]) hx hb dX4_depth_5 hl (by decide) rfl (fun ls hl => ?_)
  have loop : ∀ (fu : Nat) (k : Nat), (i ≤ k) → (k ≤ b) → b - k < fu → ∀ ls : Array Slot, lv_has ls 5 [(0, .ref (a 0)), (1, .int x), (2, .int (nI b)), (3, .int (sn_dep f i k)), (4, .int (nI k))] → W p l e (sn_rm 1 0 0) s m [.ref (a 0), .int x, .int (nI b)].toArray below meth c s.heap [] 0 0 (MQ below (vp_Si (fun r_ => r_ = (sn_dep f i b))) [.ref (a 0), .int x, .int (nI b)].toArray s 0 0 (fun _ => False)) (F0 m 7 ls []) := by
    intro fu
    induction fu with
    | zero => intro k h1 h2 hm; exact absurd hm (Nat.not_lt_zero _)
    | succ fu ih_loop =>
      intro k h1 h2 hm ls hl
      refine lv_iload hx hb dX4_depth_7 (lv_at hl 4 rfl) ?_
      refine lv_iload_n hx hb dX4_depth_9 rfl (lv_at hl 2 rfl) ?_
      refine lv_icmp_ge (tgt := 33) hx hb dX4_depth_10 (by decide) (fun c_1 => ?_) (fun c_1 => ?_)
      · have c_1 := (sn_cgej (a := k) (b := b) rfl rfl (by omega) (by omega)).mp c_1
        refine lv_iload_n hx hb dX4_depth_33 rfl (lv_at hl 3 rfl) ?_
        exact sn_ret hx hb hr hlk dX4_depth_34 (by rw [show k = b by omega])
      · have c_1 := (sn_cgef (a := k) (b := b) rfl rfl (by omega) (by omega)).mp c_1
        refine lv_iload_n hx hb dX4_depth_13 rfl (lv_at hl 3 rfl) ?_
        refine lv_aload_n hx hb dX4_depth_14 rfl (lv_at hl 0 rfl) ?_
        refine va_get (D := D) (ci := 3) (v := .ref (a 1)) (C := RX4) (T := TX4) (N := 6) hx hb hts huX4 hown hK hP 0 rfl rfl 0 (by decide) (hts (.fieldLink RX4 7 "SnowSlabsModel" "state" "[I") (by decide +kernel)) (fun _ h9 => h9) rfl dX4_depth_15 ?_
        refine lv_iload hx hb dX4_depth_18 (lv_at hl 4 rfl) ?_
        refine lv_iconst (v := 0) hx hb dX4_depth_20 (by decide) ?_
        refine sn_cS 2 hC hl (ct_X4_at l D _ [] k 0) gX4_depth_X4_at rfl (by decide +kernel) rfl ⟨Nat.le_of_ble_eq_true rfl, Nat.le_of_ble_eq_true rfl⟩ ⟨Nat.zero_le _, Nat.zero_le _⟩ (fun _ _ h => by simp at h) hK hN rfl (Nat.le_of_ble_eq_true rfl) dX4_depth_21 ?_
        refine sn_top (y := nI (7 + 5 * k)) (congrArg nI (show _ = 7 + 5 * k by omega)) ?_
        refine sn_ild (k := 7 + 5 * k) (v := f (7 + 5 * k)) 1 0 hx hb hK hP rfl rfl (by omega) (by decide) rfl (rfl) dX4_depth_24 ?_
        refine lv_iadd hx hb dX4_depth_25 ?_
        refine sn_top (y := sn_dep f i (k + 1)) (sn_dep_s h1) ?_
        refine lv_istore_n (lv' := [(3, .int (sn_dep f i (k + 1))), (0, .ref (a 0)), (1, .int x), (2, .int (nI b)), (4, .int (nI k))]) hx hb dX4_depth_26 rfl hl (by decide) rfl (fun ls hl => ?_)
        refine lv_iinc (v := nI (k + 1)) (lv' := [(4, .int (nI (k + 1))), (3, .int (sn_dep f i (k + 1))), (0, .ref (a 0)), (1, .int x), (2, .int (nI b))]) hx hb dX4_depth_27 hl (k := 4) rfl (sn_inc _) (by decide) rfl (fun ls hl => ?_)
        refine lv_goto (tgt := 7) hx hb dX4_depth_30 (by decide) ?_
        exact ih_loop (k + 1) (by omega) (by omega) (by omega) ls (lv_sub hl [2, 3, 4, 1, 0] rfl)
  exact loop ((b - i) + 1) i (Nat.le_refl _) hib (by omega) ls (lv_sub hl [2, 3, 4, 1, 0] rfl)
set_option maxRecDepth 100000 in
set_option maxHeartbeats 4000000 in
theorem ct_X4_load (l : Launch) (D : va_G) (cI cZ cR : ClassId) (a : Nat → Nat) (f g kp tp ly : Nat → Int32) (nb : Int32) (i b : Nat) (hib : i + 1 ≤ b) (hb10 : b ≤ 10) : sn_Rd l yX4_load wsX4_load 1 [.ref (a 0), .int (nI i), .int (nI b)] D (sn_ty cI cZ cR) (sn_wM cI cZ a f g kp tp ly nb) (sn_lod f i b) := by
  refine sn_rd (cc := cX4_load) (maxL := 5) (ret := (some .int)) (by decide) rfl (Nat.le_of_ble_eq_true rfl) ?_
  intro p e s m below meth c hx hb hml hr hlk hts hown hP hK hN ls hl
  have hC : CallFix p m c cX4_load 5 s [.ref (a 0), .int (nI i), .int (nI b)].toArray wsX4_load RX4 := ⟨hx, hb, hml, hown, hts⟩
  have hl : lv_has ls 5 [(0, .ref (a 0)), (1, .int (nI i)), (2, .int (nI b))] := hl
  have huX4 : ∀ w ∈ wsX40, w ∈ wsX4_load := by decide +kernel
  refine lv_iconst (v := 0) hx hb dX4_load_0 (by decide) ?_
  refine sn_top (y := sn_mas f (i + 1) (i + 1)) ((sn_mas_self f (i + 1)).symm) ?_
  refine lv_istore_n (lv' := [(3, .int (sn_mas f (i + 1) (i + 1))), (0, .ref (a 0)), (1, .int (nI i)), (2, .int (nI b))]) hx hb dX4_load_1 rfl hl (by decide) rfl (fun ls hl => ?_)
  refine lv_iload_n hx hb dX4_load_2 rfl (lv_at hl 2 rfl) ?_
  refine lv_iconst (v := 1) hx hb dX4_load_3 (by decide) ?_
  refine lv_iadd hx hb dX4_load_4 ?_
  refine sn_top (sn_nadd (a := i) (b := 1) rfl rfl) ?_
  refine lv_istore (lv' := [(4, .int (nI (i + 1))), (3, .int (sn_mas f (i + 1) (i + 1))), (0, .ref (a 0)), (1, .int (nI i)), (2, .int (nI b))]) hx hb dX4_load_5 hl (by decide) rfl (fun ls hl => ?_)
  have loop : ∀ (fu : Nat) (k : Nat), (i + 1 ≤ k) → (k ≤ b) → b - k < fu → ∀ ls : Array Slot, lv_has ls 5 [(0, .ref (a 0)), (1, .int (nI i)), (2, .int (nI b)), (3, .int (sn_mas f (i + 1) k)), (4, .int (nI k))] → W p l e (sn_rm 1 0 0) s m [.ref (a 0), .int (nI i), .int (nI b)].toArray below meth c s.heap [] 0 0 (MQ below (vp_Si (fun r_ => r_ = (sn_lod f i b))) [.ref (a 0), .int (nI i), .int (nI b)].toArray s 0 0 (fun _ => False)) (F0 m 7 ls []) := by
    intro fu
    induction fu with
    | zero => intro k h1 h2 hm; exact absurd hm (Nat.not_lt_zero _)
    | succ fu ih_loop =>
      intro k h1 h2 hm ls hl
      refine lv_iload hx hb dX4_load_7 (lv_at hl 4 rfl) ?_
      refine lv_iload_n hx hb dX4_load_9 rfl (lv_at hl 2 rfl) ?_
      refine lv_icmp_ge (tgt := 45) hx hb dX4_load_10 (by decide) (fun c_1 => ?_) (fun c_1 => ?_)
      · have c_1 := (sn_cgej (a := k) (b := b) rfl rfl (by omega) (by omega)).mp c_1
        refine lv_iload_n hx hb dX4_load_45 rfl (lv_at hl 3 rfl) ?_
        refine lv_bipush (v := 100) hx hb dX4_load_46 (by decide) ?_
        refine lv_idiv hx hb dX4_load_48 (by decide) ?_
        exact sn_ret hx hb hr hlk dX4_load_49 (by rw [show k = b by omega]; rfl)
      · have c_1 := (sn_cgef (a := k) (b := b) rfl rfl (by omega) (by omega)).mp c_1
        refine lv_iload_n hx hb dX4_load_13 rfl (lv_at hl 3 rfl) ?_
        refine lv_aload_n hx hb dX4_load_14 rfl (lv_at hl 0 rfl) ?_
        refine va_get (D := D) (ci := 3) (v := .ref (a 1)) (C := RX4) (T := TX4) (N := 6) hx hb hts huX4 hown hK hP 0 rfl rfl 0 (by decide) (hts (.fieldLink RX4 7 "SnowSlabsModel" "state" "[I") (by decide +kernel)) (fun _ h9 => h9) rfl dX4_load_15 ?_
        refine lv_iload hx hb dX4_load_18 (lv_at hl 4 rfl) ?_
        refine lv_iconst (v := 0) hx hb dX4_load_20 (by decide) ?_
        refine sn_cS 2 hC hl (ct_X4_at l D _ [] k 0) gX4_load_X4_at rfl (by decide +kernel) rfl ⟨Nat.le_of_ble_eq_true rfl, Nat.le_of_ble_eq_true rfl⟩ ⟨Nat.zero_le _, Nat.zero_le _⟩ (fun _ _ h => by simp at h) hK hN rfl (Nat.le_of_ble_eq_true rfl) dX4_load_21 ?_
        refine sn_top (y := nI (7 + 5 * k)) (congrArg nI (show _ = 7 + 5 * k by omega)) ?_
        refine sn_ild (k := 7 + 5 * k) (v := f (7 + 5 * k)) 1 0 hx hb hK hP rfl rfl (by omega) (by decide) rfl (rfl) dX4_load_24 ?_
        refine lv_aload_n hx hb dX4_load_25 rfl (lv_at hl 0 rfl) ?_
        refine va_get (D := D) (ci := 3) (v := .ref (a 1)) (C := RX4) (T := TX4) (N := 6) hx hb hts huX4 hown hK hP 0 rfl rfl 0 (by decide) (hts (.fieldLink RX4 7 "SnowSlabsModel" "state" "[I") (by decide +kernel)) (fun _ h9 => h9) rfl dX4_load_26 ?_
        refine lv_iload hx hb dX4_load_29 (lv_at hl 4 rfl) ?_
        refine lv_iconst (v := 1) hx hb dX4_load_31 (by decide) ?_
        refine sn_cS 2 hC hl (ct_X4_at l D _ [] k 1) gX4_load_X4_at rfl (by decide +kernel) rfl ⟨Nat.le_of_ble_eq_true rfl, Nat.le_of_ble_eq_true rfl⟩ ⟨Nat.zero_le _, Nat.zero_le _⟩ (fun _ _ h => by simp at h) hK hN rfl (Nat.le_of_ble_eq_true rfl) dX4_load_32 ?_
        refine sn_top (y := nI (8 + 5 * k)) (congrArg nI (show _ = 8 + 5 * k by omega)) ?_
        refine sn_ild (k := 8 + 5 * k) (v := f (8 + 5 * k)) 1 0 hx hb hK hP rfl rfl (by omega) (by decide) rfl (rfl) dX4_load_35 ?_
        refine lv_imul hx hb dX4_load_36 ?_
        refine lv_iadd hx hb dX4_load_37 ?_
        refine sn_top (y := sn_mas f (i + 1) (k + 1)) (sn_mas_s h1) ?_
        refine lv_istore_n (lv' := [(3, .int (sn_mas f (i + 1) (k + 1))), (0, .ref (a 0)), (1, .int (nI i)), (2, .int (nI b)), (4, .int (nI k))]) hx hb dX4_load_38 rfl hl (by decide) rfl (fun ls hl => ?_)
        refine lv_iinc (v := nI (k + 1)) (lv' := [(4, .int (nI (k + 1))), (3, .int (sn_mas f (i + 1) (k + 1))), (0, .ref (a 0)), (1, .int (nI i)), (2, .int (nI b))]) hx hb dX4_load_39 hl (k := 4) rfl (sn_inc _) (by decide) rfl (fun ls hl => ?_)
        refine lv_goto (tgt := 7) hx hb dX4_load_42 (by decide) ?_
        exact ih_loop (k + 1) (by omega) (by omega) (by omega) ls (lv_sub hl [2, 3, 4, 1, 0] rfl)
  exact loop ((b - (i + 1)) + 1) (i + 1) (Nat.le_refl _) hib (by omega) ls (lv_sub hl [2, 3, 4, 1, 0] rfl)
set_option maxRecDepth 100000 in
set_option maxHeartbeats 4000000 in
theorem ct_X4_shear (l : Launch) (D : va_G) (cI cZ cR : ClassId) (a : Nat → Nat) (f g kp tp ly : Nat → Int32) (nb : Int32) (n : Nat) (hI : sn_I f n) (i : Nat) (hi : i < n) (st : Int32) : sn_Rd l yX4_shear wsX4_shear 2 [.ref (a 0), .int (nI i), .int st] D (sn_ty cI cZ cR) (sn_wM cI cZ a f g kp tp ly nb) (sn_she f i n st) := by
  refine sn_rd (cc := cX4_shear) (maxL := 3) (ret := (some .int)) (by decide) rfl (Nat.le_of_ble_eq_true rfl) ?_
  intro p e s m below meth c hx hb hml hr hlk hts hown hP hK hN ls hl
  have hC : CallFix p m c cX4_shear 3 s [.ref (a 0), .int (nI i), .int st].toArray wsX4_shear RX4 := ⟨hx, hb, hml, hown, hts⟩
  have hl : lv_has ls 3 [(0, .ref (a 0)), (1, .int (nI i)), (2, .int st)] := hl
  have huX4 : ∀ w ∈ wsX40, w ∈ wsX4_shear := by decide +kernel
  refine lv_aload_n hx hb dX4_shear_0 rfl (lv_at hl 0 rfl) ?_
  refine lv_iload_n hx hb dX4_shear_1 rfl (lv_at hl 1 rfl) ?_
  refine lv_aload_n hx hb dX4_shear_2 rfl (lv_at hl 0 rfl) ?_
  refine va_get (D := D) (ci := 3) (v := .ref (a 1)) (C := RX4) (T := TX4) (N := 6) hx hb hts huX4 hown hK hP 0 rfl rfl 0 (by decide) (hts (.fieldLink RX4 7 "SnowSlabsModel" "state" "[I") (by decide +kernel)) (fun _ h9 => h9) rfl dX4_shear_3 ?_
  refine lv_iconst (v := 0) hx hb dX4_shear_6 (by decide) ?_
  refine sn_ild (k := 0) (v := f 0) 1 0 hx hb hK hP rfl rfl (by omega) (by decide) rfl (rfl) dX4_shear_7 ?_
  refine sn_top (hI.1) ?_
  refine sn_cV 2 0 hC hl (ct_X4_load l D cI cZ cR a f g kp tp ly nb i n (by omega) (by first | exact hI.2.1 | omega)) gX4_shear_X4_load rfl (by decide +kernel) rfl ⟨Nat.le_of_ble_eq_true rfl, Nat.le_of_ble_eq_true rfl⟩ ⟨Nat.zero_le _, Nat.zero_le _⟩ hP hK hN rfl rfl rfl (Nat.le_of_ble_eq_true rfl) dX4_shear_8 ?_
  refine lv_iload_n hx hb dX4_shear_11 rfl (lv_at hl 2 rfl) ?_
  refine lv_imul hx hb dX4_shear_12 ?_
  refine lv_bipush (v := 100) hx hb dX4_shear_13 (by decide) ?_
  refine lv_idiv hx hb dX4_shear_15 (by decide) ?_
  exact sn_ret hx hb hr hlk dX4_shear_16 (rfl)
set_option maxRecDepth 100000 in
set_option maxHeartbeats 4000000 in
theorem ct_X4_margin (l : Launch) (D : va_G) (cI cZ cR : ClassId) (a : Nat → Nat) (f g kp tp ly : Nat → Int32) (nb : Int32) (n : Nat) (hI : sn_I f n) (i : Nat) (hi : i < n) (st : Int32) : sn_Rd l yX4_margin wsX4_margin 3 [.ref (a 0), .int (nI i), .int st] D (sn_ty cI cZ cR) (sn_wM cI cZ a f g kp tp ly nb) (sn_mar f i n st) := by
  refine sn_rd (cc := cX4_margin) (maxL := 4) (ret := (some .int)) (by decide) rfl (Nat.le_of_ble_eq_true rfl) ?_
  intro p e s m below meth c hx hb hml hr hlk hts hown hP hK hN ls hl
  have hC : CallFix p m c cX4_margin 4 s [.ref (a 0), .int (nI i), .int st].toArray wsX4_margin RX4 := ⟨hx, hb, hml, hown, hts⟩
  have hl : lv_has ls 4 [(0, .ref (a 0)), (1, .int (nI i)), (2, .int st)] := hl
  refine lv_aload_n hx hb dX4_margin_0 rfl (lv_at hl 0 rfl) ?_
  refine lv_iload_n hx hb dX4_margin_1 rfl (lv_at hl 1 rfl) ?_
  refine lv_iload_n hx hb dX4_margin_2 rfl (lv_at hl 2 rfl) ?_
  refine sn_cV 2 0 hC hl (ct_X4_shear l D cI cZ cR a f g kp tp ly nb n hI i (by omega) st) gX4_margin_X4_shear rfl (by decide +kernel) rfl ⟨Nat.le_of_ble_eq_true rfl, Nat.le_of_ble_eq_true rfl⟩ ⟨Nat.zero_le _, Nat.zero_le _⟩ hP hK hN rfl rfl rfl (Nat.le_of_ble_eq_true rfl) dX4_margin_3 ?_
  refine lv_istore_n (lv' := [(3, .int (sn_she f i n st)), (0, .ref (a 0)), (1, .int (nI i)), (2, .int st)]) hx hb dX4_margin_6 rfl hl (by decide) rfl (fun ls hl => ?_)
  refine lv_iload_n hx hb dX4_margin_7 rfl (lv_at hl 0 rfl) ?_
  refine lv_if_ne (tgt := 17) hx hb dX4_margin_8 (by decide) (fun c_1 => ?_) (fun c_1 => ?_)
  · refine lv_bipush (v := 100) hx hb dX4_margin_17 (by decide) ?_
    refine lv_aload_n hx hb dX4_margin_19 rfl (lv_at hl 1 rfl) ?_
    refine lv_iload_n hx hb dX4_margin_20 rfl (lv_at hl 2 rfl) ?_
    refine sn_cV 1 0 hC hl (ct_X4_strength l D cI cZ cR a f g kp tp ly nb n hI i (by have := hI.2.1; omega)) gX4_margin_X4_strength rfl (by decide +kernel) rfl ⟨Nat.le_of_ble_eq_true rfl, Nat.le_of_ble_eq_true rfl⟩ ⟨Nat.zero_le _, Nat.zero_le _⟩ hP hK hN rfl rfl rfl (Nat.le_of_ble_eq_true rfl) dX4_margin_21 ?_
    refine lv_imul hx hb dX4_margin_24 ?_
    refine lv_iload_n hx hb dX4_margin_25 rfl (lv_at hl 0 rfl) ?_
    refine lv_idiv hx hb dX4_margin_26 c_1 ?_
    exact sn_ret hx hb hr hlk dX4_margin_27 ((if_neg c_1).symm)
  · refine lv_sipush (v := 9999) hx hb dX4_margin_11 (by decide) ?_
    refine lv_goto (tgt := 27) hx hb dX4_margin_14 (by decide) ?_
    exact sn_ret hx hb hr hlk dX4_margin_27 ((if_pos c_1).symm)
set_option maxRecDepth 100000 in
set_option maxHeartbeats 4000000 in
theorem ct_X4_press (l : Launch) (D : va_G) (cI cZ cR : ClassId) (a : Nat → Nat) (f g kp tp ly : Nat → Int32) (nb : Int32) (n : Nat) (hI : sn_I f n) (i b : Nat) (hib : i + 1 ≤ b) (hb10 : b ≤ 10) (wt : Int32) : sn_Rd l yX4_press wsX4_press 2 [.ref (a 0), .int (nI i), .int (nI b), .int wt] D (sn_ty cI cZ cR) (sn_wM cI cZ a f g kp tp ly nb) (sn_prs f i b wt) := by
  refine sn_rd (cc := cX4_press) (maxL := 4) (ret := (some .int)) (by decide) rfl (Nat.le_of_ble_eq_true rfl) ?_
  intro p e s m below meth c hx hb hml hr hlk hts hown hP hK hN ls hl
  have hC : CallFix p m c cX4_press 4 s [.ref (a 0), .int (nI i), .int (nI b), .int wt].toArray wsX4_press RX4 := ⟨hx, hb, hml, hown, hts⟩
  have hl : lv_has ls 4 [(0, .ref (a 0)), (1, .int (nI i)), (2, .int (nI b)), (3, .int wt)] := hl
  refine lv_bipush (v := 100) hx hb dX4_press_0 (by decide) ?_
  refine lv_iload_n hx hb dX4_press_2 rfl (lv_at hl 3 rfl) ?_
  refine lv_imul hx hb dX4_press_3 ?_
  refine lv_aload_n hx hb dX4_press_4 rfl (lv_at hl 0 rfl) ?_
  refine lv_iload_n hx hb dX4_press_5 rfl (lv_at hl 1 rfl) ?_
  refine lv_iload_n hx hb dX4_press_6 rfl (lv_at hl 2 rfl) ?_
  refine sn_cV 2 0 hC hl (ct_X4_depth l D cI cZ cR a f g kp tp ly nb (nI i) (i + 1) b (nI_1 _) (by omega) (by first | exact hI.2.1 | omega)) gX4_press_X4_depth rfl (by decide +kernel) rfl ⟨Nat.le_of_ble_eq_true rfl, Nat.le_of_ble_eq_true rfl⟩ ⟨Nat.zero_le _, Nat.zero_le _⟩ hP hK hN rfl rfl rfl (Nat.le_of_ble_eq_true rfl) dX4_press_7 ?_
  refine lv_bipush (v := 10) hx hb dX4_press_10 (by decide) ?_
  refine lv_iadd hx hb dX4_press_12 ?_
  refine lv_idiv hx hb dX4_press_13 (sn_dep_ne hI (i + 1) b hb10) ?_
  exact sn_ret hx hb hr hlk dX4_press_14 (rfl)
set_option maxRecDepth 100000 in
set_option maxHeartbeats 4000000 in
theorem ct_X4_layer (l : Launch) (D : va_G) (cI cZ cR : ClassId) (a : Nat → Nat) (f g kp tp ly : Nat → Int32) (nb : Int32) (n : Nat) (hI : sn_I f n) (x y : Int32) : sn_Rd l yX4_layer wsX4_layer 2 [.ref (a 0), .int x, .int y] D (sn_ty cI cZ cR) (sn_wM cI cZ a f g kp tp ly nb) (sn_Rlayer f n x y) := by
  refine sn_rd (cc := cX4_layer) (maxL := 3) (ret := (some .int)) (by decide) rfl (Nat.le_of_ble_eq_true rfl) ?_
  intro p e s m below meth c hx hb hml hr hlk hts hown hP hK hN ls hl
  have hC : CallFix p m c cX4_layer 3 s [.ref (a 0), .int x, .int y].toArray wsX4_layer RX4 := ⟨hx, hb, hml, hown, hts⟩
  have hl : lv_has ls 3 [(0, .ref (a 0)), (1, .int x), (2, .int y)] := hl
  have huX4 : ∀ w ∈ wsX40, w ∈ wsX4_layer := by decide +kernel
  have hn10 := hI.2.1
  refine lv_aload_n hx hb dX4_layer_0 rfl (lv_at hl 0 rfl) ?_
  refine lv_iload_n hx hb dX4_layer_1 rfl (lv_at hl 1 rfl) ?_
  refine sn_cV 1 0 hC hl (ct_X4_isLayer l D cI cZ cR a f g kp tp ly nb n hI x) gX4_layer_X4_isLayer rfl (by decide +kernel) rfl ⟨Nat.le_of_ble_eq_true rfl, Nat.le_of_ble_eq_true rfl⟩ ⟨Nat.zero_le _, Nat.zero_le _⟩ hP hK hN rfl rfl rfl (Nat.le_of_ble_eq_true rfl) dX4_layer_2 ?_
  refine lv_if_ne (tgt := 10) hx hb dX4_layer_5 (by decide) (fun c_1 => ?_) (fun c_1 => ?_)
  · have c_1 : 0 ≤ x ∧ x ≤ nI n - 1 := sn_b_nz.mp c_1
    obtain ⟨i, hi, hie⟩ := sn_isL hn10 c_1
    subst hie
    refine lv_iload_n hx hb dX4_layer_10 rfl (lv_at hl 2 rfl) ?_
    by_cases t_0 : y = 0
    · subst t_0
      refine lv_tableIn (tgt := 56) hx hb dX4_layer_11 (by decide) (by decide) (by decide +kernel : _ = some (45 : Int)) (by decide) ?_
      refine lv_aload_n hx hb dX4_layer_56 rfl (lv_at hl 0 rfl) ?_
      refine va_get (D := D) (ci := 3) (v := .ref (a 1)) (C := RX4) (T := TX4) (N := 6) hx hb hts huX4 hown hK hP 0 rfl rfl 0 (by decide) (hts (.fieldLink RX4 7 "SnowSlabsModel" "state" "[I") (by decide +kernel)) (fun _ h9 => h9) rfl dX4_layer_57 ?_
      refine lv_iload_n hx hb dX4_layer_60 rfl (lv_at hl 1 rfl) ?_
      refine lv_iload_n hx hb dX4_layer_61 rfl (lv_at hl 2 rfl) ?_
      refine sn_cS 2 hC hl (ct_X4_at l D _ [] i 0) gX4_layer_X4_at rfl (by decide +kernel) rfl ⟨Nat.le_of_ble_eq_true rfl, Nat.le_of_ble_eq_true rfl⟩ ⟨Nat.zero_le _, Nat.zero_le _⟩ (fun _ _ h => by simp at h) hK hN rfl (Nat.le_of_ble_eq_true rfl) dX4_layer_62 ?_
      refine sn_top (y := nI (7 + 5 * i)) (congrArg nI (show _ = 7 + 5 * i by omega)) ?_
      refine sn_ild (k := 7 + 5 * i) (v := f (7 + 5 * i)) 1 0 hx hb hK hP rfl rfl (by omega) (by decide) rfl (rfl) dX4_layer_65 ?_
      exact sn_ret hx hb hr hlk dX4_layer_66 (((if_pos c_1).trans ((congrArg (fun z => sn_RlayerN f n z 0) (nI_clamp (by omega))).trans (rfl))).symm)
    · skip
      by_cases t_1 : y = 1
      · subst t_1
        refine lv_tableIn (tgt := 56) hx hb dX4_layer_11 (by decide) (by decide) (by decide +kernel : _ = some (45 : Int)) (by decide) ?_
        refine lv_aload_n hx hb dX4_layer_56 rfl (lv_at hl 0 rfl) ?_
        refine va_get (D := D) (ci := 3) (v := .ref (a 1)) (C := RX4) (T := TX4) (N := 6) hx hb hts huX4 hown hK hP 0 rfl rfl 0 (by decide) (hts (.fieldLink RX4 7 "SnowSlabsModel" "state" "[I") (by decide +kernel)) (fun _ h9 => h9) rfl dX4_layer_57 ?_
        refine lv_iload_n hx hb dX4_layer_60 rfl (lv_at hl 1 rfl) ?_
        refine lv_iload_n hx hb dX4_layer_61 rfl (lv_at hl 2 rfl) ?_
        refine sn_cS 2 hC hl (ct_X4_at l D _ [] i 1) gX4_layer_X4_at rfl (by decide +kernel) rfl ⟨Nat.le_of_ble_eq_true rfl, Nat.le_of_ble_eq_true rfl⟩ ⟨Nat.zero_le _, Nat.zero_le _⟩ (fun _ _ h => by simp at h) hK hN rfl (Nat.le_of_ble_eq_true rfl) dX4_layer_62 ?_
        refine sn_top (y := nI (8 + 5 * i)) (congrArg nI (show _ = 8 + 5 * i by omega)) ?_
        refine sn_ild (k := 8 + 5 * i) (v := f (8 + 5 * i)) 1 0 hx hb hK hP rfl rfl (by omega) (by decide) rfl (rfl) dX4_layer_65 ?_
        exact sn_ret hx hb hr hlk dX4_layer_66 (((if_pos c_1).trans ((congrArg (fun z => sn_RlayerN f n z 1) (nI_clamp (by omega))).trans (rfl))).symm)
      · skip
        by_cases t_2 : y = 2
        · subst t_2
          refine lv_tableIn (tgt := 56) hx hb dX4_layer_11 (by decide) (by decide) (by decide +kernel : _ = some (45 : Int)) (by decide) ?_
          refine lv_aload_n hx hb dX4_layer_56 rfl (lv_at hl 0 rfl) ?_
          refine va_get (D := D) (ci := 3) (v := .ref (a 1)) (C := RX4) (T := TX4) (N := 6) hx hb hts huX4 hown hK hP 0 rfl rfl 0 (by decide) (hts (.fieldLink RX4 7 "SnowSlabsModel" "state" "[I") (by decide +kernel)) (fun _ h9 => h9) rfl dX4_layer_57 ?_
          refine lv_iload_n hx hb dX4_layer_60 rfl (lv_at hl 1 rfl) ?_
          refine lv_iload_n hx hb dX4_layer_61 rfl (lv_at hl 2 rfl) ?_
          refine sn_cS 2 hC hl (ct_X4_at l D _ [] i 2) gX4_layer_X4_at rfl (by decide +kernel) rfl ⟨Nat.le_of_ble_eq_true rfl, Nat.le_of_ble_eq_true rfl⟩ ⟨Nat.zero_le _, Nat.zero_le _⟩ (fun _ _ h => by simp at h) hK hN rfl (Nat.le_of_ble_eq_true rfl) dX4_layer_62 ?_
          refine sn_top (y := nI (9 + 5 * i)) (congrArg nI (show _ = 9 + 5 * i by omega)) ?_
          refine sn_ild (k := 9 + 5 * i) (v := f (9 + 5 * i)) 1 0 hx hb hK hP rfl rfl (by omega) (by decide) rfl (rfl) dX4_layer_65 ?_
          exact sn_ret hx hb hr hlk dX4_layer_66 (((if_pos c_1).trans ((congrArg (fun z => sn_RlayerN f n z 2) (nI_clamp (by omega))).trans (rfl))).symm)
        · skip
          by_cases t_3 : y = 3
          · subst t_3
            refine lv_tableIn (tgt := 56) hx hb dX4_layer_11 (by decide) (by decide) (by decide +kernel : _ = some (45 : Int)) (by decide) ?_
            refine lv_aload_n hx hb dX4_layer_56 rfl (lv_at hl 0 rfl) ?_
            refine va_get (D := D) (ci := 3) (v := .ref (a 1)) (C := RX4) (T := TX4) (N := 6) hx hb hts huX4 hown hK hP 0 rfl rfl 0 (by decide) (hts (.fieldLink RX4 7 "SnowSlabsModel" "state" "[I") (by decide +kernel)) (fun _ h9 => h9) rfl dX4_layer_57 ?_
            refine lv_iload_n hx hb dX4_layer_60 rfl (lv_at hl 1 rfl) ?_
            refine lv_iload_n hx hb dX4_layer_61 rfl (lv_at hl 2 rfl) ?_
            refine sn_cS 2 hC hl (ct_X4_at l D _ [] i 3) gX4_layer_X4_at rfl (by decide +kernel) rfl ⟨Nat.le_of_ble_eq_true rfl, Nat.le_of_ble_eq_true rfl⟩ ⟨Nat.zero_le _, Nat.zero_le _⟩ (fun _ _ h => by simp at h) hK hN rfl (Nat.le_of_ble_eq_true rfl) dX4_layer_62 ?_
            refine sn_top (y := nI (10 + 5 * i)) (congrArg nI (show _ = 10 + 5 * i by omega)) ?_
            refine sn_ild (k := 10 + 5 * i) (v := f (10 + 5 * i)) 1 0 hx hb hK hP rfl rfl (by omega) (by decide) rfl (rfl) dX4_layer_65 ?_
            exact sn_ret hx hb hr hlk dX4_layer_66 (((if_pos c_1).trans ((congrArg (fun z => sn_RlayerN f n z 3) (nI_clamp (by omega))).trans (rfl))).symm)
          · skip
            by_cases t_4 : y = 4
            · subst t_4
              refine lv_tableIn (tgt := 56) hx hb dX4_layer_11 (by decide) (by decide) (by decide +kernel : _ = some (45 : Int)) (by decide) ?_
              refine lv_aload_n hx hb dX4_layer_56 rfl (lv_at hl 0 rfl) ?_
              refine va_get (D := D) (ci := 3) (v := .ref (a 1)) (C := RX4) (T := TX4) (N := 6) hx hb hts huX4 hown hK hP 0 rfl rfl 0 (by decide) (hts (.fieldLink RX4 7 "SnowSlabsModel" "state" "[I") (by decide +kernel)) (fun _ h9 => h9) rfl dX4_layer_57 ?_
              refine lv_iload_n hx hb dX4_layer_60 rfl (lv_at hl 1 rfl) ?_
              refine lv_iload_n hx hb dX4_layer_61 rfl (lv_at hl 2 rfl) ?_
              refine sn_cS 2 hC hl (ct_X4_at l D _ [] i 4) gX4_layer_X4_at rfl (by decide +kernel) rfl ⟨Nat.le_of_ble_eq_true rfl, Nat.le_of_ble_eq_true rfl⟩ ⟨Nat.zero_le _, Nat.zero_le _⟩ (fun _ _ h => by simp at h) hK hN rfl (Nat.le_of_ble_eq_true rfl) dX4_layer_62 ?_
              refine sn_top (y := nI (11 + 5 * i)) (congrArg nI (show _ = 11 + 5 * i by omega)) ?_
              refine sn_ild (k := 11 + 5 * i) (v := f (11 + 5 * i)) 1 0 hx hb hK hP rfl rfl (by omega) (by decide) rfl (rfl) dX4_layer_65 ?_
              exact sn_ret hx hb hr hlk dX4_layer_66 (((if_pos c_1).trans ((congrArg (fun z => sn_RlayerN f n z 4) (nI_clamp (by omega))).trans (rfl))).symm)
            · skip
              by_cases t_5 : y = 5
              · subst t_5
                refine lv_tableIn (tgt := 67) hx hb dX4_layer_11 (by decide) (by decide) (by decide +kernel : _ = some (56 : Int)) (by decide) ?_
                refine lv_aload_n hx hb dX4_layer_67 rfl (lv_at hl 0 rfl) ?_
                refine lv_iload_n hx hb dX4_layer_68 rfl (lv_at hl 1 rfl) ?_
                refine sn_cV 1 0 hC hl (ct_X4_strength l D cI cZ cR a f g kp tp ly nb n hI i (by have := hI.2.1; omega)) gX4_layer_X4_strength rfl (by decide +kernel) rfl ⟨Nat.le_of_ble_eq_true rfl, Nat.le_of_ble_eq_true rfl⟩ ⟨Nat.zero_le _, Nat.zero_le _⟩ hP hK hN rfl rfl rfl (Nat.le_of_ble_eq_true rfl) dX4_layer_69 ?_
                exact sn_ret hx hb hr hlk dX4_layer_72 (((if_pos c_1).trans ((congrArg (fun z => sn_RlayerN f n z 5) (nI_clamp (by omega))).trans (rfl))).symm)
              · skip
                by_cases t_6 : y = 6
                · subst t_6
                  refine lv_tableIn (tgt := 73) hx hb dX4_layer_11 (by decide) (by decide) (by decide +kernel : _ = some (62 : Int)) (by decide) ?_
                  refine lv_aload_n hx hb dX4_layer_73 rfl (lv_at hl 0 rfl) ?_
                  refine lv_iload_n hx hb dX4_layer_74 rfl (lv_at hl 1 rfl) ?_
                  refine lv_aload_n hx hb dX4_layer_75 rfl (lv_at hl 0 rfl) ?_
                  refine va_get (D := D) (ci := 3) (v := .ref (a 1)) (C := RX4) (T := TX4) (N := 6) hx hb hts huX4 hown hK hP 0 rfl rfl 0 (by decide) (hts (.fieldLink RX4 7 "SnowSlabsModel" "state" "[I") (by decide +kernel)) (fun _ h9 => h9) rfl dX4_layer_76 ?_
                  refine lv_iconst (v := 0) hx hb dX4_layer_79 (by decide) ?_
                  refine sn_ild (k := 0) (v := f 0) 1 0 hx hb hK hP rfl rfl (by omega) (by decide) rfl (rfl) dX4_layer_80 ?_
                  refine sn_top (hI.1) ?_
                  refine sn_cV 2 0 hC hl (ct_X4_depth l D cI cZ cR a f g kp tp ly nb (nI i) (i + 1) n (nI_1 _) (by omega) (by first | exact hI.2.1 | omega)) gX4_layer_X4_depth rfl (by decide +kernel) rfl ⟨Nat.le_of_ble_eq_true rfl, Nat.le_of_ble_eq_true rfl⟩ ⟨Nat.zero_le _, Nat.zero_le _⟩ hP hK hN rfl rfl rfl (Nat.le_of_ble_eq_true rfl) dX4_layer_81 ?_
                  exact sn_ret hx hb hr hlk dX4_layer_84 (((if_pos c_1).trans ((congrArg (fun z => sn_RlayerN f n z 6) (nI_clamp (by omega))).trans (rfl))).symm)
                · skip
                  by_cases t_7 : y = 7
                  · subst t_7
                    refine lv_tableIn (tgt := 85) hx hb dX4_layer_11 (by decide) (by decide) (by decide +kernel : _ = some (74 : Int)) (by decide) ?_
                    refine lv_aload_n hx hb dX4_layer_85 rfl (lv_at hl 0 rfl) ?_
                    refine lv_iload_n hx hb dX4_layer_86 rfl (lv_at hl 1 rfl) ?_
                    refine lv_aload_n hx hb dX4_layer_87 rfl (lv_at hl 0 rfl) ?_
                    refine va_get (D := D) (ci := 3) (v := .ref (a 1)) (C := RX4) (T := TX4) (N := 6) hx hb hts huX4 hown hK hP 0 rfl rfl 0 (by decide) (hts (.fieldLink RX4 7 "SnowSlabsModel" "state" "[I") (by decide +kernel)) (fun _ h9 => h9) rfl dX4_layer_88 ?_
                    refine lv_iconst (v := 0) hx hb dX4_layer_91 (by decide) ?_
                    refine sn_ild (k := 0) (v := f 0) 1 0 hx hb hK hP rfl rfl (by omega) (by decide) rfl (rfl) dX4_layer_92 ?_
                    refine sn_top (hI.1) ?_
                    refine sn_cV 2 0 hC hl (ct_X4_load l D cI cZ cR a f g kp tp ly nb i n (by omega) (by first | exact hI.2.1 | omega)) gX4_layer_X4_load rfl (by decide +kernel) rfl ⟨Nat.le_of_ble_eq_true rfl, Nat.le_of_ble_eq_true rfl⟩ ⟨Nat.zero_le _, Nat.zero_le _⟩ hP hK hN rfl rfl rfl (Nat.le_of_ble_eq_true rfl) dX4_layer_93 ?_
                    exact sn_ret hx hb hr hlk dX4_layer_96 (((if_pos c_1).trans ((congrArg (fun z => sn_RlayerN f n z 7) (nI_clamp (by omega))).trans (rfl))).symm)
                  · refine lv_tableOut (tgt := 97) hx hb dX4_layer_11 (by have e0 := lv_neT t_0 (a := 0) rfl; have e1 := lv_neT t_1 (a := 1) rfl; have e2 := lv_neT t_2 (a := 2) rfl; have e3 := lv_neT t_3 (a := 3) rfl; have e4 := lv_neT t_4 (a := 4) rfl; have e5 := lv_neT t_5 (a := 5) rfl; have e6 := lv_neT t_6 (a := 6) rfl; have e7 := lv_neT t_7 (a := 7) rfl; omega) (by decide) ?_
                    refine lv_bipush (v := (-2)) hx hb dX4_layer_97 (by decide) ?_
                    exact sn_ret hx hb hr hlk dX4_layer_99 (((if_pos c_1).trans (show sn_RlayerN f n _ y = -2 from (((if_neg t_0).trans ((if_neg t_1).trans ((if_neg t_2).trans ((if_neg t_3).trans ((if_neg t_4).trans ((if_neg t_5).trans ((if_neg t_6).trans ((if_neg t_7).trans (rfl))))))))).symm).symm)).symm)
  · have c_1 : ¬ (0 ≤ x ∧ x ≤ nI n - 1) := sn_b_z.mp c_1
    refine lv_iconst (v := (-1)) hx hb dX4_layer_8 (by decide) ?_
    exact sn_ret hx hb hr hlk dX4_layer_9 ((if_neg c_1).symm)
set_option maxRecDepth 100000 in
set_option maxHeartbeats 4000000 in
theorem ct_X4_isSteep (l : Launch) (D : va_G) (tys : List (ClassId × FieldType)) (w : va_W) (x : Int32) : sn_Rd l yX4_isSteep wsX4_isSteep 1 [.int x] D tys (w) (sn_b (0 ≤ x ∧ x ≤ 100)) := by
  refine sn_rd (cc := cX4_isSteep) (maxL := 1) (ret := (some .boolean)) (by decide) rfl (Nat.le_of_ble_eq_true rfl) ?_
  intro p e s m below meth c hx hb hml hr hlk hts hown hP hK hN ls hl
  have hC : CallFix p m c cX4_isSteep 1 s [.int x].toArray wsX4_isSteep RX4 := ⟨hx, hb, hml, hown, hts⟩
  have hl : lv_has ls 1 [(0, .int x)] := hl
  refine lv_iload_n hx hb dX4_isSteep_0 rfl (lv_at hl 0 rfl) ?_
  refine lv_iconst (v := 0) hx hb dX4_isSteep_1 (by decide) ?_
  refine lv_bipush (v := 100) hx hb dX4_isSteep_2 (by decide) ?_
  refine sn_cS 3 hC hl (ct_X4_in l D _ [] x 0 100) gX4_isSteep_X4_in rfl (by decide +kernel) rfl ⟨Nat.le_of_ble_eq_true rfl, Nat.le_of_ble_eq_true rfl⟩ ⟨Nat.zero_le _, Nat.zero_le _⟩ (fun _ _ h => by simp at h) hK hN rfl (Nat.le_of_ble_eq_true rfl) dX4_isSteep_4 ?_
  exact sn_zret hx hb hr hlk dX4_isSteep_7 (sn_b_01 _) (rfl)
set_option maxRecDepth 100000 in
set_option maxHeartbeats 4000000 in
theorem ct_X4_isSide (l : Launch) (D : va_G) (tys : List (ClassId × FieldType)) (w : va_W) (x : Int32) : sn_Rd l yX4_isSide wsX4_isSide 1 [.int x] D tys (w) (sn_b (0 ≤ x ∧ x ≤ 7)) := by
  refine sn_rd (cc := cX4_isSide) (maxL := 1) (ret := (some .boolean)) (by decide) rfl (Nat.le_of_ble_eq_true rfl) ?_
  intro p e s m below meth c hx hb hml hr hlk hts hown hP hK hN ls hl
  have hC : CallFix p m c cX4_isSide 1 s [.int x].toArray wsX4_isSide RX4 := ⟨hx, hb, hml, hown, hts⟩
  have hl : lv_has ls 1 [(0, .int x)] := hl
  refine lv_iload_n hx hb dX4_isSide_0 rfl (lv_at hl 0 rfl) ?_
  refine lv_iconst (v := 0) hx hb dX4_isSide_1 (by decide) ?_
  refine lv_bipush (v := 7) hx hb dX4_isSide_2 (by decide) ?_
  refine sn_cS 3 hC hl (ct_X4_in l D _ [] x 0 7) gX4_isSide_X4_in rfl (by decide +kernel) rfl ⟨Nat.le_of_ble_eq_true rfl, Nat.le_of_ble_eq_true rfl⟩ ⟨Nat.zero_le _, Nat.zero_le _⟩ (fun _ _ h => by simp at h) hK hN rfl (Nat.le_of_ble_eq_true rfl) dX4_isSide_4 ?_
  exact sn_zret hx hb hr hlk dX4_isSide_7 (sn_b_01 _) (rfl)
set_option maxRecDepth 100000 in
set_option maxHeartbeats 4000000 in
theorem ct_X4_slope (l : Launch) (D : va_G) (cI cZ cR : ClassId) (a : Nat → Nat) (f g kp tp ly : Nat → Int32) (nb : Int32) (n : Nat) (hI : sn_I f n) (x y z : Int32) : sn_Rd l yX4_slope wsX4_slope 4 [.ref (a 0), .int x, .int y, .int z] D (sn_ty cI cZ cR) (sn_wM cI cZ a f g kp tp ly nb) (sn_Rslope f n x y z) := by
  refine sn_rd (cc := cX4_slope) (maxL := 4) (ret := (some .int)) (by decide) rfl (Nat.le_of_ble_eq_true rfl) ?_
  intro p e s m below meth c hx hb hml hr hlk hts hown hP hK hN ls hl
  have hC : CallFix p m c cX4_slope 4 s [.ref (a 0), .int x, .int y, .int z].toArray wsX4_slope RX4 := ⟨hx, hb, hml, hown, hts⟩
  have hl : lv_has ls 4 [(0, .ref (a 0)), (1, .int x), (2, .int y), (3, .int z)] := hl
  have hn10 := hI.2.1
  refine lv_aload_n hx hb dX4_slope_0 rfl (lv_at hl 0 rfl) ?_
  refine lv_iload_n hx hb dX4_slope_1 rfl (lv_at hl 1 rfl) ?_
  refine sn_cV 1 0 hC hl (ct_X4_isLayer l D cI cZ cR a f g kp tp ly nb n hI x) gX4_slope_X4_isLayer rfl (by decide +kernel) rfl ⟨Nat.le_of_ble_eq_true rfl, Nat.le_of_ble_eq_true rfl⟩ ⟨Nat.zero_le _, Nat.zero_le _⟩ hP hK hN rfl rfl rfl (Nat.le_of_ble_eq_true rfl) dX4_slope_2 ?_
  refine lv_if_ne (tgt := 10) hx hb dX4_slope_5 (by decide) (fun c_1 => ?_) (fun c_1 => ?_)
  · have c_1 : 0 ≤ x ∧ x ≤ nI n - 1 := sn_b_nz.mp c_1
    obtain ⟨i, hi, hie⟩ := sn_isL hn10 c_1
    subst hie
    refine lv_iload_n hx hb dX4_slope_10 rfl (lv_at hl 2 rfl) ?_
    refine sn_cS 1 hC hl (ct_X4_isSteep l D _ [] y) gX4_slope_X4_isSteep rfl (by decide +kernel) rfl ⟨Nat.le_of_ble_eq_true rfl, Nat.le_of_ble_eq_true rfl⟩ ⟨Nat.zero_le _, Nat.zero_le _⟩ (fun _ _ h => by simp at h) hK hN rfl (Nat.le_of_ble_eq_true rfl) dX4_slope_11 ?_
    refine lv_if_eq (tgt := 26) hx hb dX4_slope_14 (by decide) (fun c_2 => ?_) (fun c_2 => ?_)
    · have c_2 : ¬ (0 ≤ y ∧ y ≤ 100) := sn_b_z.mp c_2
      refine lv_bipush (v := (-2)) hx hb dX4_slope_26 (by decide) ?_
      exact sn_ret hx hb hr hlk dX4_slope_28 (((if_pos c_1).trans (if_neg (fun h => c_2 h.1))).symm)
    · have c_2 : 0 ≤ y ∧ y ≤ 100 := sn_b_nz.mp c_2
      refine lv_iload_n hx hb dX4_slope_17 rfl (lv_at hl 3 rfl) ?_
      refine lv_iconst (v := 0) hx hb dX4_slope_18 (by decide) ?_
      refine lv_iconst (v := 1) hx hb dX4_slope_19 (by decide) ?_
      refine sn_cS 3 hC hl (ct_X4_in l D _ [] z 0 1) gX4_slope_X4_in rfl (by decide +kernel) rfl ⟨Nat.le_of_ble_eq_true rfl, Nat.le_of_ble_eq_true rfl⟩ ⟨Nat.zero_le _, Nat.zero_le _⟩ (fun _ _ h => by simp at h) hK hN rfl (Nat.le_of_ble_eq_true rfl) dX4_slope_20 ?_
      refine lv_if_ne (tgt := 29) hx hb dX4_slope_23 (by decide) (fun c_3 => ?_) (fun c_3 => ?_)
      · have c_3 : 0 ≤ z ∧ z ≤ 1 := sn_b_nz.mp c_3
        refine lv_iload_n hx hb dX4_slope_29 rfl (lv_at hl 3 rfl) ?_
        refine lv_if_ne (tgt := 42) hx hb dX4_slope_30 (by decide) (fun c_4 => ?_) (fun c_4 => ?_)
        · refine lv_aload_n hx hb dX4_slope_42 rfl (lv_at hl 0 rfl) ?_
          refine lv_iload_n hx hb dX4_slope_43 rfl (lv_at hl 1 rfl) ?_
          refine lv_iload_n hx hb dX4_slope_44 rfl (lv_at hl 2 rfl) ?_
          refine sn_cV 2 0 hC hl (ct_X4_margin l D cI cZ cR a f g kp tp ly nb n hI i (by omega) y) gX4_slope_X4_margin rfl (by decide +kernel) rfl ⟨Nat.le_of_ble_eq_true rfl, Nat.le_of_ble_eq_true rfl⟩ ⟨Nat.zero_le _, Nat.zero_le _⟩ hP hK hN rfl rfl rfl (Nat.le_of_ble_eq_true rfl) dX4_slope_45 ?_
          exact sn_ret hx hb hr hlk dX4_slope_48 (((if_pos c_1).trans ((if_pos (⟨c_2, c_3⟩)).trans ((if_neg c_4).trans (by rw [nI_clamp (by omega)])))).symm)
        · refine lv_aload_n hx hb dX4_slope_33 rfl (lv_at hl 0 rfl) ?_
          refine lv_iload_n hx hb dX4_slope_34 rfl (lv_at hl 1 rfl) ?_
          refine lv_iload_n hx hb dX4_slope_35 rfl (lv_at hl 2 rfl) ?_
          refine sn_cV 2 0 hC hl (ct_X4_shear l D cI cZ cR a f g kp tp ly nb n hI i (by omega) y) gX4_slope_X4_shear rfl (by decide +kernel) rfl ⟨Nat.le_of_ble_eq_true rfl, Nat.le_of_ble_eq_true rfl⟩ ⟨Nat.zero_le _, Nat.zero_le _⟩ hP hK hN rfl rfl rfl (Nat.le_of_ble_eq_true rfl) dX4_slope_36 ?_
          refine lv_goto (tgt := 48) hx hb dX4_slope_39 (by decide) ?_
          exact sn_ret hx hb hr hlk dX4_slope_48 (((if_pos c_1).trans ((if_pos (⟨c_2, c_3⟩)).trans ((if_pos c_4).trans (by rw [nI_clamp (by omega)])))).symm)
      · have c_3 : ¬ (0 ≤ z ∧ z ≤ 1) := sn_b_z.mp c_3
        refine lv_bipush (v := (-2)) hx hb dX4_slope_26 (by decide) ?_
        exact sn_ret hx hb hr hlk dX4_slope_28 (((if_pos c_1).trans (if_neg (fun h => c_3 h.2))).symm)
  · have c_1 : ¬ (0 ≤ x ∧ x ≤ nI n - 1) := sn_b_z.mp c_1
    refine lv_iconst (v := (-1)) hx hb dX4_slope_8 (by decide) ?_
    exact sn_ret hx hb hr hlk dX4_slope_9 ((if_neg c_1).symm)
set_option maxRecDepth 100000 in
set_option maxHeartbeats 4000000 in
theorem ct_X4_weakest (l : Launch) (D : va_G) (cI cZ cR : ClassId) (a : Nat → Nat) (f g kp tp ly : Nat → Int32) (nb : Int32) (n : Nat) (hI : sn_I f n) (x y : Int32) : sn_Rd l yX4_weakest wsX4_weakest 4 [.ref (a 0), .int x, .int y] D (sn_ty cI cZ cR) (sn_wM cI cZ a f g kp tp ly nb) (sn_Rweak f n x y) := by
  refine sn_rd (cc := cX4_weakest) (maxL := 5) (ret := (some .int)) (by decide) rfl (Nat.le_of_ble_eq_true rfl) ?_
  intro p e s m below meth c hx hb hml hr hlk hts hown hP hK hN ls hl
  have hC : CallFix p m c cX4_weakest 5 s [.ref (a 0), .int x, .int y].toArray wsX4_weakest RX4 := ⟨hx, hb, hml, hown, hts⟩
  have hl : lv_has ls 5 [(0, .ref (a 0)), (1, .int x), (2, .int y)] := hl
  have hn10 := hI.2.1
  refine lv_iload_n hx hb dX4_weakest_0 rfl (lv_at hl 1 rfl) ?_
  refine sn_cS 1 hC hl (ct_X4_isSteep l D _ [] x) gX4_weakest_X4_isSteep rfl (by decide +kernel) rfl ⟨Nat.le_of_ble_eq_true rfl, Nat.le_of_ble_eq_true rfl⟩ ⟨Nat.zero_le _, Nat.zero_le _⟩ (fun _ _ h => by simp at h) hK hN rfl (Nat.le_of_ble_eq_true rfl) dX4_weakest_1 ?_
  refine lv_if_eq (tgt := 16) hx hb dX4_weakest_4 (by decide) (fun c_1 => ?_) (fun c_1 => ?_)
  · have c_1 : ¬ (0 ≤ x ∧ x ≤ 100) := sn_b_z.mp c_1
    refine lv_bipush (v := (-2)) hx hb dX4_weakest_16 (by decide) ?_
    exact sn_ret hx hb hr hlk dX4_weakest_18 ((if_neg (fun h => c_1 h.1)).symm)
  · have c_1 : 0 ≤ x ∧ x ≤ 100 := sn_b_nz.mp c_1
    refine lv_iload_n hx hb dX4_weakest_7 rfl (lv_at hl 2 rfl) ?_
    refine lv_iconst (v := 0) hx hb dX4_weakest_8 (by decide) ?_
    refine lv_iconst (v := 1) hx hb dX4_weakest_9 (by decide) ?_
    refine sn_cS 3 hC hl (ct_X4_in l D _ [] y 0 1) gX4_weakest_X4_in rfl (by decide +kernel) rfl ⟨Nat.le_of_ble_eq_true rfl, Nat.le_of_ble_eq_true rfl⟩ ⟨Nat.zero_le _, Nat.zero_le _⟩ (fun _ _ h => by simp at h) hK hN rfl (Nat.le_of_ble_eq_true rfl) dX4_weakest_10 ?_
    refine lv_if_ne (tgt := 19) hx hb dX4_weakest_13 (by decide) (fun c_2 => ?_) (fun c_2 => ?_)
    · have c_2 : 0 ≤ y ∧ y ≤ 1 := sn_b_nz.mp c_2
      refine lv_bipush (v := (-6)) hx hb dX4_weakest_19 (by decide) ?_
      refine lv_istore_n (lv' := [(3, .int (-6)), (0, .ref (a 0)), (1, .int x), (2, .int y)]) hx hb dX4_weakest_21 rfl hl (by decide) rfl (fun ls hl => ?_)
      refine lv_iconst (v := 0) hx hb dX4_weakest_22 (by decide) ?_
      refine lv_istore (lv' := [(4, .int 0), (3, .int (-6)), (0, .ref (a 0)), (1, .int x), (2, .int y)]) hx hb dX4_weakest_23 hl (by decide) rfl (fun ls hl => ?_)
      have loop : ∀ (fu : Nat) (k : Nat), (k ≤ n - 1) → n - 1 - k < fu → ∀ ls : Array Slot, lv_has ls 5 [(0, .ref (a 0)), (1, .int x), (2, .int y), (3, .int (sn_en (sn_wkA f n x k))), (4, .int (nI k))] → W p l e (sn_rm 4 0 0) s m [.ref (a 0), .int x, .int y].toArray below meth c s.heap [] 0 0 (MQ below (vp_Si (fun r_ => r_ = (sn_Rweak f n x y))) [.ref (a 0), .int x, .int y].toArray s 0 0 (fun _ => False)) (F0 m 25 ls []) := by
        intro fu
        induction fu with
        | zero => intro k h1 hm; exact absurd hm (Nat.not_lt_zero _)
        | succ fu ih_loop =>
          intro k h1 hm ls hl
          refine lv_iload hx hb dX4_weakest_25 (lv_at hl 4 rfl) ?_
          refine lv_aload_n hx hb dX4_weakest_27 rfl (lv_at hl 0 rfl) ?_
          refine sn_cV 0 0 hC hl (ct_X4_top l D cI cZ cR a f g kp tp ly nb n hI ) gX4_weakest_X4_top rfl (by decide +kernel) rfl ⟨Nat.le_of_ble_eq_true rfl, Nat.le_of_ble_eq_true rfl⟩ ⟨Nat.zero_le _, Nat.zero_le _⟩ hP hK hN rfl rfl rfl (Nat.le_of_ble_eq_true rfl) dX4_weakest_28 ?_
          refine lv_icmp_ge (tgt := 67) hx hb dX4_weakest_31 (by decide) (fun c_3 => ?_) (fun c_3 => ?_)
          · have c_3 := (sn_getop hn10 (by omega)).mp c_3
            have hwk : sn_wk f n x = sn_wkA f n x k := by unfold sn_wk; rw [show n - 1 = k by omega]
            refine lv_iload_n hx hb dX4_weakest_67 rfl (lv_at hl 3 rfl) ?_
            refine lv_if_lt (tgt := 75) hx hb dX4_weakest_68 (by decide) (fun c_4 => ?_) (fun c_4 => ?_)
            · have hwl := sn_wkA_le f n x k
              have c_4 := (sn_en_neg (by omega)).mp c_4
              refine lv_iload_n hx hb dX4_weakest_75 rfl (lv_at hl 3 rfl) ?_
              refine lv_goto (tgt := 85) hx hb dX4_weakest_76 (by decide) ?_
              exact sn_ret hx hb hr hlk dX4_weakest_85 (((if_pos (⟨c_1, c_2⟩)).trans ((if_pos (by rw [hwk]; exact c_4)).trans (by rw [c_4]; rfl))).symm)
            · have hwl := sn_wkA_le f n x k
              have c_4 : ¬ sn_wkA f n x k = 0 := fun z => c_4 ((sn_en_neg (by omega)).mpr z)
              refine lv_iload_n hx hb dX4_weakest_71 rfl (lv_at hl 2 rfl) ?_
              refine lv_if_ne (tgt := 79) hx hb dX4_weakest_72 (by decide) (fun c_5 => ?_) (fun c_5 => ?_)
              · refine lv_aload_n hx hb dX4_weakest_79 rfl (lv_at hl 0 rfl) ?_
                refine lv_iload_n hx hb dX4_weakest_80 rfl (lv_at hl 3 rfl) ?_
                refine sn_top (y := nI (sn_wkA f n x k - 1)) (sn_en_pos c_4) ?_
                refine lv_iload_n hx hb dX4_weakest_81 rfl (lv_at hl 1 rfl) ?_
                refine sn_cV 2 0 hC hl (ct_X4_margin l D cI cZ cR a f g kp tp ly nb n hI (sn_wkA f n x k - 1) (by omega) x) gX4_weakest_X4_margin rfl (by decide +kernel) rfl ⟨Nat.le_of_ble_eq_true rfl, Nat.le_of_ble_eq_true rfl⟩ ⟨Nat.zero_le _, Nat.zero_le _⟩ hP hK hN rfl rfl rfl (Nat.le_of_ble_eq_true rfl) dX4_weakest_82 ?_
                exact sn_ret hx hb hr hlk dX4_weakest_85 (((if_pos (⟨c_1, c_2⟩)).trans ((if_neg (by rw [hwk]; exact c_4)).trans ((if_neg c_5).trans (by rw [hwk])))).symm)
              · refine lv_iload_n hx hb dX4_weakest_75 rfl (lv_at hl 3 rfl) ?_
                refine lv_goto (tgt := 85) hx hb dX4_weakest_76 (by decide) ?_
                exact sn_ret hx hb hr hlk dX4_weakest_85 (((if_pos (⟨c_1, c_2⟩)).trans ((if_neg (by rw [hwk]; exact c_4)).trans ((if_pos c_5).trans (by rw [hwk]; exact (sn_en_pos c_4).symm)))).symm)
          · have c_3 : ¬ n - 1 ≤ k := fun z => c_3 ((sn_getop hn10 (by omega)).mpr z)
            refine lv_iload_n hx hb dX4_weakest_34 rfl (lv_at hl 3 rfl) ?_
            refine lv_if_lt (tgt := 54) hx hb dX4_weakest_35 (by decide) (fun c_6 => ?_) (fun c_6 => ?_)
            · have hwl := sn_wkA_le f n x k
              have c_6 := (sn_en_neg (by omega)).mp c_6
              refine lv_iload hx hb dX4_weakest_54 (lv_at hl 4 rfl) ?_
              refine lv_goto (tgt := 60) hx hb dX4_weakest_56 (by decide) ?_
              refine sn_top (y := sn_en (sn_wkA f n x (k + 1))) (by rw [show sn_wkA f n x (k + 1) = k + 1 from if_pos (Or.inl c_6)]; rfl) ?_
              refine lv_istore_n (lv' := [(3, .int (sn_en (sn_wkA f n x (k + 1)))), (0, .ref (a 0)), (1, .int x), (2, .int y), (4, .int (nI k))]) hx hb dX4_weakest_60 rfl hl (by decide) rfl (fun ls hl => ?_)
              refine lv_iinc (v := nI (k + 1)) (lv' := [(4, .int (nI (k + 1))), (3, .int (sn_en (sn_wkA f n x (k + 1)))), (0, .ref (a 0)), (1, .int x), (2, .int y)]) hx hb dX4_weakest_61 hl (k := 4) rfl (sn_inc _) (by decide) rfl (fun ls hl => ?_)
              refine lv_goto (tgt := 25) hx hb dX4_weakest_64 (by decide) ?_
              exact ih_loop (k + 1) (by omega) (by omega) ls (lv_sub hl [2, 3, 4, 1, 0] rfl)
            · have hwl := sn_wkA_le f n x k
              have c_6 : ¬ sn_wkA f n x k = 0 := fun z => c_6 ((sn_en_neg (by omega)).mpr z)
              refine lv_aload_n hx hb dX4_weakest_38 rfl (lv_at hl 0 rfl) ?_
              refine lv_iload hx hb dX4_weakest_39 (lv_at hl 4 rfl) ?_
              refine lv_iload_n hx hb dX4_weakest_41 rfl (lv_at hl 1 rfl) ?_
              refine sn_cV 2 0 hC hl (ct_X4_margin l D cI cZ cR a f g kp tp ly nb n hI k (by omega) x) gX4_weakest_X4_margin rfl (by decide +kernel) rfl ⟨Nat.le_of_ble_eq_true rfl, Nat.le_of_ble_eq_true rfl⟩ ⟨Nat.zero_le _, Nat.zero_le _⟩ hP hK hN rfl rfl rfl (Nat.le_of_ble_eq_true rfl) dX4_weakest_42 ?_
              refine lv_aload_n hx hb dX4_weakest_45 rfl (lv_at hl 0 rfl) ?_
              refine lv_iload_n hx hb dX4_weakest_46 rfl (lv_at hl 3 rfl) ?_
              refine sn_top (y := nI (sn_wkA f n x k - 1)) (sn_en_pos c_6) ?_
              refine lv_iload_n hx hb dX4_weakest_47 rfl (lv_at hl 1 rfl) ?_
              refine sn_cV 2 0 hC hl (ct_X4_margin l D cI cZ cR a f g kp tp ly nb n hI (sn_wkA f n x k - 1) (by omega) x) gX4_weakest_X4_margin rfl (by decide +kernel) rfl ⟨Nat.le_of_ble_eq_true rfl, Nat.le_of_ble_eq_true rfl⟩ ⟨Nat.zero_le _, Nat.zero_le _⟩ hP hK hN rfl rfl rfl (Nat.le_of_ble_eq_true rfl) dX4_weakest_48 ?_
              refine lv_icmp_gt (tgt := 59) hx hb dX4_weakest_51 (by decide) (fun c_7 => ?_) (fun c_7 => ?_)
              · refine lv_iload_n hx hb dX4_weakest_59 rfl (lv_at hl 3 rfl) ?_
                refine sn_top (y := sn_en (sn_wkA f n x (k + 1))) (by rw [show sn_wkA f n x (k + 1) = sn_wkA f n x k from if_neg (fun z => z.elim c_6 (Int32.not_le.mpr c_7))]) ?_
                refine lv_istore_n (lv' := [(3, .int (sn_en (sn_wkA f n x (k + 1)))), (0, .ref (a 0)), (1, .int x), (2, .int y), (4, .int (nI k))]) hx hb dX4_weakest_60 rfl hl (by decide) rfl (fun ls hl => ?_)
                refine lv_iinc (v := nI (k + 1)) (lv' := [(4, .int (nI (k + 1))), (3, .int (sn_en (sn_wkA f n x (k + 1)))), (0, .ref (a 0)), (1, .int x), (2, .int y)]) hx hb dX4_weakest_61 hl (k := 4) rfl (sn_inc _) (by decide) rfl (fun ls hl => ?_)
                refine lv_goto (tgt := 25) hx hb dX4_weakest_64 (by decide) ?_
                exact ih_loop (k + 1) (by omega) (by omega) ls (lv_sub hl [2, 3, 4, 1, 0] rfl)
              · refine lv_iload hx hb dX4_weakest_54 (lv_at hl 4 rfl) ?_
                refine lv_goto (tgt := 60) hx hb dX4_weakest_56 (by decide) ?_
                refine sn_top (y := sn_en (sn_wkA f n x (k + 1))) (by rw [show sn_wkA f n x (k + 1) = k + 1 from if_pos (Or.inr (Int32.not_lt.mp c_7))]; rfl) ?_
                refine lv_istore_n (lv' := [(3, .int (sn_en (sn_wkA f n x (k + 1)))), (0, .ref (a 0)), (1, .int x), (2, .int y), (4, .int (nI k))]) hx hb dX4_weakest_60 rfl hl (by decide) rfl (fun ls hl => ?_)
                refine lv_iinc (v := nI (k + 1)) (lv' := [(4, .int (nI (k + 1))), (3, .int (sn_en (sn_wkA f n x (k + 1)))), (0, .ref (a 0)), (1, .int x), (2, .int y)]) hx hb dX4_weakest_61 hl (k := 4) rfl (sn_inc _) (by decide) rfl (fun ls hl => ?_)
                refine lv_goto (tgt := 25) hx hb dX4_weakest_64 (by decide) ?_
                exact ih_loop (k + 1) (by omega) (by omega) ls (lv_sub hl [2, 3, 4, 1, 0] rfl)
      exact loop ((n - 1 - 0) + 1) 0 (Nat.zero_le _) (by omega) ls (lv_sub hl [2, 3, 4, 1, 0] rfl)
    · have c_2 : ¬ (0 ≤ y ∧ y ≤ 1) := sn_b_z.mp c_2
      refine lv_bipush (v := (-2)) hx hb dX4_weakest_16 (by decide) ?_
      exact sn_ret hx hb hr hlk dX4_weakest_18 ((if_neg (fun h => c_2 h.2)).symm)
set_option maxRecDepth 100000 in
set_option maxHeartbeats 4000000 in
theorem ct_X4_broken (l : Launch) (D : va_G) (cI cZ cR : ClassId) (a : Nat → Nat) (f g kp tp ly : Nat → Int32) (nb : Int32) (n : Nat) (hI : sn_I f n) (b : Nat) (hb10 : b ≤ 10) (wt : Int32) : sn_Rd l yX4_broken wsX4_broken 3 [.ref (a 0), .int (nI b), .int wt] D (sn_ty cI cZ cR) (sn_wM cI cZ a f g kp tp ly nb) (sn_en (sn_bk f b wt)) := by
  refine sn_rd (cc := cX4_broken) (maxL := 4) (ret := (some .int)) (by decide) rfl (Nat.le_of_ble_eq_true rfl) ?_
  intro p e s m below meth c hx hb hml hr hlk hts hown hP hK hN ls hl
  have hC : CallFix p m c cX4_broken 4 s [.ref (a 0), .int (nI b), .int wt].toArray wsX4_broken RX4 := ⟨hx, hb, hml, hown, hts⟩
  have hl : lv_has ls 4 [(0, .ref (a 0)), (1, .int (nI b)), (2, .int wt)] := hl
  refine lv_iload_n hx hb dX4_broken_0 rfl (lv_at hl 1 rfl) ?_
  refine lv_iconst (v := 2) hx hb dX4_broken_1 (by decide) ?_
  refine lv_isub hx hb dX4_broken_2 ?_
  refine lv_istore_n (lv' := [(3, .int ((nI b) - 2)), (0, .ref (a 0)), (1, .int (nI b)), (2, .int wt)]) hx hb dX4_broken_3 rfl hl (by decide) rfl (fun ls hl => ?_)
  have loop : ∀ (j : Nat) (xj : Int32) , sn_dn j xj → (j ≤ b - 1) → (sn_bkA f b wt j = sn_bk f b wt) → ∀ ls : Array Slot, lv_has ls 4 [(0, .ref (a 0)), (1, .int (nI b)), (2, .int wt), (3, .int xj)] → W p l e (sn_rm 3 0 0) s m [.ref (a 0), .int (nI b), .int wt].toArray below meth c s.heap [] 0 0 (MQ below (vp_Si (fun r_ => r_ = (sn_en (sn_bk f b wt)))) [.ref (a 0), .int (nI b), .int wt].toArray s 0 0 (fun _ => False)) (F0 m 4 ls []) := by
    intro j
    induction j with
    | zero =>
      intro xj  hdn hj hq ls hl
      have hdn : xj < 0 := hdn
      refine lv_iload_n hx hb dX4_broken_4 rfl (lv_at hl 3 rfl) ?_
      refine lv_if_lt (tgt := 38) hx hb dX4_broken_5 (by decide) (fun c_1 => ?_) (fun c_1 => ?_)
      · refine lv_bipush (v := (-6)) hx hb dX4_broken_38 (by decide) ?_
        exact sn_ret hx hb hr hlk dX4_broken_40 (by rw [← hq]; rfl)
      · exact absurd hdn c_1
    | succ j ih_loop =>
      intro xj  hdn hj hq ls hl
      have hdn : xj = nI j := hdn
      subst hdn
      refine lv_iload_n hx hb dX4_broken_4 rfl (lv_at hl 3 rfl) ?_
      refine lv_if_lt (tgt := 38) hx hb dX4_broken_5 (by decide) (fun c_2 => ?_) (fun c_2 => ?_)
      · have c_2 := (sn_cltj (a := j) (b := 0) rfl rfl (by omega) (by omega)).mp c_2
        exact absurd c_2 (by omega)
      · have c_2 := (sn_cltf (a := j) (b := 0) rfl rfl (by omega) (by omega)).mp c_2
        refine lv_aload_n hx hb dX4_broken_8 rfl (lv_at hl 0 rfl) ?_
        refine lv_iload_n hx hb dX4_broken_9 rfl (lv_at hl 3 rfl) ?_
        refine lv_iload_n hx hb dX4_broken_10 rfl (lv_at hl 1 rfl) ?_
        refine sn_cV 2 0 hC hl (ct_X4_load l D cI cZ cR a f g kp tp ly nb j b (by omega) (by first | exact hI.2.1 | omega)) gX4_broken_X4_load rfl (by decide +kernel) rfl ⟨Nat.le_of_ble_eq_true rfl, Nat.le_of_ble_eq_true rfl⟩ ⟨Nat.zero_le _, Nat.zero_le _⟩ hP hK hN rfl rfl rfl (Nat.le_of_ble_eq_true rfl) dX4_broken_11 ?_
        refine lv_aload_n hx hb dX4_broken_14 rfl (lv_at hl 0 rfl) ?_
        refine lv_iload_n hx hb dX4_broken_15 rfl (lv_at hl 3 rfl) ?_
        refine lv_iload_n hx hb dX4_broken_16 rfl (lv_at hl 1 rfl) ?_
        refine lv_iload_n hx hb dX4_broken_17 rfl (lv_at hl 2 rfl) ?_
        refine sn_cV 3 0 hC hl (ct_X4_press l D cI cZ cR a f g kp tp ly nb n hI j b (by omega) (by first | exact hI.2.1 | omega) wt) gX4_broken_X4_press rfl (by decide +kernel) rfl ⟨Nat.le_of_ble_eq_true rfl, Nat.le_of_ble_eq_true rfl⟩ ⟨Nat.zero_le _, Nat.zero_le _⟩ hP hK hN rfl rfl rfl (Nat.le_of_ble_eq_true rfl) dX4_broken_18 ?_
        refine lv_iadd hx hb dX4_broken_21 ?_
        refine lv_aload_n hx hb dX4_broken_22 rfl (lv_at hl 0 rfl) ?_
        refine lv_iload_n hx hb dX4_broken_23 rfl (lv_at hl 3 rfl) ?_
        refine sn_cV 1 0 hC hl (ct_X4_strength l D cI cZ cR a f g kp tp ly nb n hI j (by have := hI.2.1; omega)) gX4_broken_X4_strength rfl (by decide +kernel) rfl ⟨Nat.le_of_ble_eq_true rfl, Nat.le_of_ble_eq_true rfl⟩ ⟨Nat.zero_le _, Nat.zero_le _⟩ hP hK hN rfl rfl rfl (Nat.le_of_ble_eq_true rfl) dX4_broken_24 ?_
        refine lv_icmp_lt (tgt := 32) hx hb dX4_broken_27 (by decide) (fun c_3 => ?_) (fun c_3 => ?_)
        · have c_3 := Int32.not_le.mpr c_3
          refine lv_iinc (v := (nI j) + (-1)) (lv' := [(3, .int ((nI j) + (-1))), (0, .ref (a 0)), (1, .int (nI b)), (2, .int wt)]) hx hb dX4_broken_32 hl (k := 3) rfl (rfl) (by decide) rfl (fun ls hl => ?_)
          refine lv_goto (tgt := 4) hx hb dX4_broken_35 (by decide) ?_
          exact ih_loop ((nI j) + (-1)) (sn_dn_p j) (by omega) ((if_neg c_3).symm.trans hq) ls (lv_sub hl [1, 2, 3, 0] rfl)
        · have c_3 := Int32.not_lt.mp c_3
          refine lv_iload_n hx hb dX4_broken_30 rfl (lv_at hl 3 rfl) ?_
          exact sn_ret hx hb hr hlk dX4_broken_31 (by rw [← hq, show sn_bkA f b wt (j + 1) = j + 1 from if_pos c_3]; rfl)
  exact loop (b - 1) ((nI b) - 2) (sn_dn_2 b) (Nat.le_refl _) rfl ls (lv_sub hl [1, 2, 3, 0] rfl)
set_option maxRecDepth 100000 in
set_option maxHeartbeats 4000000 in
theorem ct_X4_isClean (l : Launch) (D : va_G) (cI cZ cR : ClassId) (a : Nat → Nat) (f g kp tp ly : Nat → Int32) (nb : Int32) (n : Nat) (hI : sn_I f n) (i : Nat) (hi : i + 1 < n) : sn_Rd l yX4_isClean wsX4_isClean 1 [.ref (a 0), .int (nI i)] D (sn_ty cI cZ cR) (sn_wM cI cZ a f g kp tp ly nb) (sn_b (sn_cle f i)) := by
  refine sn_rd (cc := cX4_isClean) (maxL := 3) (ret := (some .boolean)) (by decide) rfl (Nat.le_of_ble_eq_true rfl) ?_
  intro p e s m below meth c hx hb hml hr hlk hts hown hP hK hN ls hl
  have hC : CallFix p m c cX4_isClean 3 s [.ref (a 0), .int (nI i)].toArray wsX4_isClean RX4 := ⟨hx, hb, hml, hown, hts⟩
  have hl : lv_has ls 3 [(0, .ref (a 0)), (1, .int (nI i))] := hl
  have huX4 : ∀ w ∈ wsX40, w ∈ wsX4_isClean := by decide +kernel
  have hn10 := hI.2.1
  refine lv_aload_n hx hb dX4_isClean_0 rfl (lv_at hl 0 rfl) ?_
  refine va_get (D := D) (ci := 3) (v := .ref (a 1)) (C := RX4) (T := TX4) (N := 6) hx hb hts huX4 hown hK hP 0 rfl rfl 0 (by decide) (hts (.fieldLink RX4 7 "SnowSlabsModel" "state" "[I") (by decide +kernel)) (fun _ h9 => h9) rfl dX4_isClean_1 ?_
  refine lv_iload_n hx hb dX4_isClean_4 rfl (lv_at hl 1 rfl) ?_
  refine lv_iconst (v := 1) hx hb dX4_isClean_5 (by decide) ?_
  refine lv_iadd hx hb dX4_isClean_6 ?_
  refine sn_top (sn_nadd (a := i) (b := 1) rfl rfl) ?_
  refine lv_iconst (v := 3) hx hb dX4_isClean_7 (by decide) ?_
  refine sn_cS 2 hC hl (ct_X4_at l D _ [] (i + 1) 3) gX4_isClean_X4_at rfl (by decide +kernel) rfl ⟨Nat.le_of_ble_eq_true rfl, Nat.le_of_ble_eq_true rfl⟩ ⟨Nat.zero_le _, Nat.zero_le _⟩ (fun _ _ h => by simp at h) hK hN rfl (Nat.le_of_ble_eq_true rfl) dX4_isClean_8 ?_
  refine sn_top (y := nI (10 + 5 * (i + 1))) (congrArg nI (show _ = 10 + 5 * (i + 1) by omega)) ?_
  refine sn_ild (k := 10 + 5 * (i + 1)) (v := f (10 + 5 * (i + 1))) 1 0 hx hb hK hP rfl rfl (by omega) (by decide) rfl (rfl) dX4_isClean_11 ?_
  refine lv_aload_n hx hb dX4_isClean_12 rfl (lv_at hl 0 rfl) ?_
  refine va_get (D := D) (ci := 3) (v := .ref (a 1)) (C := RX4) (T := TX4) (N := 6) hx hb hts huX4 hown hK hP 0 rfl rfl 0 (by decide) (hts (.fieldLink RX4 7 "SnowSlabsModel" "state" "[I") (by decide +kernel)) (fun _ h9 => h9) rfl dX4_isClean_13 ?_
  refine lv_iload_n hx hb dX4_isClean_16 rfl (lv_at hl 1 rfl) ?_
  refine lv_iconst (v := 3) hx hb dX4_isClean_17 (by decide) ?_
  refine sn_cS 2 hC hl (ct_X4_at l D _ [] i 3) gX4_isClean_X4_at rfl (by decide +kernel) rfl ⟨Nat.le_of_ble_eq_true rfl, Nat.le_of_ble_eq_true rfl⟩ ⟨Nat.zero_le _, Nat.zero_le _⟩ (fun _ _ h => by simp at h) hK hN rfl (Nat.le_of_ble_eq_true rfl) dX4_isClean_18 ?_
  refine sn_top (y := nI (10 + 5 * i)) (congrArg nI (show _ = 10 + 5 * i by omega)) ?_
  refine sn_ild (k := 10 + 5 * i) (v := f (10 + 5 * i)) 1 0 hx hb hK hP rfl rfl (by omega) (by decide) rfl (rfl) dX4_isClean_21 ?_
  refine lv_isub hx hb dX4_isClean_22 ?_
  refine lv_istore_n (lv' := [(2, .int ((f (10 + 5 * (i + 1))) - (f (10 + 5 * i)))), (0, .ref (a 0)), (1, .int (nI i))]) hx hb dX4_isClean_23 rfl hl (by decide) rfl (fun ls hl => ?_)
  refine lv_iload_n hx hb dX4_isClean_24 rfl (lv_at hl 0 rfl) ?_
  refine lv_iconst (v := 1) hx hb dX4_isClean_25 (by decide) ?_
  refine lv_icmp_gt (tgt := 34) hx hb dX4_isClean_26 (by decide) (fun c_1 => ?_) (fun c_1 => ?_)
  · refine lv_iconst (v := 1) hx hb dX4_isClean_34 (by decide) ?_
    refine lv_goto (tgt := 39) hx hb dX4_isClean_35 (by decide) ?_
    exact sn_zret hx hb hr hlk dX4_isClean_39 (by decide) (sn_b_t (by have l1 : (1 : Int32).toInt = 1 := rfl; have l2 : (2 : Int32).toInt = 2 := rfl; have l3 : (-1 : Int32).toInt = -1 := rfl; have l4 : (-2 : Int32).toInt = -2 := rfl; have l0 : (0 : Int32).toInt = 0 := rfl; simp only [sn_cle, sn_le, sn_lt, sn_eq] at c_1 ⊢; omega))
  · refine lv_iload_n hx hb dX4_isClean_29 rfl (lv_at hl 0 rfl) ?_
    refine lv_iconst (v := (-1)) hx hb dX4_isClean_30 (by decide) ?_
    refine lv_icmp_ge (tgt := 38) hx hb dX4_isClean_31 (by decide) (fun c_2 => ?_) (fun c_2 => ?_)
    · refine lv_iconst (v := 0) hx hb dX4_isClean_38 (by decide) ?_
      exact sn_zret hx hb hr hlk dX4_isClean_39 (by decide) (sn_b_f (by have l1 : (1 : Int32).toInt = 1 := rfl; have l2 : (2 : Int32).toInt = 2 := rfl; have l3 : (-1 : Int32).toInt = -1 := rfl; have l4 : (-2 : Int32).toInt = -2 := rfl; have l0 : (0 : Int32).toInt = 0 := rfl; simp only [sn_cle, sn_le, sn_lt, sn_eq] at c_1 c_2 ⊢; omega))
    · refine lv_iconst (v := 1) hx hb dX4_isClean_34 (by decide) ?_
      refine lv_goto (tgt := 39) hx hb dX4_isClean_35 (by decide) ?_
      exact sn_zret hx hb hr hlk dX4_isClean_39 (by decide) (sn_b_t (by have l1 : (1 : Int32).toInt = 1 := rfl; have l2 : (2 : Int32).toInt = 2 := rfl; have l3 : (-1 : Int32).toInt = -1 := rfl; have l4 : (-2 : Int32).toInt = -2 := rfl; have l0 : (0 : Int32).toInt = 0 := rfl; simp only [sn_cle, sn_le, sn_lt, sn_eq] at c_1 c_2 ⊢; omega))
set_option maxRecDepth 100000 in
set_option maxHeartbeats 4000000 in
theorem ct_X4_doesGo (l : Launch) (D : va_G) (cI cZ cR : ClassId) (a : Nat → Nat) (f g kp tp ly : Nat → Int32) (nb : Int32) (n : Nat) (hI : sn_I f n) (i : Nat) (hi : i < n) (st wt : Int32) : sn_Rd l yX4_doesGo wsX4_doesGo 3 [.ref (a 0), .int (nI i), .int st, .int wt] D (sn_ty cI cZ cR) (sn_wM cI cZ a f g kp tp ly nb) (sn_b (sn_Go f n st wt i)) := by
  refine sn_rd (cc := cX4_doesGo) (maxL := 4) (ret := (some .boolean)) (by decide) rfl (Nat.le_of_ble_eq_true rfl) ?_
  intro p e s m below meth c hx hb hml hr hlk hts hown hP hK hN ls hl
  have hC : CallFix p m c cX4_doesGo 4 s [.ref (a 0), .int (nI i), .int st, .int wt].toArray wsX4_doesGo RX4 := ⟨hx, hb, hml, hown, hts⟩
  have hl : lv_has ls 4 [(0, .ref (a 0)), (1, .int (nI i)), (2, .int st), (3, .int wt)] := hl
  have huX4 : ∀ w ∈ wsX40, w ∈ wsX4_doesGo := by decide +kernel
  refine lv_aload_n hx hb dX4_doesGo_0 rfl (lv_at hl 0 rfl) ?_
  refine lv_iload_n hx hb dX4_doesGo_1 rfl (lv_at hl 1 rfl) ?_
  refine lv_iload_n hx hb dX4_doesGo_2 rfl (lv_at hl 2 rfl) ?_
  refine sn_cV 2 0 hC hl (ct_X4_shear l D cI cZ cR a f g kp tp ly nb n hI i (by omega) st) gX4_doesGo_X4_shear rfl (by decide +kernel) rfl ⟨Nat.le_of_ble_eq_true rfl, Nat.le_of_ble_eq_true rfl⟩ ⟨Nat.zero_le _, Nat.zero_le _⟩ hP hK hN rfl rfl rfl (Nat.le_of_ble_eq_true rfl) dX4_doesGo_3 ?_
  refine lv_aload_n hx hb dX4_doesGo_6 rfl (lv_at hl 0 rfl) ?_
  refine lv_iload_n hx hb dX4_doesGo_7 rfl (lv_at hl 1 rfl) ?_
  refine lv_aload_n hx hb dX4_doesGo_8 rfl (lv_at hl 0 rfl) ?_
  refine va_get (D := D) (ci := 3) (v := .ref (a 1)) (C := RX4) (T := TX4) (N := 6) hx hb hts huX4 hown hK hP 0 rfl rfl 0 (by decide) (hts (.fieldLink RX4 7 "SnowSlabsModel" "state" "[I") (by decide +kernel)) (fun _ h9 => h9) rfl dX4_doesGo_9 ?_
  refine lv_iconst (v := 0) hx hb dX4_doesGo_12 (by decide) ?_
  refine sn_ild (k := 0) (v := f 0) 1 0 hx hb hK hP rfl rfl (by omega) (by decide) rfl (rfl) dX4_doesGo_13 ?_
  refine sn_top (hI.1) ?_
  refine lv_iload_n hx hb dX4_doesGo_14 rfl (lv_at hl 3 rfl) ?_
  refine sn_cV 3 0 hC hl (ct_X4_press l D cI cZ cR a f g kp tp ly nb n hI i n (by omega) (by first | exact hI.2.1 | omega) wt) gX4_doesGo_X4_press rfl (by decide +kernel) rfl ⟨Nat.le_of_ble_eq_true rfl, Nat.le_of_ble_eq_true rfl⟩ ⟨Nat.zero_le _, Nat.zero_le _⟩ hP hK hN rfl rfl rfl (Nat.le_of_ble_eq_true rfl) dX4_doesGo_15 ?_
  refine lv_iadd hx hb dX4_doesGo_18 ?_
  refine lv_aload_n hx hb dX4_doesGo_19 rfl (lv_at hl 0 rfl) ?_
  refine lv_iload_n hx hb dX4_doesGo_20 rfl (lv_at hl 1 rfl) ?_
  refine sn_cV 1 0 hC hl (ct_X4_strength l D cI cZ cR a f g kp tp ly nb n hI i (by have := hI.2.1; omega)) gX4_doesGo_X4_strength rfl (by decide +kernel) rfl ⟨Nat.le_of_ble_eq_true rfl, Nat.le_of_ble_eq_true rfl⟩ ⟨Nat.zero_le _, Nat.zero_le _⟩ hP hK hN rfl rfl rfl (Nat.le_of_ble_eq_true rfl) dX4_doesGo_21 ?_
  refine lv_icmp_lt (tgt := 31) hx hb dX4_doesGo_24 (by decide) (fun c_1 => ?_) (fun c_1 => ?_)
  · have c_1 := Int32.not_le.mpr c_1
    refine lv_iconst (v := 0) hx hb dX4_doesGo_31 (by decide) ?_
    exact sn_zret hx hb hr hlk dX4_doesGo_32 (by decide) (sn_b_f c_1)
  · have c_1 := Int32.not_lt.mp c_1
    refine lv_iconst (v := 1) hx hb dX4_doesGo_27 (by decide) ?_
    refine lv_goto (tgt := 32) hx hb dX4_doesGo_28 (by decide) ?_
    exact sn_zret hx hb hr hlk dX4_doesGo_32 (by decide) (sn_b_t c_1)
set_option maxRecDepth 100000 in
set_option maxHeartbeats 4000000 in
theorem ct_X4_goes (l : Launch) (D : va_G) (cI cZ cR : ClassId) (a : Nat → Nat) (f g kp tp ly : Nat → Int32) (nb : Int32) (n : Nat) (hI : sn_I f n) (x y z : Int32) : sn_Rd l yX4_goes wsX4_goes 4 [.ref (a 0), .int x, .int y, .int z] D (sn_ty cI cZ cR) (sn_wM cI cZ a f g kp tp ly nb) (sn_Rgoes f n x y z) := by
  refine sn_rd (cc := cX4_goes) (maxL := 4) (ret := (some .int)) (by decide) rfl (Nat.le_of_ble_eq_true rfl) ?_
  intro p e s m below meth c hx hb hml hr hlk hts hown hP hK hN ls hl
  have hC : CallFix p m c cX4_goes 4 s [.ref (a 0), .int x, .int y, .int z].toArray wsX4_goes RX4 := ⟨hx, hb, hml, hown, hts⟩
  have hl : lv_has ls 4 [(0, .ref (a 0)), (1, .int x), (2, .int y), (3, .int z)] := hl
  have hn10 := hI.2.1
  refine lv_aload_n hx hb dX4_goes_0 rfl (lv_at hl 0 rfl) ?_
  refine lv_iload_n hx hb dX4_goes_1 rfl (lv_at hl 1 rfl) ?_
  refine sn_cV 1 0 hC hl (ct_X4_isLayer l D cI cZ cR a f g kp tp ly nb n hI x) gX4_goes_X4_isLayer rfl (by decide +kernel) rfl ⟨Nat.le_of_ble_eq_true rfl, Nat.le_of_ble_eq_true rfl⟩ ⟨Nat.zero_le _, Nat.zero_le _⟩ hP hK hN rfl rfl rfl (Nat.le_of_ble_eq_true rfl) dX4_goes_2 ?_
  refine lv_if_ne (tgt := 10) hx hb dX4_goes_5 (by decide) (fun c_1 => ?_) (fun c_1 => ?_)
  · have c_1 : 0 ≤ x ∧ x ≤ nI n - 1 := sn_b_nz.mp c_1
    obtain ⟨i, hi, hie⟩ := sn_isL hn10 c_1
    subst hie
    refine lv_iload_n hx hb dX4_goes_10 rfl (lv_at hl 2 rfl) ?_
    refine sn_cS 1 hC hl (ct_X4_isSteep l D _ [] y) gX4_goes_X4_isSteep rfl (by decide +kernel) rfl ⟨Nat.le_of_ble_eq_true rfl, Nat.le_of_ble_eq_true rfl⟩ ⟨Nat.zero_le _, Nat.zero_le _⟩ (fun _ _ h => by simp at h) hK hN rfl (Nat.le_of_ble_eq_true rfl) dX4_goes_11 ?_
    refine lv_if_eq (tgt := 27) hx hb dX4_goes_14 (by decide) (fun c_2 => ?_) (fun c_2 => ?_)
    · have c_2 : ¬ (0 ≤ y ∧ y ≤ 100) := sn_b_z.mp c_2
      refine lv_bipush (v := (-2)) hx hb dX4_goes_27 (by decide) ?_
      exact sn_ret hx hb hr hlk dX4_goes_29 (((if_pos c_1).trans (if_neg (fun h => c_2 h.1))).symm)
    · have c_2 : 0 ≤ y ∧ y ≤ 100 := sn_b_nz.mp c_2
      refine lv_iload_n hx hb dX4_goes_17 rfl (lv_at hl 3 rfl) ?_
      refine lv_iconst (v := 0) hx hb dX4_goes_18 (by decide) ?_
      refine lv_bipush (v := 99) hx hb dX4_goes_19 (by decide) ?_
      refine sn_cS 3 hC hl (ct_X4_in l D _ [] z 0 99) gX4_goes_X4_in rfl (by decide +kernel) rfl ⟨Nat.le_of_ble_eq_true rfl, Nat.le_of_ble_eq_true rfl⟩ ⟨Nat.zero_le _, Nat.zero_le _⟩ (fun _ _ h => by simp at h) hK hN rfl (Nat.le_of_ble_eq_true rfl) dX4_goes_21 ?_
      refine lv_if_ne (tgt := 30) hx hb dX4_goes_24 (by decide) (fun c_3 => ?_) (fun c_3 => ?_)
      · have c_3 : 0 ≤ z ∧ z ≤ 99 := sn_b_nz.mp c_3
        refine lv_iload_n hx hb dX4_goes_30 rfl (lv_at hl 1 rfl) ?_
        refine lv_aload_n hx hb dX4_goes_31 rfl (lv_at hl 0 rfl) ?_
        refine sn_cV 0 0 hC hl (ct_X4_top l D cI cZ cR a f g kp tp ly nb n hI ) gX4_goes_X4_top rfl (by decide +kernel) rfl ⟨Nat.le_of_ble_eq_true rfl, Nat.le_of_ble_eq_true rfl⟩ ⟨Nat.zero_le _, Nat.zero_le _⟩ hP hK hN rfl rfl rfl (Nat.le_of_ble_eq_true rfl) dX4_goes_32 ?_
        refine lv_icmp_ne (tgt := 41) hx hb dX4_goes_35 (by decide) (fun c_4 => ?_) (fun c_4 => ?_)
        · refine lv_aload_n hx hb dX4_goes_41 rfl (lv_at hl 0 rfl) ?_
          refine lv_iload_n hx hb dX4_goes_42 rfl (lv_at hl 1 rfl) ?_
          refine lv_iload_n hx hb dX4_goes_43 rfl (lv_at hl 2 rfl) ?_
          refine lv_iload_n hx hb dX4_goes_44 rfl (lv_at hl 3 rfl) ?_
          refine sn_cV 3 0 hC hl (ct_X4_doesGo l D cI cZ cR a f g kp tp ly nb n hI i (by omega) y z) gX4_goes_X4_doesGo rfl (by decide +kernel) rfl ⟨Nat.le_of_ble_eq_true rfl, Nat.le_of_ble_eq_true rfl⟩ ⟨Nat.zero_le _, Nat.zero_le _⟩ hP hK hN rfl rfl rfl (Nat.le_of_ble_eq_true rfl) dX4_goes_45 ?_
          refine lv_if_eq (tgt := 55) hx hb dX4_goes_48 (by decide) (fun c_5 => ?_) (fun c_5 => ?_)
          · have c_5 : ¬ (sn_Go f n y z i) := sn_b_z.mp c_5
            refine lv_iconst (v := 0) hx hb dX4_goes_55 (by decide) ?_
            exact sn_ret hx hb hr hlk dX4_goes_56 (((if_pos c_1).trans ((if_pos (⟨c_2, c_3⟩)).trans ((if_neg c_4).trans (by rw [nI_clamp (by omega)]; exact (sn_b_f c_5).symm)))).symm)
          · have c_5 : sn_Go f n y z i := sn_b_nz.mp c_5
            refine lv_iconst (v := 1) hx hb dX4_goes_51 (by decide) ?_
            refine lv_goto (tgt := 56) hx hb dX4_goes_52 (by decide) ?_
            exact sn_ret hx hb hr hlk dX4_goes_56 (((if_pos c_1).trans ((if_pos (⟨c_2, c_3⟩)).trans ((if_neg c_4).trans (by rw [nI_clamp (by omega)]; exact (sn_b_t c_5).symm)))).symm)
        · refine lv_bipush (v := (-3)) hx hb dX4_goes_38 (by decide) ?_
          exact sn_ret hx hb hr hlk dX4_goes_40 (((if_pos c_1).trans ((if_pos (⟨c_2, c_3⟩)).trans (if_pos c_4))).symm)
      · have c_3 : ¬ (0 ≤ z ∧ z ≤ 99) := sn_b_z.mp c_3
        refine lv_bipush (v := (-2)) hx hb dX4_goes_27 (by decide) ?_
        exact sn_ret hx hb hr hlk dX4_goes_29 (((if_pos c_1).trans (if_neg (fun h => c_3 h.2))).symm)
  · have c_1 : ¬ (0 ≤ x ∧ x ≤ nI n - 1) := sn_b_z.mp c_1
    refine lv_iconst (v := (-1)) hx hb dX4_goes_8 (by decide) ?_
    exact sn_ret hx hb hr hlk dX4_goes_9 ((if_neg c_1).symm)
set_option maxRecDepth 100000 in
set_option maxHeartbeats 4000000 in
theorem ct_X4_steep (l : Launch) (D : va_G) (cI cZ cR : ClassId) (a : Nat → Nat) (f g kp tp ly : Nat → Int32) (nb : Int32) (n : Nat) (hI : sn_I f n) (x y : Int32) : sn_Rd l yX4_steep wsX4_steep 4 [.ref (a 0), .int x, .int y] D (sn_ty cI cZ cR) (sn_wM cI cZ a f g kp tp ly nb) (sn_Rsteep f n x y) := by
  refine sn_rd (cc := cX4_steep) (maxL := 5) (ret := (some .int)) (by decide) rfl (Nat.le_of_ble_eq_true rfl) ?_
  intro p e s m below meth c hx hb hml hr hlk hts hown hP hK hN ls hl
  have hC : CallFix p m c cX4_steep 5 s [.ref (a 0), .int x, .int y].toArray wsX4_steep RX4 := ⟨hx, hb, hml, hown, hts⟩
  have hl : lv_has ls 5 [(0, .ref (a 0)), (1, .int x), (2, .int y)] := hl
  have hn10 := hI.2.1
  refine lv_iload_n hx hb dX4_steep_0 rfl (lv_at hl 1 rfl) ?_
  refine lv_iconst (v := 0) hx hb dX4_steep_1 (by decide) ?_
  refine lv_bipush (v := 99) hx hb dX4_steep_2 (by decide) ?_
  refine sn_cS 3 hC hl (ct_X4_in l D _ [] x 0 99) gX4_steep_X4_in rfl (by decide +kernel) rfl ⟨Nat.le_of_ble_eq_true rfl, Nat.le_of_ble_eq_true rfl⟩ ⟨Nat.zero_le _, Nat.zero_le _⟩ (fun _ _ h => by simp at h) hK hN rfl (Nat.le_of_ble_eq_true rfl) dX4_steep_4 ?_
  refine lv_if_eq (tgt := 19) hx hb dX4_steep_7 (by decide) (fun c_1 => ?_) (fun c_1 => ?_)
  · have c_1 : ¬ (0 ≤ x ∧ x ≤ 99) := sn_b_z.mp c_1
    refine lv_bipush (v := (-2)) hx hb dX4_steep_19 (by decide) ?_
    exact sn_ret hx hb hr hlk dX4_steep_21 ((if_neg (fun h => c_1 h.1)).symm)
  · have c_1 : 0 ≤ x ∧ x ≤ 99 := sn_b_nz.mp c_1
    refine lv_iload_n hx hb dX4_steep_10 rfl (lv_at hl 2 rfl) ?_
    refine lv_iconst (v := 0) hx hb dX4_steep_11 (by decide) ?_
    refine lv_iconst (v := 1) hx hb dX4_steep_12 (by decide) ?_
    refine sn_cS 3 hC hl (ct_X4_in l D _ [] y 0 1) gX4_steep_X4_in rfl (by decide +kernel) rfl ⟨Nat.le_of_ble_eq_true rfl, Nat.le_of_ble_eq_true rfl⟩ ⟨Nat.zero_le _, Nat.zero_le _⟩ (fun _ _ h => by simp at h) hK hN rfl (Nat.le_of_ble_eq_true rfl) dX4_steep_13 ?_
    refine lv_if_ne (tgt := 22) hx hb dX4_steep_16 (by decide) (fun c_2 => ?_) (fun c_2 => ?_)
    · have c_2 : 0 ≤ y ∧ y ≤ 1 := sn_b_nz.mp c_2
      refine lv_iconst (v := 0) hx hb dX4_steep_22 (by decide) ?_
      refine lv_istore_n (lv' := [(3, .int 0), (0, .ref (a 0)), (1, .int x), (2, .int y)]) hx hb dX4_steep_23 rfl hl (by decide) rfl (fun ls hl => ?_)
      have loopO : ∀ (fu : Nat) (k : Nat), (k ≤ 101) → (sn_stp f n x y (101 - k) k = sn_stp f n x y 101 0) → 101 - k < fu → ∀ ls : Array Slot, lv_has ls 5 [(0, .ref (a 0)), (1, .int x), (2, .int y), (3, .int (nI k))] → W p l e (sn_rm 4 0 0) s m [.ref (a 0), .int x, .int y].toArray below meth c s.heap [] 0 0 (MQ below (vp_Si (fun r_ => r_ = (sn_Rsteep f n x y))) [.ref (a 0), .int x, .int y].toArray s 0 0 (fun _ => False)) (F0 m 24 ls []) := by
        intro fu
        induction fu with
        | zero => intro k h1 hq hm; exact absurd hm (Nat.not_lt_zero _)
        | succ fu ih_loopO =>
          intro k h1 hq hm ls hl
          refine lv_iload_n hx hb dX4_steep_24 rfl (lv_at hl 3 rfl) ?_
          refine lv_bipush (v := 100) hx hb dX4_steep_25 (by decide) ?_
          refine lv_icmp_gt (tgt := 77) hx hb dX4_steep_27 (by decide) (fun c_3 => ?_) (fun c_3 => ?_)
          · have c_3 := (sn_cgtj (a := k) (b := 100) rfl rfl (by omega) (by omega)).mp c_3
            refine lv_bipush (v := (-6)) hx hb dX4_steep_77 (by decide) ?_
            exact sn_ret hx hb hr hlk dX4_steep_79 (((if_pos (⟨c_1, c_2⟩)).trans (hq.symm.trans (by rw [show k = 101 by omega]; rfl))).symm)
          · have c_3 := (sn_cgtf (a := k) (b := 100) rfl rfl (by omega) (by omega)).mp c_3
            refine lv_aload_n hx hb dX4_steep_30 rfl (lv_at hl 0 rfl) ?_
            refine sn_cV 0 0 hC hl (ct_X4_top l D cI cZ cR a f g kp tp ly nb n hI ) gX4_steep_X4_top rfl (by decide +kernel) rfl ⟨Nat.le_of_ble_eq_true rfl, Nat.le_of_ble_eq_true rfl⟩ ⟨Nat.zero_le _, Nat.zero_le _⟩ hP hK hN rfl rfl rfl (Nat.le_of_ble_eq_true rfl) dX4_steep_31 ?_
            refine lv_iconst (v := 1) hx hb dX4_steep_34 (by decide) ?_
            refine lv_isub hx hb dX4_steep_35 ?_
            refine lv_istore (lv' := [(4, .int ((nI n - 1) - 1)), (0, .ref (a 0)), (1, .int x), (2, .int y), (3, .int (nI k))]) hx hb dX4_steep_36 hl (by decide) rfl (fun ls hl => ?_)
            have loopI : ∀ (j : Nat) (xj : Int32) , sn_dn j xj → (j ≤ n - 1) → (sn_gnA f n (nI k) x j = sn_gn f n (nI k) x) → ∀ ls : Array Slot, lv_has ls 5 [(0, .ref (a 0)), (1, .int x), (2, .int y), (3, .int (nI k)), (4, .int xj)] → W p l e (sn_rm 4 0 0) s m [.ref (a 0), .int x, .int y].toArray below meth c s.heap [] 0 0 (MQ below (vp_Si (fun r_ => r_ = (sn_Rsteep f n x y))) [.ref (a 0), .int x, .int y].toArray s 0 0 (fun _ => False)) (F0 m 38 ls []) := by
              intro j
              induction j with
              | zero =>
                intro xj  hdn hj hq2 ls hl
                have hdn : xj < 0 := hdn
                refine lv_iload hx hb dX4_steep_38 (lv_at hl 4 rfl) ?_
                refine lv_if_lt (tgt := 71) hx hb dX4_steep_40 (by decide) (fun c_4 => ?_) (fun c_4 => ?_)
                · refine lv_iinc (v := nI (k + 1)) (lv' := [(3, .int (nI (k + 1))), (0, .ref (a 0)), (1, .int x), (2, .int y), (4, .int xj)]) hx hb dX4_steep_71 hl (k := 3) rfl (sn_inc _) (by decide) rfl (fun ls hl => ?_)
                  refine lv_goto (tgt := 24) hx hb dX4_steep_74 (by decide) ?_
                  exact ih_loopO (k + 1) (by omega) ((sn_stp_z (by omega) (show _ = 0 from hq2.symm)).symm.trans hq) (by omega) ls (lv_sub hl [1, 2, 3, 0] rfl)
                · exact absurd hdn c_4
              | succ j ih_loopI =>
                intro xj  hdn hj hq2 ls hl
                have hdn : xj = nI j := hdn
                subst hdn
                refine lv_iload hx hb dX4_steep_38 (lv_at hl 4 rfl) ?_
                refine lv_if_lt (tgt := 71) hx hb dX4_steep_40 (by decide) (fun c_5 => ?_) (fun c_5 => ?_)
                · have c_5 := (sn_cltj (a := j) (b := 0) rfl rfl (by omega) (by omega)).mp c_5
                  exact absurd c_5 (by omega)
                · have c_5 := (sn_cltf (a := j) (b := 0) rfl rfl (by omega) (by omega)).mp c_5
                  refine lv_aload_n hx hb dX4_steep_43 rfl (lv_at hl 0 rfl) ?_
                  refine lv_iload hx hb dX4_steep_44 (lv_at hl 4 rfl) ?_
                  refine lv_iload_n hx hb dX4_steep_46 rfl (lv_at hl 3 rfl) ?_
                  refine lv_iload_n hx hb dX4_steep_47 rfl (lv_at hl 1 rfl) ?_
                  refine sn_cV 3 0 hC hl (ct_X4_doesGo l D cI cZ cR a f g kp tp ly nb n hI j (by omega) (nI k) x) gX4_steep_X4_doesGo rfl (by decide +kernel) rfl ⟨Nat.le_of_ble_eq_true rfl, Nat.le_of_ble_eq_true rfl⟩ ⟨Nat.zero_le _, Nat.zero_le _⟩ hP hK hN rfl rfl rfl (Nat.le_of_ble_eq_true rfl) dX4_steep_48 ?_
                  refine lv_if_eq (tgt := 65) hx hb dX4_steep_51 (by decide) (fun c_6 => ?_) (fun c_6 => ?_)
                  · have c_6 : ¬ (sn_Go f n (nI k) x j) := sn_b_z.mp c_6
                    refine lv_iinc (v := (nI j) + (-1)) (lv' := [(4, .int ((nI j) + (-1))), (0, .ref (a 0)), (1, .int x), (2, .int y), (3, .int (nI k))]) hx hb dX4_steep_65 hl (k := 4) rfl (rfl) (by decide) rfl (fun ls hl => ?_)
                    refine lv_goto (tgt := 38) hx hb dX4_steep_68 (by decide) ?_
                    exact ih_loopI ((nI j) + (-1)) (sn_dn_p j) (by omega) ((if_neg c_6).symm.trans hq2) ls (lv_sub hl [1, 2, 3, 4, 0] rfl)
                  · have c_6 : sn_Go f n (nI k) x j := sn_b_nz.mp c_6
                    have hg : sn_gn f n (nI k) x = j + 1 := by rw [← hq2]; exact if_pos c_6
                    refine lv_iload_n hx hb dX4_steep_54 rfl (lv_at hl 2 rfl) ?_
                    refine lv_if_ne (tgt := 62) hx hb dX4_steep_55 (by decide) (fun c_7 => ?_) (fun c_7 => ?_)
                    · refine lv_iload hx hb dX4_steep_62 (lv_at hl 4 rfl) ?_
                      exact sn_ret hx hb hr hlk dX4_steep_64 (((if_pos (⟨c_1, c_2⟩)).trans (hq.symm.trans ((sn_stp_p (by omega) (by rw [hg]; omega)).trans ((if_neg c_7).trans (by rw [hg]; rfl))))).symm)
                    · refine lv_iload_n hx hb dX4_steep_58 rfl (lv_at hl 3 rfl) ?_
                      refine lv_goto (tgt := 64) hx hb dX4_steep_59 (by decide) ?_
                      exact sn_ret hx hb hr hlk dX4_steep_64 (((if_pos (⟨c_1, c_2⟩)).trans (hq.symm.trans ((sn_stp_p (by omega) (by rw [hg]; omega)).trans (if_pos c_7)))).symm)
            exact loopI (n - 1) (nI n - 1 - 1) (sn_dn_11 n) (Nat.le_refl _) rfl ls (lv_sub hl [1, 2, 3, 4, 0] rfl)
      exact loopO ((101 - 0) + 1) 0 (Nat.zero_le _) rfl (by omega) ls (lv_sub hl [1, 2, 3, 0] rfl)
    · have c_2 : ¬ (0 ≤ y ∧ y ≤ 1) := sn_b_z.mp c_2
      refine lv_bipush (v := (-2)) hx hb dX4_steep_19 (by decide) ?_
      exact sn_ret hx hb hr hlk dX4_steep_21 ((if_neg (fun h => c_2 h.2)).symm)
set_option maxRecDepth 100000 in
set_option maxHeartbeats 4000000 in
theorem ct_X4_heat (l : Launch) (D : va_G) (cI cZ cR : ClassId) (a : Nat → Nat) (f g kp tp ly : Nat → Int32) (nb : Int32) (x y z : Int32) : sn_Rd l yX4_heat wsX4_heat 3 [.ref (a 0), .int x, .int y, .int z] D (sn_ty cI cZ cR) (sn_wM cI cZ a f g kp tp ly nb) (sn_Rheat x y z) := by
  refine sn_rd (cc := cX4_heat) (maxL := 4) (ret := (some .int)) (by decide) rfl (Nat.le_of_ble_eq_true rfl) ?_
  intro p e s m below meth c hx hb hml hr hlk hts hown hP hK hN ls hl
  have hC : CallFix p m c cX4_heat 4 s [.ref (a 0), .int x, .int y, .int z].toArray wsX4_heat RX4 := ⟨hx, hb, hml, hown, hts⟩
  have hl : lv_has ls 4 [(0, .ref (a 0)), (1, .int x), (2, .int y), (3, .int z)] := hl
  refine lv_iload_n hx hb dX4_heat_0 rfl (lv_at hl 1 rfl) ?_
  refine sn_cS 1 hC hl (ct_X4_isSide l D _ [] x) gX4_heat_X4_isSide rfl (by decide +kernel) rfl ⟨Nat.le_of_ble_eq_true rfl, Nat.le_of_ble_eq_true rfl⟩ ⟨Nat.zero_le _, Nat.zero_le _⟩ (fun _ _ h => by simp at h) hK hN rfl (Nat.le_of_ble_eq_true rfl) dX4_heat_1 ?_
  refine lv_if_ne (tgt := 9) hx hb dX4_heat_4 (by decide) (fun c_1 => ?_) (fun c_1 => ?_)
  · have c_1 : 0 ≤ x ∧ x ≤ 7 := sn_b_nz.mp c_1
    refine lv_iload_n hx hb dX4_heat_9 rfl (lv_at hl 2 rfl) ?_
    refine lv_iconst (v := 0) hx hb dX4_heat_10 (by decide) ?_
    refine lv_bipush (v := 23) hx hb dX4_heat_11 (by decide) ?_
    refine sn_cS 3 hC hl (ct_X4_in l D _ [] y 0 23) gX4_heat_X4_in rfl (by decide +kernel) rfl ⟨Nat.le_of_ble_eq_true rfl, Nat.le_of_ble_eq_true rfl⟩ ⟨Nat.zero_le _, Nat.zero_le _⟩ (fun _ _ h => by simp at h) hK hN rfl (Nat.le_of_ble_eq_true rfl) dX4_heat_13 ?_
    refine lv_if_eq (tgt := 28) hx hb dX4_heat_16 (by decide) (fun c_2 => ?_) (fun c_2 => ?_)
    · have c_2 : ¬ (0 ≤ y ∧ y ≤ 23) := sn_b_z.mp c_2
      refine lv_bipush (v := (-2)) hx hb dX4_heat_28 (by decide) ?_
      exact sn_ret hx hb hr hlk dX4_heat_30 (((if_pos c_1).trans (if_neg (fun h => c_2 h.1))).symm)
    · have c_2 : 0 ≤ y ∧ y ≤ 23 := sn_b_nz.mp c_2
      refine lv_iload_n hx hb dX4_heat_19 rfl (lv_at hl 3 rfl) ?_
      refine lv_iconst (v := 0) hx hb dX4_heat_20 (by decide) ?_
      refine lv_iconst (v := 1) hx hb dX4_heat_21 (by decide) ?_
      refine sn_cS 3 hC hl (ct_X4_in l D _ [] z 0 1) gX4_heat_X4_in rfl (by decide +kernel) rfl ⟨Nat.le_of_ble_eq_true rfl, Nat.le_of_ble_eq_true rfl⟩ ⟨Nat.zero_le _, Nat.zero_le _⟩ (fun _ _ h => by simp at h) hK hN rfl (Nat.le_of_ble_eq_true rfl) dX4_heat_22 ?_
      refine lv_if_ne (tgt := 31) hx hb dX4_heat_25 (by decide) (fun c_3 => ?_) (fun c_3 => ?_)
      · have c_3 : 0 ≤ z ∧ z ≤ 1 := sn_b_nz.mp c_3
        obtain ⟨i, hi1, hi2, hi3⟩ := sn_rng (lo := 0) (hi := 7) c_1 (by decide)
        subst hi3
        obtain ⟨h, hh1, hh2, hh3⟩ := sn_rng (lo := 0) (hi := 23) c_2 (by decide)
        subst hh3
        refine lv_iload_n hx hb dX4_heat_31 rfl (lv_at hl 3 rfl) ?_
        refine lv_if_ne (tgt := 43) hx hb dX4_heat_32 (by decide) (fun c_4 => ?_) (fun c_4 => ?_)
        · refine lv_iload_n hx hb dX4_heat_43 rfl (lv_at hl 1 rfl) ?_
          refine lv_iload_n hx hb dX4_heat_44 rfl (lv_at hl 2 rfl) ?_
          refine sn_cS 2 hC hl (ct_X4_heatTill l D _ [] i h (by omega) (by omega)) gX4_heat_X4_heatTill rfl (by decide +kernel) rfl ⟨Nat.le_of_ble_eq_true rfl, Nat.le_of_ble_eq_true rfl⟩ ⟨Nat.zero_le _, Nat.zero_le _⟩ (fun _ _ h => by simp at h) hK hN rfl (Nat.le_of_ble_eq_true rfl) dX4_heat_45 ?_
          exact sn_ret hx hb hr hlk dX4_heat_48 (((if_pos c_1).trans ((if_pos (⟨c_2, c_3⟩)).trans ((if_neg c_4).trans (by rw [nI_clamp (by omega), nI_clamp (by omega)])))).symm)
        · refine lv_iload_n hx hb dX4_heat_35 rfl (lv_at hl 1 rfl) ?_
          refine lv_iload_n hx hb dX4_heat_36 rfl (lv_at hl 2 rfl) ?_
          refine sn_cS 2 hC hl (ct_X4_heatIn l D _ [] i h (by omega) (by omega)) gX4_heat_X4_heatIn rfl (by decide +kernel) rfl ⟨Nat.le_of_ble_eq_true rfl, Nat.le_of_ble_eq_true rfl⟩ ⟨Nat.zero_le _, Nat.zero_le _⟩ (fun _ _ h => by simp at h) hK hN rfl (Nat.le_of_ble_eq_true rfl) dX4_heat_37 ?_
          refine lv_goto (tgt := 48) hx hb dX4_heat_40 (by decide) ?_
          exact sn_ret hx hb hr hlk dX4_heat_48 (((if_pos c_1).trans ((if_pos (⟨c_2, c_3⟩)).trans ((if_pos c_4).trans (by rw [nI_clamp (by omega), nI_clamp (by omega)])))).symm)
      · have c_3 : ¬ (0 ≤ z ∧ z ≤ 1) := sn_b_z.mp c_3
        refine lv_bipush (v := (-2)) hx hb dX4_heat_28 (by decide) ?_
        exact sn_ret hx hb hr hlk dX4_heat_30 (((if_pos c_1).trans (if_neg (fun h => c_3 h.2))).symm)
  · have c_1 : ¬ (0 ≤ x ∧ x ≤ 7) := sn_b_z.mp c_1
    refine lv_iconst (v := (-1)) hx hb dX4_heat_7 (by decide) ?_
    exact sn_ret hx hb hr hlk dX4_heat_8 ((if_neg c_1).symm)
set_option maxRecDepth 100000 in
set_option maxHeartbeats 4000000 in
theorem ct_X4_warm (l : Launch) (D : va_G) (cI cZ cR : ClassId) (a : Nat → Nat) (f g kp tp ly : Nat → Int32) (nb : Int32) (x y : Int32) : sn_Rd l yX4_warm wsX4_warm 4 [.ref (a 0), .int x, .int y] D (sn_ty cI cZ cR) (sn_wM cI cZ a f g kp tp ly nb) (sn_Rwarm x y) := by
  refine sn_rd (cc := cX4_warm) (maxL := 3) (ret := (some .int)) (by decide) rfl (Nat.le_of_ble_eq_true rfl) ?_
  intro p e s m below meth c hx hb hml hr hlk hts hown hP hK hN ls hl
  have hC : CallFix p m c cX4_warm 3 s [.ref (a 0), .int x, .int y].toArray wsX4_warm RX4 := ⟨hx, hb, hml, hown, hts⟩
  have hl : lv_has ls 3 [(0, .ref (a 0)), (1, .int x), (2, .int y)] := hl
  refine lv_iload_n hx hb dX4_warm_0 rfl (lv_at hl 1 rfl) ?_
  refine sn_cS 1 hC hl (ct_X4_isSide l D _ [] x) gX4_warm_X4_isSide rfl (by decide +kernel) rfl ⟨Nat.le_of_ble_eq_true rfl, Nat.le_of_ble_eq_true rfl⟩ ⟨Nat.zero_le _, Nat.zero_le _⟩ (fun _ _ h => by simp at h) hK hN rfl (Nat.le_of_ble_eq_true rfl) dX4_warm_1 ?_
  refine lv_if_ne (tgt := 9) hx hb dX4_warm_4 (by decide) (fun c_1 => ?_) (fun c_1 => ?_)
  · have c_1 : 0 ≤ x ∧ x ≤ 7 := sn_b_nz.mp c_1
    refine lv_iload_n hx hb dX4_warm_9 rfl (lv_at hl 2 rfl) ?_
    refine lv_iconst (v := 1) hx hb dX4_warm_10 (by decide) ?_
    refine lv_sipush (v := 999) hx hb dX4_warm_11 (by decide) ?_
    refine sn_cS 3 hC hl (ct_X4_in l D _ [] y 1 999) gX4_warm_X4_in rfl (by decide +kernel) rfl ⟨Nat.le_of_ble_eq_true rfl, Nat.le_of_ble_eq_true rfl⟩ ⟨Nat.zero_le _, Nat.zero_le _⟩ (fun _ _ h => by simp at h) hK hN rfl (Nat.le_of_ble_eq_true rfl) dX4_warm_14 ?_
    refine lv_if_eq (tgt := 28) hx hb dX4_warm_17 (by decide) (fun c_2 => ?_) (fun c_2 => ?_)
    · have c_2 : ¬ (1 ≤ y ∧ y ≤ 999) := sn_b_z.mp c_2
      refine lv_bipush (v := (-2)) hx hb dX4_warm_28 (by decide) ?_
      exact sn_ret hx hb hr hlk dX4_warm_30 (((if_pos c_1).trans (if_neg c_2)).symm)
    · have c_2 : 1 ≤ y ∧ y ≤ 999 := sn_b_nz.mp c_2
      obtain ⟨i, hi1, hi2, hi3⟩ := sn_rng (lo := 0) (hi := 7) c_1 (by decide)
      subst hi3
      obtain ⟨t, ht1, ht2, ht3⟩ := sn_rng (lo := 1) (hi := 999) c_2 (by decide)
      subst ht3
      refine lv_iload_n hx hb dX4_warm_20 rfl (lv_at hl 1 rfl) ?_
      refine lv_iload_n hx hb dX4_warm_21 rfl (lv_at hl 2 rfl) ?_
      refine sn_cS 2 hC hl (ct_X4_warmHour l D _ [] i t (by omega) (by omega)) gX4_warm_X4_warmHour rfl (by decide +kernel) rfl ⟨Nat.le_of_ble_eq_true rfl, Nat.le_of_ble_eq_true rfl⟩ ⟨Nat.zero_le _, Nat.zero_le _⟩ (fun _ _ h => by simp at h) hK hN rfl (Nat.le_of_ble_eq_true rfl) dX4_warm_22 ?_
      refine lv_goto (tgt := 30) hx hb dX4_warm_25 (by decide) ?_
      exact sn_ret hx hb hr hlk dX4_warm_30 (((if_pos c_1).trans ((if_pos c_2).trans (by rw [nI_clamp (by omega), nI_clamp (by omega)]))).symm)
  · have c_1 : ¬ (0 ≤ x ∧ x ≤ 7) := sn_b_z.mp c_1
    refine lv_iconst (v := (-1)) hx hb dX4_warm_7 (by decide) ?_
    exact sn_ret hx hb hr hlk dX4_warm_8 ((if_neg c_1).symm)
set_option maxRecDepth 100000 in
set_option maxHeartbeats 4000000 in
theorem ct_X4_order (l : Launch) (D : va_G) (cI cZ cR : ClassId) (a : Nat → Nat) (f g kp tp ly : Nat → Int32) (nb : Int32) (x y : Int32) : sn_Rd l yX4_order wsX4_order 4 [.ref (a 0), .int x, .int y] D (sn_ty cI cZ cR) (sn_wM cI cZ a f g kp tp ly nb) (sn_Rord x y) := by
  refine sn_rd (cc := cX4_order) (maxL := 6) (ret := (some .int)) (by decide) rfl (Nat.le_of_ble_eq_true rfl) ?_
  intro p e s m below meth c hx hb hml hr hlk hts hown hP hK hN ls hl
  have hC : CallFix p m c cX4_order 6 s [.ref (a 0), .int x, .int y].toArray wsX4_order RX4 := ⟨hx, hb, hml, hown, hts⟩
  have hl : lv_has ls 6 [(0, .ref (a 0)), (1, .int x), (2, .int y)] := hl
  refine lv_iload_n hx hb dX4_order_0 rfl (lv_at hl 1 rfl) ?_
  refine lv_iconst (v := 1) hx hb dX4_order_1 (by decide) ?_
  refine lv_sipush (v := 999) hx hb dX4_order_2 (by decide) ?_
  refine sn_cS 3 hC hl (ct_X4_in l D _ [] x 1 999) gX4_order_X4_in rfl (by decide +kernel) rfl ⟨Nat.le_of_ble_eq_true rfl, Nat.le_of_ble_eq_true rfl⟩ ⟨Nat.zero_le _, Nat.zero_le _⟩ (fun _ _ h => by simp at h) hK hN rfl (Nat.le_of_ble_eq_true rfl) dX4_order_5 ?_
  refine lv_if_ne (tgt := 14) hx hb dX4_order_8 (by decide) (fun c_1 => ?_) (fun c_1 => ?_)
  · have c_1 : 1 ≤ x ∧ x ≤ 999 := sn_b_nz.mp c_1
    obtain ⟨t, ht1, ht2, ht3⟩ := sn_rng (lo := 1) (hi := 999) c_1 (by decide)
    subst ht3
    refine lv_iconst (v := 0) hx hb dX4_order_14 (by decide) ?_
    refine lv_istore_n (lv' := [(3, .int 0), (0, .ref (a 0)), (1, .int (nI t)), (2, .int y)]) hx hb dX4_order_15 rfl hl (by decide) rfl (fun ls hl => ?_)
    refine lv_iconst (v := 0) hx hb dX4_order_16 (by decide) ?_
    refine lv_istore (lv' := [(4, .int 0), (3, .int 0), (0, .ref (a 0)), (1, .int (nI t)), (2, .int y)]) hx hb dX4_order_17 hl (by decide) rfl (fun ls hl => ?_)
    have loopO : ∀ (fu : Nat) (k : Nat) (v : Int32), (k ≤ 24) → (sn_pikM (sn_ro t (24 - k)) v y = sn_pikM (sn_ro t 24) 0 y) → 24 - k < fu → ∀ ls : Array Slot, lv_has ls 6 [(0, .ref (a 0)), (1, .int (nI t)), (2, .int y), (3, .int v), (4, .int (nI k))] → W p l e (sn_rm 4 0 0) s m [.ref (a 0), .int (nI t), .int y].toArray below meth c s.heap [] 0 0 (MQ below (vp_Si (fun r_ => r_ = (sn_Rord (nI t) y))) [.ref (a 0), .int (nI t), .int y].toArray s 0 0 (fun _ => False)) (F0 m 19 ls []) := by
      intro fu
      induction fu with
      | zero => intro k v h1 hq hm; exact absurd hm (Nat.not_lt_zero _)
      | succ fu ih_loopO =>
        intro k v h1 hq hm ls hl
        refine lv_iload hx hb dX4_order_19 (lv_at hl 4 rfl) ?_
        refine lv_bipush (v := 24) hx hb dX4_order_21 (by decide) ?_
        refine lv_icmp_ge (tgt := 70) hx hb dX4_order_23 (by decide) (fun c_2 => ?_) (fun c_2 => ?_)
        · have c_2 := (sn_cgej (a := k) (b := 24) rfl rfl (by omega) (by omega)).mp c_2
          refine lv_iload_n hx hb dX4_order_70 rfl (lv_at hl 2 rfl) ?_
          refine lv_iconst (v := (-1)) hx hb dX4_order_71 (by decide) ?_
          refine lv_icmp_ne (tgt := 79) hx hb dX4_order_72 (by decide) (fun c_3 => ?_) (fun c_3 => ?_)
          · refine lv_bipush (v := (-6)) hx hb dX4_order_79 (by decide) ?_
            exact sn_ret hx hb hr hlk dX4_order_81 (((if_pos c_1).trans ((congrArg (fun z => sn_pikM (sn_ro z 24) 0 y) (nI_clamp (by omega))).trans (hq.symm.trans (by rw [show k = 24 by omega]; exact if_neg c_3)))).symm)
          · refine lv_iload_n hx hb dX4_order_75 rfl (lv_at hl 3 rfl) ?_
            refine lv_goto (tgt := 81) hx hb dX4_order_76 (by decide) ?_
            exact sn_ret hx hb hr hlk dX4_order_81 (((if_pos c_1).trans ((congrArg (fun z => sn_pikM (sn_ro z 24) 0 y) (nI_clamp (by omega))).trans (hq.symm.trans (by rw [show k = 24 by omega]; exact if_pos c_3)))).symm)
        · have c_2 := (sn_cgef (a := k) (b := 24) rfl rfl (by omega) (by omega)).mp c_2
          refine lv_iconst (v := 0) hx hb dX4_order_26 (by decide) ?_
          refine lv_istore (lv' := [(5, .int 0), (0, .ref (a 0)), (1, .int (nI t)), (2, .int y), (3, .int v), (4, .int (nI k))]) hx hb dX4_order_27 hl (by decide) rfl (fun ls hl => ?_)
          have loopI : ∀ (fu : Nat) (q : Nat) (v2 : Int32), (q ≤ 8) → (sn_pikM (sn_ri t k (8 - q) ++ sn_ro t (24 - (k + 1))) v2 y = sn_pikM (sn_ro t 24) 0 y) → 8 - q < fu → ∀ ls : Array Slot, lv_has ls 6 [(0, .ref (a 0)), (1, .int (nI t)), (2, .int y), (3, .int v2), (4, .int (nI k)), (5, .int (nI q))] → W p l e (sn_rm 4 0 0) s m [.ref (a 0), .int (nI t), .int y].toArray below meth c s.heap [] 0 0 (MQ below (vp_Si (fun r_ => r_ = (sn_Rord (nI t) y))) [.ref (a 0), .int (nI t), .int y].toArray s 0 0 (fun _ => False)) (F0 m 29 ls []) := by
            intro fu
            induction fu with
            | zero => intro q v2 h2 hq2 hm; exact absurd hm (Nat.not_lt_zero _)
            | succ fu ih_loopI =>
              intro q v2 h2 hq2 hm ls hl
              refine lv_iload hx hb dX4_order_29 (lv_at hl 5 rfl) ?_
              refine lv_bipush (v := 8) hx hb dX4_order_31 (by decide) ?_
              refine lv_icmp_ge (tgt := 64) hx hb dX4_order_33 (by decide) (fun c_4 => ?_) (fun c_4 => ?_)
              · have c_4 := (sn_cgej (a := q) (b := 8) rfl rfl (by omega) (by omega)).mp c_4
                refine lv_iinc (v := nI (k + 1)) (lv' := [(4, .int (nI (k + 1))), (0, .ref (a 0)), (1, .int (nI t)), (2, .int y), (3, .int v2), (5, .int (nI q))]) hx hb dX4_order_64 hl (k := 4) rfl (sn_inc _) (by decide) rfl (fun ls hl => ?_)
                refine lv_goto (tgt := 19) hx hb dX4_order_67 (by decide) ?_
                exact ih_loopO (k + 1) v2 (by omega) (by rw [← hq2, show 8 - q = 0 by omega]; rfl) (by omega) ls (lv_sub hl [1, 2, 3, 4, 0] rfl)
              · have c_4 := (sn_cgef (a := q) (b := 8) rfl rfl (by omega) (by omega)).mp c_4
                refine lv_iload hx hb dX4_order_36 (lv_at hl 5 rfl) ?_
                refine lv_iload_n hx hb dX4_order_38 rfl (lv_at hl 1 rfl) ?_
                refine sn_cS 2 hC hl (ct_X4_warmHour l D _ [] q t (by omega) (by omega)) gX4_order_X4_warmHour rfl (by decide +kernel) rfl ⟨Nat.le_of_ble_eq_true rfl, Nat.le_of_ble_eq_true rfl⟩ ⟨Nat.zero_le _, Nat.zero_le _⟩ (fun _ _ h => by simp at h) hK hN rfl (Nat.le_of_ble_eq_true rfl) dX4_order_39 ?_
                refine lv_iload hx hb dX4_order_42 (lv_at hl 4 rfl) ?_
                refine lv_icmp_ne (tgt := 58) hx hb dX4_order_44 (by decide) (fun c_5 => ?_) (fun c_5 => ?_)
                · have c_5 : ¬ sn_wh q t = k := fun z => c_5 ((sn_e24_eq (by omega)).mpr z)
                  refine lv_iinc (v := nI (q + 1)) (lv' := [(5, .int (nI (q + 1))), (0, .ref (a 0)), (1, .int (nI t)), (2, .int y), (3, .int v2), (4, .int (nI k))]) hx hb dX4_order_58 hl (k := 5) rfl (sn_inc _) (by decide) rfl (fun ls hl => ?_)
                  refine lv_goto (tgt := 29) hx hb dX4_order_61 (by decide) ?_
                  exact ih_loopI (q + 1) v2 (by omega) (by rw [← hq2, sn_ri_n (by omega) c_5]) (by omega) ls (lv_sub hl [1, 2, 3, 4, 5, 0] rfl)
                · have c_5 : sn_wh q t = k := (sn_e24_eq (by omega)).mp c_5
                  refine lv_iload_n hx hb dX4_order_47 rfl (lv_at hl 3 rfl) ?_
                  refine lv_iload_n hx hb dX4_order_48 rfl (lv_at hl 2 rfl) ?_
                  refine lv_icmp_ne (tgt := 55) hx hb dX4_order_49 (by decide) (fun c_6 => ?_) (fun c_6 => ?_)
                  · refine lv_iinc (v := v2 + 1) (lv' := [(3, .int (v2 + 1)), (0, .ref (a 0)), (1, .int (nI t)), (2, .int y), (4, .int (nI k)), (5, .int (nI q))]) hx hb dX4_order_55 hl (k := 3) rfl (rfl) (by decide) rfl (fun ls hl => ?_)
                    refine lv_iinc (v := nI (q + 1)) (lv' := [(5, .int (nI (q + 1))), (3, .int (v2 + 1)), (0, .ref (a 0)), (1, .int (nI t)), (2, .int y), (4, .int (nI k))]) hx hb dX4_order_58 hl (k := 5) rfl (sn_inc _) (by decide) rfl (fun ls hl => ?_)
                    refine lv_goto (tgt := 29) hx hb dX4_order_61 (by decide) ?_
                    exact ih_loopI (q + 1) (v2 + 1) (by omega) (by rw [← hq2, sn_ri_y (by omega) c_5]; exact (if_neg c_6).symm) (by omega) ls (lv_sub hl [2, 3, 4, 1, 5, 0] rfl)
                  · refine lv_iload hx hb dX4_order_52 (lv_at hl 5 rfl) ?_
                    exact sn_ret hx hb hr hlk dX4_order_54 (((if_pos c_1).trans ((congrArg (fun z => sn_pikM (sn_ro z 24) 0 y) (nI_clamp (by omega))).trans (hq2.symm.trans (by rw [sn_ri_y (by omega) c_5]; exact if_pos c_6)))).symm)
          exact loopI ((8 - 0) + 1) 0 v (Nat.zero_le _) (by rw [← hq, sn_ro_s (k := k) (by omega)]) (by omega) ls (lv_sub hl [1, 2, 3, 4, 5, 0] rfl)
    exact loopO ((24 - 0) + 1) 0 0 (Nat.zero_le _) rfl (by omega) ls (lv_sub hl [2, 3, 4, 1, 0] rfl)
  · have c_1 : ¬ (1 ≤ x ∧ x ≤ 999) := sn_b_z.mp c_1
    refine lv_bipush (v := (-2)) hx hb dX4_order_11 (by decide) ?_
    exact sn_ret hx hb hr hlk dX4_order_13 ((if_neg c_1).symm)
set_option maxRecDepth 100000 in
set_option maxHeartbeats 4000000 in
theorem ct_X4_allThick (l : Launch) (D : va_G) (cI cZ cR : ClassId) (a : Nat → Nat) (f g kp tp ly : Nat → Int32) (nb : Int32) (n : Nat) (hI : sn_I f n) : sn_Rd l yX4_allThick wsX4_allThick 2 [.ref (a 0)] D (sn_ty cI cZ cR) (sn_wM cI cZ a f g kp tp ly nb) (sn_dep f 0 n) := by
  refine sn_rd (cc := cX4_allThick) (maxL := 1) (ret := (some .int)) (by decide) rfl (Nat.le_of_ble_eq_true rfl) ?_
  intro p e s m below meth c hx hb hml hr hlk hts hown hP hK hN ls hl
  have hC : CallFix p m c cX4_allThick 1 s [.ref (a 0)].toArray wsX4_allThick RX4 := ⟨hx, hb, hml, hown, hts⟩
  have hl : lv_has ls 1 [(0, .ref (a 0))] := hl
  have huX4 : ∀ w ∈ wsX40, w ∈ wsX4_allThick := by decide +kernel
  refine lv_aload_n hx hb dX4_allThick_0 rfl (lv_at hl 0 rfl) ?_
  refine lv_iconst (v := (-1)) hx hb dX4_allThick_1 (by decide) ?_
  refine lv_aload_n hx hb dX4_allThick_2 rfl (lv_at hl 0 rfl) ?_
  refine va_get (D := D) (ci := 3) (v := .ref (a 1)) (C := RX4) (T := TX4) (N := 6) hx hb hts huX4 hown hK hP 0 rfl rfl 0 (by decide) (hts (.fieldLink RX4 7 "SnowSlabsModel" "state" "[I") (by decide +kernel)) (fun _ h9 => h9) rfl dX4_allThick_3 ?_
  refine lv_iconst (v := 0) hx hb dX4_allThick_6 (by decide) ?_
  refine sn_ild (k := 0) (v := f 0) 1 0 hx hb hK hP rfl rfl (by omega) (by decide) rfl (rfl) dX4_allThick_7 ?_
  refine sn_top (hI.1) ?_
  refine sn_cV 2 0 hC hl (ct_X4_depth l D cI cZ cR a f g kp tp ly nb (-1) 0 n (by decide) (by omega) (by first | exact hI.2.1 | omega)) gX4_allThick_X4_depth rfl (by decide +kernel) rfl ⟨Nat.le_of_ble_eq_true rfl, Nat.le_of_ble_eq_true rfl⟩ ⟨Nat.zero_le _, Nat.zero_le _⟩ hP hK hN rfl rfl rfl (Nat.le_of_ble_eq_true rfl) dX4_allThick_8 ?_
  exact sn_ret hx hb hr hlk dX4_allThick_11 (rfl)
set_option maxRecDepth 100000 in
set_option maxHeartbeats 4000000 in
theorem ct_X4_allWeight (l : Launch) (D : va_G) (cI cZ cR : ClassId) (a : Nat → Nat) (f g kp tp ly : Nat → Int32) (nb : Int32) (n : Nat) (hI : sn_I f n) : sn_Rd l yX4_allWeight wsX4_allWeight 1 [.ref (a 0)] D (sn_ty cI cZ cR) (sn_wM cI cZ a f g kp tp ly nb) (sn_mas f 0 n) := by
  refine sn_rd (cc := cX4_allWeight) (maxL := 3) (ret := (some .int)) (by decide) rfl (Nat.le_of_ble_eq_true rfl) ?_
  intro p e s m below meth c hx hb hml hr hlk hts hown hP hK hN ls hl
  have hC : CallFix p m c cX4_allWeight 3 s [.ref (a 0)].toArray wsX4_allWeight RX4 := ⟨hx, hb, hml, hown, hts⟩
  have hl : lv_has ls 3 [(0, .ref (a 0))] := hl
  have huX4 : ∀ w ∈ wsX40, w ∈ wsX4_allWeight := by decide +kernel
  have hn10 := hI.2.1
  refine lv_iconst (v := 0) hx hb dX4_allWeight_0 (by decide) ?_
  refine lv_istore_n (lv' := [(1, .int 0), (0, .ref (a 0))]) hx hb dX4_allWeight_1 rfl hl (by decide) rfl (fun ls hl => ?_)
  refine lv_iconst (v := 0) hx hb dX4_allWeight_2 (by decide) ?_
  refine lv_istore_n (lv' := [(2, .int 0), (1, .int 0), (0, .ref (a 0))]) hx hb dX4_allWeight_3 rfl hl (by decide) rfl (fun ls hl => ?_)
  have loop : ∀ (fu : Nat) (k : Nat), (k ≤ n) → n - k < fu → ∀ ls : Array Slot, lv_has ls 3 [(0, .ref (a 0)), (1, .int (sn_mas f 0 k)), (2, .int (nI k))] → W p l e (sn_rm 1 0 0) s m [.ref (a 0)].toArray below meth c s.heap [] 0 0 (MQ below (vp_Si (fun r_ => r_ = (sn_mas f 0 n))) [.ref (a 0)].toArray s 0 0 (fun _ => False)) (F0 m 4 ls []) := by
    intro fu
    induction fu with
    | zero => intro k h1 hm; exact absurd hm (Nat.not_lt_zero _)
    | succ fu ih_loop =>
      intro k h1 hm ls hl
      refine lv_iload_n hx hb dX4_allWeight_4 rfl (lv_at hl 2 rfl) ?_
      refine lv_aload_n hx hb dX4_allWeight_5 rfl (lv_at hl 0 rfl) ?_
      refine va_get (D := D) (ci := 3) (v := .ref (a 1)) (C := RX4) (T := TX4) (N := 6) hx hb hts huX4 hown hK hP 0 rfl rfl 0 (by decide) (hts (.fieldLink RX4 7 "SnowSlabsModel" "state" "[I") (by decide +kernel)) (fun _ h9 => h9) rfl dX4_allWeight_6 ?_
      refine lv_iconst (v := 0) hx hb dX4_allWeight_9 (by decide) ?_
      refine sn_ild (k := 0) (v := f 0) 1 0 hx hb hK hP rfl rfl (by omega) (by decide) rfl (rfl) dX4_allWeight_10 ?_
      refine sn_top (hI.1) ?_
      refine lv_icmp_ge (tgt := 44) hx hb dX4_allWeight_11 (by decide) (fun c_1 => ?_) (fun c_1 => ?_)
      · have c_1 := (sn_cgej (a := k) (b := n) rfl rfl (by omega) (by omega)).mp c_1
        refine lv_iload_n hx hb dX4_allWeight_44 rfl (lv_at hl 1 rfl) ?_
        exact sn_ret hx hb hr hlk dX4_allWeight_45 (by rw [show k = n by omega])
      · have c_1 := (sn_cgef (a := k) (b := n) rfl rfl (by omega) (by omega)).mp c_1
        refine lv_iload_n hx hb dX4_allWeight_14 rfl (lv_at hl 1 rfl) ?_
        refine lv_aload_n hx hb dX4_allWeight_15 rfl (lv_at hl 0 rfl) ?_
        refine va_get (D := D) (ci := 3) (v := .ref (a 1)) (C := RX4) (T := TX4) (N := 6) hx hb hts huX4 hown hK hP 0 rfl rfl 0 (by decide) (hts (.fieldLink RX4 7 "SnowSlabsModel" "state" "[I") (by decide +kernel)) (fun _ h9 => h9) rfl dX4_allWeight_16 ?_
        refine lv_iload_n hx hb dX4_allWeight_19 rfl (lv_at hl 2 rfl) ?_
        refine lv_iconst (v := 0) hx hb dX4_allWeight_20 (by decide) ?_
        refine sn_cS 2 hC hl (ct_X4_at l D _ [] k 0) gX4_allWeight_X4_at rfl (by decide +kernel) rfl ⟨Nat.le_of_ble_eq_true rfl, Nat.le_of_ble_eq_true rfl⟩ ⟨Nat.zero_le _, Nat.zero_le _⟩ (fun _ _ h => by simp at h) hK hN rfl (Nat.le_of_ble_eq_true rfl) dX4_allWeight_21 ?_
        refine sn_top (y := nI (7 + 5 * k)) (congrArg nI (show _ = 7 + 5 * k by omega)) ?_
        refine sn_ild (k := 7 + 5 * k) (v := f (7 + 5 * k)) 1 0 hx hb hK hP rfl rfl (by omega) (by decide) rfl (rfl) dX4_allWeight_24 ?_
        refine lv_aload_n hx hb dX4_allWeight_25 rfl (lv_at hl 0 rfl) ?_
        refine va_get (D := D) (ci := 3) (v := .ref (a 1)) (C := RX4) (T := TX4) (N := 6) hx hb hts huX4 hown hK hP 0 rfl rfl 0 (by decide) (hts (.fieldLink RX4 7 "SnowSlabsModel" "state" "[I") (by decide +kernel)) (fun _ h9 => h9) rfl dX4_allWeight_26 ?_
        refine lv_iload_n hx hb dX4_allWeight_29 rfl (lv_at hl 2 rfl) ?_
        refine lv_iconst (v := 1) hx hb dX4_allWeight_30 (by decide) ?_
        refine sn_cS 2 hC hl (ct_X4_at l D _ [] k 1) gX4_allWeight_X4_at rfl (by decide +kernel) rfl ⟨Nat.le_of_ble_eq_true rfl, Nat.le_of_ble_eq_true rfl⟩ ⟨Nat.zero_le _, Nat.zero_le _⟩ (fun _ _ h => by simp at h) hK hN rfl (Nat.le_of_ble_eq_true rfl) dX4_allWeight_31 ?_
        refine sn_top (y := nI (8 + 5 * k)) (congrArg nI (show _ = 8 + 5 * k by omega)) ?_
        refine sn_ild (k := 8 + 5 * k) (v := f (8 + 5 * k)) 1 0 hx hb hK hP rfl rfl (by omega) (by decide) rfl (rfl) dX4_allWeight_34 ?_
        refine lv_imul hx hb dX4_allWeight_35 ?_
        refine lv_iadd hx hb dX4_allWeight_36 ?_
        refine sn_top (y := sn_mas f 0 (k + 1)) (sn_mas_s (Nat.zero_le _)) ?_
        refine lv_istore_n (lv' := [(1, .int (sn_mas f 0 (k + 1))), (0, .ref (a 0)), (2, .int (nI k))]) hx hb dX4_allWeight_37 rfl hl (by decide) rfl (fun ls hl => ?_)
        refine lv_iinc (v := nI (k + 1)) (lv' := [(2, .int (nI (k + 1))), (1, .int (sn_mas f 0 (k + 1))), (0, .ref (a 0))]) hx hb dX4_allWeight_38 hl (k := 2) rfl (sn_inc _) (by decide) rfl (fun ls hl => ?_)
        refine lv_goto (tgt := 4) hx hb dX4_allWeight_41 (by decide) ?_
        exact ih_loop (k + 1) (by omega) (by omega) ls (lv_sub hl [2, 1, 0] rfl)
  exact loop ((n - 0) + 1) 0 (Nat.zero_le _) (by omega) ls (lv_sub hl [2, 1, 0] rfl)
set_option maxRecDepth 100000 in
set_option maxHeartbeats 4000000 in
theorem ct_X4_count (l : Launch) (D : va_G) (cI cZ cR : ClassId) (a : Nat → Nat) (f g kp tp ly : Nat → Int32) (nb : Int32) (n : Nat) (hI : sn_I f n) (x : Int32) : sn_Rd l yX4_count wsX4_count 3 [.ref (a 0), .int x] D (sn_ty cI cZ cR) (sn_wM cI cZ a f g kp tp ly nb) (sn_Rcount f n kp x) := by
  refine sn_rd (cc := cX4_count) (maxL := 2) (ret := (some .int)) (by decide) rfl (Nat.le_of_ble_eq_true rfl) ?_
  intro p e s m below meth c hx hb hml hr hlk hts hown hP hK hN ls hl
  have hC : CallFix p m c cX4_count 2 s [.ref (a 0), .int x].toArray wsX4_count RX4 := ⟨hx, hb, hml, hown, hts⟩
  have hl : lv_has ls 2 [(0, .ref (a 0)), (1, .int x)] := hl
  have huX4 : ∀ w ∈ wsX40, w ∈ wsX4_count := by decide +kernel
  have hn10 := hI.2.1
  refine lv_iload_n hx hb dX4_count_0 rfl (lv_at hl 1 rfl) ?_
  refine lv_bipush (v := 10) hx hb dX4_count_1 (by decide) ?_
  refine lv_bipush (v := 14) hx hb dX4_count_3 (by decide) ?_
  refine sn_cS 3 hC hl (ct_X4_in l D _ [] x 10 14) gX4_count_X4_in rfl (by decide +kernel) rfl ⟨Nat.le_of_ble_eq_true rfl, Nat.le_of_ble_eq_true rfl⟩ ⟨Nat.zero_le _, Nat.zero_le _⟩ (fun _ _ h => by simp at h) hK hN rfl (Nat.le_of_ble_eq_true rfl) dX4_count_5 ?_
  refine lv_if_eq (tgt := 23) hx hb dX4_count_8 (by decide) (fun c_1 => ?_) (fun c_1 => ?_)
  · have c_1 : ¬ (10 ≤ x ∧ x ≤ 14) := sn_b_z.mp c_1
    refine lv_iload_n hx hb dX4_count_23 rfl (lv_at hl 1 rfl) ?_
    by_cases t_0 : x = 0
    · subst t_0
      refine lv_tableIn (tgt := 60) hx hb dX4_count_24 (by decide) (by decide) (by decide +kernel : _ = some (36 : Int)) (by decide) ?_
      refine lv_aload_n hx hb dX4_count_60 rfl (lv_at hl 0 rfl) ?_
      refine va_get (D := D) (ci := 3) (v := .ref (a 1)) (C := RX4) (T := TX4) (N := 6) hx hb hts huX4 hown hK hP 0 rfl rfl 0 (by decide) (hts (.fieldLink RX4 7 "SnowSlabsModel" "state" "[I") (by decide +kernel)) (fun _ h9 => h9) rfl dX4_count_61 ?_
      refine lv_iconst (v := 0) hx hb dX4_count_64 (by decide) ?_
      refine sn_ild (k := 0) (v := f 0) 1 0 hx hb hK hP rfl rfl (by omega) (by decide) rfl (rfl) dX4_count_65 ?_
      refine sn_top (hI.1) ?_
      exact sn_ret hx hb hr hlk dX4_count_66 (((if_neg c_1).trans (rfl)).symm)
    · skip
      by_cases t_1 : x = 1
      · subst t_1
        refine lv_tableIn (tgt := 67) hx hb dX4_count_24 (by decide) (by decide) (by decide +kernel : _ = some (43 : Int)) (by decide) ?_
        refine lv_aload_n hx hb dX4_count_67 rfl (lv_at hl 0 rfl) ?_
        refine sn_cV 0 0 hC hl (ct_X4_allThick l D cI cZ cR a f g kp tp ly nb n hI ) gX4_count_X4_allThick rfl (by decide +kernel) rfl ⟨Nat.le_of_ble_eq_true rfl, Nat.le_of_ble_eq_true rfl⟩ ⟨Nat.zero_le _, Nat.zero_le _⟩ hP hK hN rfl rfl rfl (Nat.le_of_ble_eq_true rfl) dX4_count_68 ?_
        exact sn_ret hx hb hr hlk dX4_count_71 (((if_neg c_1).trans (rfl)).symm)
      · skip
        by_cases t_2 : x = 2
        · subst t_2
          refine lv_tableIn (tgt := 72) hx hb dX4_count_24 (by decide) (by decide) (by decide +kernel : _ = some (48 : Int)) (by decide) ?_
          refine lv_aload_n hx hb dX4_count_72 rfl (lv_at hl 0 rfl) ?_
          refine sn_cV 0 0 hC hl (ct_X4_allWeight l D cI cZ cR a f g kp tp ly nb n hI ) gX4_count_X4_allWeight rfl (by decide +kernel) rfl ⟨Nat.le_of_ble_eq_true rfl, Nat.le_of_ble_eq_true rfl⟩ ⟨Nat.zero_le _, Nat.zero_le _⟩ hP hK hN rfl rfl rfl (Nat.le_of_ble_eq_true rfl) dX4_count_73 ?_
          exact sn_ret hx hb hr hlk dX4_count_76 (((if_neg c_1).trans (rfl)).symm)
        · skip
          by_cases t_3 : x = 3
          · subst t_3
            refine lv_tableIn (tgt := 77) hx hb dX4_count_24 (by decide) (by decide) (by decide +kernel : _ = some (53 : Int)) (by decide) ?_
            refine lv_aload_n hx hb dX4_count_77 rfl (lv_at hl 0 rfl) ?_
            refine va_get (D := D) (ci := 3) (v := .ref (a 1)) (C := RX4) (T := TX4) (N := 6) hx hb hts huX4 hown hK hP 0 rfl rfl 0 (by decide) (hts (.fieldLink RX4 7 "SnowSlabsModel" "state" "[I") (by decide +kernel)) (fun _ h9 => h9) rfl dX4_count_78 ?_
            refine lv_iconst (v := 1) hx hb dX4_count_81 (by decide) ?_
            refine sn_ild (k := 1) (v := f 1) 1 0 hx hb hK hP rfl rfl (by omega) (by decide) rfl (rfl) dX4_count_82 ?_
            exact sn_ret hx hb hr hlk dX4_count_83 (((if_neg c_1).trans (rfl)).symm)
          · skip
            by_cases t_4 : x = 4
            · subst t_4
              refine lv_tableIn (tgt := 84) hx hb dX4_count_24 (by decide) (by decide) (by decide +kernel : _ = some (60 : Int)) (by decide) ?_
              refine lv_aload_n hx hb dX4_count_84 rfl (lv_at hl 0 rfl) ?_
              refine va_get (D := D) (ci := 3) (v := .ref (a 3)) (C := RX4) (T := TX4) (N := 6) hx hb hts huX4 hown hK hP 0 rfl rfl 2 (by decide) (hts (.fieldLink RX4 16 "SnowSlabsModel" "isKept" "[Z") (by decide +kernel)) (fun _ h9 => h9) rfl dX4_count_85 ?_
              refine lv_iconst (v := 0) hx hb dX4_count_88 (by decide) ?_
              refine sn_zld (k := 0) (v := kp 0) 3 1 hx hb hK hP rfl rfl (by omega) (by decide) rfl (rfl) dX4_count_89 ?_
              refine lv_if_eq (tgt := 97) hx hb dX4_count_90 (by decide) (fun c_2 => ?_) (fun c_2 => ?_)
              · refine lv_iconst (v := 0) hx hb dX4_count_97 (by decide) ?_
                refine lv_aload_n hx hb dX4_count_98 rfl (lv_at hl 0 rfl) ?_
                refine va_get (D := D) (ci := 3) (v := .ref (a 3)) (C := RX4) (T := TX4) (N := 6) hx hb hts huX4 hown hK hP 0 rfl rfl 2 (by decide) (hts (.fieldLink RX4 16 "SnowSlabsModel" "isKept" "[Z") (by decide +kernel)) (fun _ h9 => h9) rfl dX4_count_99 ?_
                refine lv_iconst (v := 1) hx hb dX4_count_102 (by decide) ?_
                refine sn_zld (k := 1) (v := kp 1) 3 1 hx hb hK hP rfl rfl (by omega) (by decide) rfl (rfl) dX4_count_103 ?_
                refine lv_if_eq (tgt := 111) hx hb dX4_count_104 (by decide) (fun c_3 => ?_) (fun c_3 => ?_)
                · refine lv_iconst (v := 0) hx hb dX4_count_111 (by decide) ?_
                  refine lv_iadd hx hb dX4_count_112 ?_
                  refine sn_top (sn_nadd (a := 0) (b := 0) rfl rfl) ?_
                  exact sn_ret hx hb hr hlk dX4_count_113 (((if_neg c_1).trans (show sn_kps kp = _ from by unfold sn_kps; rw [if_pos c_2, if_pos c_3]; rfl)).symm)
                · refine lv_iconst (v := 2) hx hb dX4_count_107 (by decide) ?_
                  refine lv_goto (tgt := 112) hx hb dX4_count_108 (by decide) ?_
                  refine lv_iadd hx hb dX4_count_112 ?_
                  refine sn_top (sn_nadd (a := 0) (b := 2) rfl rfl) ?_
                  exact sn_ret hx hb hr hlk dX4_count_113 (((if_neg c_1).trans (show sn_kps kp = _ from by unfold sn_kps; rw [if_pos c_2, if_neg c_3]; rfl)).symm)
              · refine lv_iconst (v := 1) hx hb dX4_count_93 (by decide) ?_
                refine lv_goto (tgt := 98) hx hb dX4_count_94 (by decide) ?_
                refine lv_aload_n hx hb dX4_count_98 rfl (lv_at hl 0 rfl) ?_
                refine va_get (D := D) (ci := 3) (v := .ref (a 3)) (C := RX4) (T := TX4) (N := 6) hx hb hts huX4 hown hK hP 0 rfl rfl 2 (by decide) (hts (.fieldLink RX4 16 "SnowSlabsModel" "isKept" "[Z") (by decide +kernel)) (fun _ h9 => h9) rfl dX4_count_99 ?_
                refine lv_iconst (v := 1) hx hb dX4_count_102 (by decide) ?_
                refine sn_zld (k := 1) (v := kp 1) 3 1 hx hb hK hP rfl rfl (by omega) (by decide) rfl (rfl) dX4_count_103 ?_
                refine lv_if_eq (tgt := 111) hx hb dX4_count_104 (by decide) (fun c_4 => ?_) (fun c_4 => ?_)
                · refine lv_iconst (v := 0) hx hb dX4_count_111 (by decide) ?_
                  refine lv_iadd hx hb dX4_count_112 ?_
                  refine sn_top (sn_nadd (a := 1) (b := 0) rfl rfl) ?_
                  exact sn_ret hx hb hr hlk dX4_count_113 (((if_neg c_1).trans (show sn_kps kp = _ from by unfold sn_kps; rw [if_neg c_2, if_pos c_4]; rfl)).symm)
                · refine lv_iconst (v := 2) hx hb dX4_count_107 (by decide) ?_
                  refine lv_goto (tgt := 112) hx hb dX4_count_108 (by decide) ?_
                  refine lv_iadd hx hb dX4_count_112 ?_
                  refine sn_top (sn_nadd (a := 1) (b := 2) rfl rfl) ?_
                  exact sn_ret hx hb hr hlk dX4_count_113 (((if_neg c_1).trans (show sn_kps kp = _ from by unfold sn_kps; rw [if_neg c_2, if_neg c_4]; rfl)).symm)
            · refine lv_tableOut (tgt := 114) hx hb dX4_count_24 (by have e0 := lv_neT t_0 (a := 0) rfl; have e1 := lv_neT t_1 (a := 1) rfl; have e2 := lv_neT t_2 (a := 2) rfl; have e3 := lv_neT t_3 (a := 3) rfl; have e4 := lv_neT t_4 (a := 4) rfl; omega) (by decide) ?_
              refine lv_bipush (v := (-2)) hx hb dX4_count_114 (by decide) ?_
              exact sn_ret hx hb hr hlk dX4_count_116 (((if_neg c_1).trans ((if_neg t_0).trans ((if_neg t_1).trans ((if_neg t_2).trans ((if_neg t_3).trans (if_neg t_4)))))).symm)
  · have c_1 : 10 ≤ x ∧ x ≤ 14 := sn_b_nz.mp c_1
    obtain ⟨t, ht1, ht2, ht3⟩ := sn_rng (lo := 10) (hi := 14) c_1 (by decide)
    subst ht3
    refine lv_aload_n hx hb dX4_count_11 rfl (lv_at hl 0 rfl) ?_
    refine va_get (D := D) (ci := 3) (v := .ref (a 1)) (C := RX4) (T := TX4) (N := 6) hx hb hts huX4 hown hK hP 0 rfl rfl 0 (by decide) (hts (.fieldLink RX4 7 "SnowSlabsModel" "state" "[I") (by decide +kernel)) (fun _ h9 => h9) rfl dX4_count_12 ?_
    refine lv_iconst (v := 2) hx hb dX4_count_15 (by decide) ?_
    refine lv_iload_n hx hb dX4_count_16 rfl (lv_at hl 1 rfl) ?_
    refine lv_iadd hx hb dX4_count_17 ?_
    refine sn_top (sn_nadd (a := 2) (b := t) rfl rfl) ?_
    refine lv_bipush (v := 10) hx hb dX4_count_18 (by decide) ?_
    refine lv_isub hx hb dX4_count_20 ?_
    refine sn_top (y := nI (2 + (t - 10))) ((sn_nsub (a := 2 + t) (b := 10) rfl rfl (by omega)).trans (congrArg nI (by omega))) ?_
    refine sn_ild (k := 2 + (t - 10)) (v := f (2 + (t - 10))) 1 0 hx hb hK hP rfl rfl (by omega) (by decide) rfl (rfl) dX4_count_21 ?_
    exact sn_ret hx hb hr hlk dX4_count_22 (((if_pos c_1).trans (by rw [nI_clamp (by omega)])).symm)
end
section
set_option maxRecDepth 100000 in
set_option maxHeartbeats 4000000 in
theorem ct_X3_layer (l : Launch) (D : va_G) (cI cZ cR : ClassId) (o : Nat) (a bt : Nat → Nat) (im : Nat) (f : Nat → Int32) (n : Nat) (hI : sn_I f n) (x y : Int32) : sn_Rd l yX3_layer wsX3_layer 2 [.ref o, .int x, .int y] D (sn_ty cI cZ cR) (sn_wS cI cZ o a bt im f) (sn_Rlayer f n x y) := by
  refine sn_rd (cc := cX3_layer) (maxL := 3) (ret := (some .int)) (by decide) rfl (Nat.le_of_ble_eq_true rfl) ?_
  intro p e s m below meth c hx hb hml hr hlk hts hown hP hK hN ls hl
  have hC : CallFix p m c cX3_layer 3 s [.ref o, .int x, .int y].toArray wsX3_layer RX3 := ⟨hx, hb, hml, hown, hts⟩
  have hl : lv_has ls 3 [(0, .ref o), (1, .int x), (2, .int y)] := hl
  have huX0 : ∀ w ∈ wsX00, w ∈ wsX3_layer := by decide +kernel
  have huX3 : ∀ w ∈ wsX30, w ∈ wsX3_layer := by decide +kernel
  have hn10 := hI.2.1
  refine lv_aload_n hx hb dX3_layer_0 rfl (lv_at hl 0 rfl) ?_
  refine va_get (D := D) (ci := 2) (v := .ref (a 0)) (C := RX3) (T := TX3) (N := 3) hx hb hts huX3 hown hK hP 0 rfl rfl 0 (by decide) (hts (.fieldLink RX3 10 "SnowSlabs" "cover" "LSnowSlabs$Cover;") (by decide +kernel)) (fun _ h9 => h9) rfl dX3_layer_1 ?_
  refine lv_iload_n hx hb dX3_layer_4 rfl (lv_at hl 1 rfl) ?_
  refine sn_cV 1 0 hC hl (ct_X0_has l D cI cZ cR a f n (hI).1 x) gX3_layer_X0_has rfl (by decide +kernel) rfl ⟨Nat.le_of_ble_eq_true rfl, Nat.le_of_ble_eq_true rfl⟩ ⟨Nat.zero_le _, Nat.zero_le _⟩ (hP.sub (ws' := sn_wC cI cZ a f) [1, 2, 3, 4, 5, 6, 7] rfl) hK hN rfl rfl rfl (Nat.le_of_ble_eq_true rfl) dX3_layer_5 ?_
  refine lv_if_ne (tgt := 13) hx hb dX3_layer_8 (by decide) (fun c_1 => ?_) (fun c_1 => ?_)
  · have c_1 : 0 ≤ x ∧ x ≤ nI n - 1 := sn_b_nz.mp c_1
    obtain ⟨i, hi, hie⟩ := sn_isL hn10 c_1
    subst hie
    refine lv_iload_n hx hb dX3_layer_13 rfl (lv_at hl 2 rfl) ?_
    by_cases t_0 : y = 0
    · subst t_0
      refine lv_tableIn (tgt := 60) hx hb dX3_layer_14 (by decide) (by decide) (by decide +kernel : _ = some (46 : Int)) (by decide) ?_
      refine lv_aload_n hx hb dX3_layer_60 rfl (lv_at hl 0 rfl) ?_
      refine va_get (D := D) (ci := 2) (v := .ref (a 0)) (C := RX3) (T := TX3) (N := 3) hx hb hts huX3 hown hK hP 0 rfl rfl 0 (by decide) (hts (.fieldLink RX3 10 "SnowSlabs" "cover" "LSnowSlabs$Cover;") (by decide +kernel)) (fun _ h9 => h9) rfl dX3_layer_61 ?_
      refine va_get (D := D) (ci := 0) (v := .ref (a 1)) (C := RX0) (T := TX0) (N := 8) hx hb hts huX0 hown hK hP 1 rfl rfl 2 (by decide) (hts (.fieldLink RX3 47 "SnowSlabs$Cover" "thick" "[I") (by decide +kernel)) (fun _ h9 => h9) rfl dX3_layer_64 ?_
      refine lv_iload_n hx hb dX3_layer_67 rfl (lv_at hl 1 rfl) ?_
      refine sn_ild (k := i) (v := f (7 + 5 * i)) 2 0 hx hb hK hP rfl rfl (by omega) (by decide) rfl (rfl) dX3_layer_68 ?_
      exact sn_ret hx hb hr hlk dX3_layer_69 (((if_pos c_1).trans ((congrArg (fun z => sn_RlayerN f n z 0) (nI_clamp (by omega))).trans (rfl))).symm)
    · skip
      by_cases t_1 : y = 1
      · subst t_1
        refine lv_tableIn (tgt := 70) hx hb dX3_layer_14 (by decide) (by decide) (by decide +kernel : _ = some (56 : Int)) (by decide) ?_
        refine lv_aload_n hx hb dX3_layer_70 rfl (lv_at hl 0 rfl) ?_
        refine va_get (D := D) (ci := 2) (v := .ref (a 0)) (C := RX3) (T := TX3) (N := 3) hx hb hts huX3 hown hK hP 0 rfl rfl 0 (by decide) (hts (.fieldLink RX3 10 "SnowSlabs" "cover" "LSnowSlabs$Cover;") (by decide +kernel)) (fun _ h9 => h9) rfl dX3_layer_71 ?_
        refine va_get (D := D) (ci := 0) (v := .ref (a 2)) (C := RX0) (T := TX0) (N := 8) hx hb hts huX0 hown hK hP 1 rfl rfl 3 (by decide) (hts (.fieldLink RX3 50 "SnowSlabs$Cover" "dense" "[I") (by decide +kernel)) (fun _ h9 => h9) rfl dX3_layer_74 ?_
        refine lv_iload_n hx hb dX3_layer_77 rfl (lv_at hl 1 rfl) ?_
        refine sn_ild (k := i) (v := f (8 + 5 * i)) 3 0 hx hb hK hP rfl rfl (by omega) (by decide) rfl (rfl) dX3_layer_78 ?_
        exact sn_ret hx hb hr hlk dX3_layer_79 (((if_pos c_1).trans ((congrArg (fun z => sn_RlayerN f n z 1) (nI_clamp (by omega))).trans (rfl))).symm)
      · skip
        by_cases t_2 : y = 2
        · subst t_2
          refine lv_tableIn (tgt := 80) hx hb dX3_layer_14 (by decide) (by decide) (by decide +kernel : _ = some (66 : Int)) (by decide) ?_
          refine lv_aload_n hx hb dX3_layer_80 rfl (lv_at hl 0 rfl) ?_
          refine va_get (D := D) (ci := 2) (v := .ref (a 0)) (C := RX3) (T := TX3) (N := 3) hx hb hts huX3 hown hK hP 0 rfl rfl 0 (by decide) (hts (.fieldLink RX3 10 "SnowSlabs" "cover" "LSnowSlabs$Cover;") (by decide +kernel)) (fun _ h9 => h9) rfl dX3_layer_81 ?_
          refine va_get (D := D) (ci := 0) (v := .ref (a 3)) (C := RX0) (T := TX0) (N := 8) hx hb hts huX0 hown hK hP 1 rfl rfl 4 (by decide) (hts (.fieldLink RX3 53 "SnowSlabs$Cover" "grain" "[I") (by decide +kernel)) (fun _ h9 => h9) rfl dX3_layer_84 ?_
          refine lv_iload_n hx hb dX3_layer_87 rfl (lv_at hl 1 rfl) ?_
          refine sn_ild (k := i) (v := f (9 + 5 * i)) 4 0 hx hb hK hP rfl rfl (by omega) (by decide) rfl (rfl) dX3_layer_88 ?_
          exact sn_ret hx hb hr hlk dX3_layer_89 (((if_pos c_1).trans ((congrArg (fun z => sn_RlayerN f n z 2) (nI_clamp (by omega))).trans (rfl))).symm)
        · skip
          by_cases t_3 : y = 3
          · subst t_3
            refine lv_tableIn (tgt := 90) hx hb dX3_layer_14 (by decide) (by decide) (by decide +kernel : _ = some (76 : Int)) (by decide) ?_
            refine lv_aload_n hx hb dX3_layer_90 rfl (lv_at hl 0 rfl) ?_
            refine va_get (D := D) (ci := 2) (v := .ref (a 0)) (C := RX3) (T := TX3) (N := 3) hx hb hts huX3 hown hK hP 0 rfl rfl 0 (by decide) (hts (.fieldLink RX3 10 "SnowSlabs" "cover" "LSnowSlabs$Cover;") (by decide +kernel)) (fun _ h9 => h9) rfl dX3_layer_91 ?_
            refine va_get (D := D) (ci := 0) (v := .ref (a 4)) (C := RX0) (T := TX0) (N := 8) hx hb hts huX0 hown hK hP 1 rfl rfl 5 (by decide) (hts (.fieldLink RX3 56 "SnowSlabs$Cover" "hard" "[I") (by decide +kernel)) (fun _ h9 => h9) rfl dX3_layer_94 ?_
            refine lv_iload_n hx hb dX3_layer_97 rfl (lv_at hl 1 rfl) ?_
            refine sn_ild (k := i) (v := f (10 + 5 * i)) 5 0 hx hb hK hP rfl rfl (by omega) (by decide) rfl (rfl) dX3_layer_98 ?_
            exact sn_ret hx hb hr hlk dX3_layer_99 (((if_pos c_1).trans ((congrArg (fun z => sn_RlayerN f n z 3) (nI_clamp (by omega))).trans (rfl))).symm)
          · skip
            by_cases t_4 : y = 4
            · subst t_4
              refine lv_tableIn (tgt := 100) hx hb dX3_layer_14 (by decide) (by decide) (by decide +kernel : _ = some (86 : Int)) (by decide) ?_
              refine lv_aload_n hx hb dX3_layer_100 rfl (lv_at hl 0 rfl) ?_
              refine va_get (D := D) (ci := 2) (v := .ref (a 0)) (C := RX3) (T := TX3) (N := 3) hx hb hts huX3 hown hK hP 0 rfl rfl 0 (by decide) (hts (.fieldLink RX3 10 "SnowSlabs" "cover" "LSnowSlabs$Cover;") (by decide +kernel)) (fun _ h9 => h9) rfl dX3_layer_101 ?_
              refine va_get (D := D) (ci := 0) (v := .ref (a 5)) (C := RX0) (T := TX0) (N := 8) hx hb hts huX0 hown hK hP 1 rfl rfl 6 (by decide) (hts (.fieldLink RX3 59 "SnowSlabs$Cover" "wet" "[Z") (by decide +kernel)) (fun _ h9 => h9) rfl dX3_layer_104 ?_
              refine lv_iload_n hx hb dX3_layer_107 rfl (lv_at hl 1 rfl) ?_
              refine sn_zld (k := i) (v := f (11 + 5 * i)) 6 1 hx hb hK hP rfl rfl (by omega) (by decide) rfl (rfl) dX3_layer_108 ?_
              refine lv_if_eq (tgt := 116) hx hb dX3_layer_109 (by decide) (fun c_2 => ?_) (fun c_2 => ?_)
              · refine lv_iconst (v := 0) hx hb dX3_layer_116 (by decide) ?_
                exact sn_ret hx hb hr hlk dX3_layer_117 (((if_pos c_1).trans ((congrArg (fun z => sn_RlayerN f n z 4) (nI_clamp (by omega))).trans (show f (11 + 5 * i) = _ from c_2))).symm)
              · refine lv_iconst (v := 1) hx hb dX3_layer_112 (by decide) ?_
                refine lv_goto (tgt := 117) hx hb dX3_layer_113 (by decide) ?_
                exact sn_ret hx hb hr hlk dX3_layer_117 (((if_pos c_1).trans ((congrArg (fun z => sn_RlayerN f n z 4) (nI_clamp (by omega))).trans (show f (11 + 5 * i) = _ from (hI.2.2.2 i (by omega)).2.2.2.2.resolve_left c_2))).symm)
            · skip
              by_cases t_5 : y = 5
              · subst t_5
                refine lv_tableIn (tgt := 118) hx hb dX3_layer_14 (by decide) (by decide) (by decide +kernel : _ = some (104 : Int)) (by decide) ?_
                refine lv_aload_n hx hb dX3_layer_118 rfl (lv_at hl 0 rfl) ?_
                refine va_get (D := D) (ci := 2) (v := .ref (a 0)) (C := RX3) (T := TX3) (N := 3) hx hb hts huX3 hown hK hP 0 rfl rfl 0 (by decide) (hts (.fieldLink RX3 10 "SnowSlabs" "cover" "LSnowSlabs$Cover;") (by decide +kernel)) (fun _ h9 => h9) rfl dX3_layer_119 ?_
                refine lv_iload_n hx hb dX3_layer_122 rfl (lv_at hl 1 rfl) ?_
                refine sn_cV 1 0 hC hl (ct_X0_strength l D cI cZ cR a f n hI i (by have := hI.2.1; omega)) gX3_layer_X0_strength rfl (by decide +kernel) rfl ⟨Nat.le_of_ble_eq_true rfl, Nat.le_of_ble_eq_true rfl⟩ ⟨Nat.zero_le _, Nat.zero_le _⟩ (hP.sub (ws' := sn_wC cI cZ a f) [1, 2, 3, 4, 5, 6, 7] rfl) hK hN rfl rfl rfl (Nat.le_of_ble_eq_true rfl) dX3_layer_123 ?_
                exact sn_ret hx hb hr hlk dX3_layer_126 (((if_pos c_1).trans ((congrArg (fun z => sn_RlayerN f n z 5) (nI_clamp (by omega))).trans (rfl))).symm)
              · skip
                by_cases t_6 : y = 6
                · subst t_6
                  refine lv_tableIn (tgt := 127) hx hb dX3_layer_14 (by decide) (by decide) (by decide +kernel : _ = some (113 : Int)) (by decide) ?_
                  refine lv_aload_n hx hb dX3_layer_127 rfl (lv_at hl 0 rfl) ?_
                  refine va_get (D := D) (ci := 2) (v := .ref (a 0)) (C := RX3) (T := TX3) (N := 3) hx hb hts huX3 hown hK hP 0 rfl rfl 0 (by decide) (hts (.fieldLink RX3 10 "SnowSlabs" "cover" "LSnowSlabs$Cover;") (by decide +kernel)) (fun _ h9 => h9) rfl dX3_layer_128 ?_
                  refine lv_iload_n hx hb dX3_layer_131 rfl (lv_at hl 1 rfl) ?_
                  refine lv_aload_n hx hb dX3_layer_132 rfl (lv_at hl 0 rfl) ?_
                  refine va_get (D := D) (ci := 2) (v := .ref (a 0)) (C := RX3) (T := TX3) (N := 3) hx hb hts huX3 hown hK hP 0 rfl rfl 0 (by decide) (hts (.fieldLink RX3 10 "SnowSlabs" "cover" "LSnowSlabs$Cover;") (by decide +kernel)) (fun _ h9 => h9) rfl dX3_layer_133 ?_
                  refine va_get (D := D) (ci := 0) (v := .int (f 0)) (C := RX0) (T := TX0) (N := 8) hx hb hts huX0 hown hK hP 1 rfl rfl 0 (by decide) (hts (.fieldLink RX3 31 "SnowSlabs$Cover" "size" "I") (by decide +kernel)) (fun _ h9 => h9) rfl dX3_layer_136 ?_
                  refine sn_top (hI.1) ?_
                  refine sn_cV 2 0 hC hl (ct_X0_depth l D cI cZ cR a f (nI i) (i + 1) n (nI_1 _) (by omega) (by first | exact hI.2.1 | omega)) gX3_layer_X0_depth rfl (by decide +kernel) rfl ⟨Nat.le_of_ble_eq_true rfl, Nat.le_of_ble_eq_true rfl⟩ ⟨Nat.zero_le _, Nat.zero_le _⟩ (hP.sub (ws' := sn_wC cI cZ a f) [1, 2, 3, 4, 5, 6, 7] rfl) hK hN rfl rfl rfl (Nat.le_of_ble_eq_true rfl) dX3_layer_139 ?_
                  exact sn_ret hx hb hr hlk dX3_layer_142 (((if_pos c_1).trans ((congrArg (fun z => sn_RlayerN f n z 6) (nI_clamp (by omega))).trans (rfl))).symm)
                · skip
                  by_cases t_7 : y = 7
                  · subst t_7
                    refine lv_tableIn (tgt := 143) hx hb dX3_layer_14 (by decide) (by decide) (by decide +kernel : _ = some (129 : Int)) (by decide) ?_
                    refine lv_aload_n hx hb dX3_layer_143 rfl (lv_at hl 0 rfl) ?_
                    refine va_get (D := D) (ci := 2) (v := .ref (a 0)) (C := RX3) (T := TX3) (N := 3) hx hb hts huX3 hown hK hP 0 rfl rfl 0 (by decide) (hts (.fieldLink RX3 10 "SnowSlabs" "cover" "LSnowSlabs$Cover;") (by decide +kernel)) (fun _ h9 => h9) rfl dX3_layer_144 ?_
                    refine lv_iload_n hx hb dX3_layer_147 rfl (lv_at hl 1 rfl) ?_
                    refine lv_aload_n hx hb dX3_layer_148 rfl (lv_at hl 0 rfl) ?_
                    refine va_get (D := D) (ci := 2) (v := .ref (a 0)) (C := RX3) (T := TX3) (N := 3) hx hb hts huX3 hown hK hP 0 rfl rfl 0 (by decide) (hts (.fieldLink RX3 10 "SnowSlabs" "cover" "LSnowSlabs$Cover;") (by decide +kernel)) (fun _ h9 => h9) rfl dX3_layer_149 ?_
                    refine va_get (D := D) (ci := 0) (v := .int (f 0)) (C := RX0) (T := TX0) (N := 8) hx hb hts huX0 hown hK hP 1 rfl rfl 0 (by decide) (hts (.fieldLink RX3 31 "SnowSlabs$Cover" "size" "I") (by decide +kernel)) (fun _ h9 => h9) rfl dX3_layer_152 ?_
                    refine sn_top (hI.1) ?_
                    refine sn_cV 2 0 hC hl (ct_X0_load l D cI cZ cR a f i n (by omega) (by first | exact hI.2.1 | omega)) gX3_layer_X0_load rfl (by decide +kernel) rfl ⟨Nat.le_of_ble_eq_true rfl, Nat.le_of_ble_eq_true rfl⟩ ⟨Nat.zero_le _, Nat.zero_le _⟩ (hP.sub (ws' := sn_wC cI cZ a f) [1, 2, 3, 4, 5, 6, 7] rfl) hK hN rfl rfl rfl (Nat.le_of_ble_eq_true rfl) dX3_layer_155 ?_
                    exact sn_ret hx hb hr hlk dX3_layer_158 (((if_pos c_1).trans ((congrArg (fun z => sn_RlayerN f n z 7) (nI_clamp (by omega))).trans (rfl))).symm)
                  · refine lv_tableOut (tgt := 159) hx hb dX3_layer_14 (by have e0 := lv_neT t_0 (a := 0) rfl; have e1 := lv_neT t_1 (a := 1) rfl; have e2 := lv_neT t_2 (a := 2) rfl; have e3 := lv_neT t_3 (a := 3) rfl; have e4 := lv_neT t_4 (a := 4) rfl; have e5 := lv_neT t_5 (a := 5) rfl; have e6 := lv_neT t_6 (a := 6) rfl; have e7 := lv_neT t_7 (a := 7) rfl; omega) (by decide) ?_
                    refine lv_bipush (v := (-2)) hx hb dX3_layer_159 (by decide) ?_
                    exact sn_ret hx hb hr hlk dX3_layer_161 (((if_pos c_1).trans (show sn_RlayerN f n _ y = -2 from (((if_neg t_0).trans ((if_neg t_1).trans ((if_neg t_2).trans ((if_neg t_3).trans ((if_neg t_4).trans ((if_neg t_5).trans ((if_neg t_6).trans ((if_neg t_7).trans (rfl))))))))).symm).symm)).symm)
  · have c_1 : ¬ (0 ≤ x ∧ x ≤ nI n - 1) := sn_b_z.mp c_1
    refine lv_iconst (v := (-1)) hx hb dX3_layer_11 (by decide) ?_
    exact sn_ret hx hb hr hlk dX3_layer_12 ((if_neg c_1).symm)
set_option maxRecDepth 100000 in
set_option maxHeartbeats 4000000 in
theorem ct_X3_slope (l : Launch) (D : va_G) (cI cZ cR : ClassId) (o : Nat) (a bt : Nat → Nat) (im : Nat) (f : Nat → Int32) (n : Nat) (hI : sn_I f n) (x y z : Int32) : sn_Rd l yX3_slope wsX3_slope 4 [.ref o, .int x, .int y, .int z] D (sn_ty cI cZ cR) (sn_wS cI cZ o a bt im f) (sn_Rslope f n x y z) := by
  refine sn_rd (cc := cX3_slope) (maxL := 4) (ret := (some .int)) (by decide) rfl (Nat.le_of_ble_eq_true rfl) ?_
  intro p e s m below meth c hx hb hml hr hlk hts hown hP hK hN ls hl
  have hC : CallFix p m c cX3_slope 4 s [.ref o, .int x, .int y, .int z].toArray wsX3_slope RX3 := ⟨hx, hb, hml, hown, hts⟩
  have hl : lv_has ls 4 [(0, .ref o), (1, .int x), (2, .int y), (3, .int z)] := hl
  have huX3 : ∀ w ∈ wsX30, w ∈ wsX3_slope := by decide +kernel
  have hn10 := hI.2.1
  refine lv_aload_n hx hb dX3_slope_0 rfl (lv_at hl 0 rfl) ?_
  refine va_get (D := D) (ci := 2) (v := .ref (a 0)) (C := RX3) (T := TX3) (N := 3) hx hb hts huX3 hown hK hP 0 rfl rfl 0 (by decide) (hts (.fieldLink RX3 10 "SnowSlabs" "cover" "LSnowSlabs$Cover;") (by decide +kernel)) (fun _ h9 => h9) rfl dX3_slope_1 ?_
  refine lv_iload_n hx hb dX3_slope_4 rfl (lv_at hl 1 rfl) ?_
  refine sn_cV 1 0 hC hl (ct_X0_has l D cI cZ cR a f n (hI).1 x) gX3_slope_X0_has rfl (by decide +kernel) rfl ⟨Nat.le_of_ble_eq_true rfl, Nat.le_of_ble_eq_true rfl⟩ ⟨Nat.zero_le _, Nat.zero_le _⟩ (hP.sub (ws' := sn_wC cI cZ a f) [1, 2, 3, 4, 5, 6, 7] rfl) hK hN rfl rfl rfl (Nat.le_of_ble_eq_true rfl) dX3_slope_5 ?_
  refine lv_if_ne (tgt := 13) hx hb dX3_slope_8 (by decide) (fun c_1 => ?_) (fun c_1 => ?_)
  · have c_1 : 0 ≤ x ∧ x ≤ nI n - 1 := sn_b_nz.mp c_1
    obtain ⟨i, hi, hie⟩ := sn_isL hn10 c_1
    subst hie
    refine lv_iload_n hx hb dX3_slope_13 rfl (lv_at hl 2 rfl) ?_
    refine lv_iconst (v := 0) hx hb dX3_slope_14 (by decide) ?_
    refine lv_bipush (v := 100) hx hb dX3_slope_15 (by decide) ?_
    refine sn_cS 3 hC hl (ct_X3_within l D _ [] y 0 100) gX3_slope_X3_within rfl (by decide +kernel) rfl ⟨Nat.le_of_ble_eq_true rfl, Nat.le_of_ble_eq_true rfl⟩ ⟨Nat.zero_le _, Nat.zero_le _⟩ (fun _ _ h => by simp at h) hK hN rfl (Nat.le_of_ble_eq_true rfl) dX3_slope_17 ?_
    refine lv_if_eq (tgt := 32) hx hb dX3_slope_20 (by decide) (fun c_2 => ?_) (fun c_2 => ?_)
    · have c_2 : ¬ (0 ≤ y ∧ y ≤ 100) := sn_b_z.mp c_2
      refine lv_bipush (v := (-2)) hx hb dX3_slope_32 (by decide) ?_
      exact sn_ret hx hb hr hlk dX3_slope_34 (((if_pos c_1).trans (if_neg (fun h => c_2 h.1))).symm)
    · have c_2 : 0 ≤ y ∧ y ≤ 100 := sn_b_nz.mp c_2
      refine lv_iload_n hx hb dX3_slope_23 rfl (lv_at hl 3 rfl) ?_
      refine lv_iconst (v := 0) hx hb dX3_slope_24 (by decide) ?_
      refine lv_iconst (v := 1) hx hb dX3_slope_25 (by decide) ?_
      refine sn_cS 3 hC hl (ct_X3_within l D _ [] z 0 1) gX3_slope_X3_within rfl (by decide +kernel) rfl ⟨Nat.le_of_ble_eq_true rfl, Nat.le_of_ble_eq_true rfl⟩ ⟨Nat.zero_le _, Nat.zero_le _⟩ (fun _ _ h => by simp at h) hK hN rfl (Nat.le_of_ble_eq_true rfl) dX3_slope_26 ?_
      refine lv_if_ne (tgt := 35) hx hb dX3_slope_29 (by decide) (fun c_3 => ?_) (fun c_3 => ?_)
      · have c_3 : 0 ≤ z ∧ z ≤ 1 := sn_b_nz.mp c_3
        refine lv_iload_n hx hb dX3_slope_35 rfl (lv_at hl 3 rfl) ?_
        refine lv_if_ne (tgt := 51) hx hb dX3_slope_36 (by decide) (fun c_4 => ?_) (fun c_4 => ?_)
        · refine lv_aload_n hx hb dX3_slope_51 rfl (lv_at hl 0 rfl) ?_
          refine va_get (D := D) (ci := 2) (v := .ref (a 0)) (C := RX3) (T := TX3) (N := 3) hx hb hts huX3 hown hK hP 0 rfl rfl 0 (by decide) (hts (.fieldLink RX3 10 "SnowSlabs" "cover" "LSnowSlabs$Cover;") (by decide +kernel)) (fun _ h9 => h9) rfl dX3_slope_52 ?_
          refine lv_iload_n hx hb dX3_slope_55 rfl (lv_at hl 1 rfl) ?_
          refine lv_iload_n hx hb dX3_slope_56 rfl (lv_at hl 2 rfl) ?_
          refine sn_cV 2 0 hC hl (ct_X0_margin l D cI cZ cR a f n hI i (by omega) y) gX3_slope_X0_margin rfl (by decide +kernel) rfl ⟨Nat.le_of_ble_eq_true rfl, Nat.le_of_ble_eq_true rfl⟩ ⟨Nat.zero_le _, Nat.zero_le _⟩ (hP.sub (ws' := sn_wC cI cZ a f) [1, 2, 3, 4, 5, 6, 7] rfl) hK hN rfl rfl rfl (Nat.le_of_ble_eq_true rfl) dX3_slope_57 ?_
          exact sn_ret hx hb hr hlk dX3_slope_60 (((if_pos c_1).trans ((if_pos (⟨c_2, c_3⟩)).trans ((if_neg c_4).trans (by rw [nI_clamp (by omega)])))).symm)
        · refine lv_aload_n hx hb dX3_slope_39 rfl (lv_at hl 0 rfl) ?_
          refine va_get (D := D) (ci := 2) (v := .ref (a 0)) (C := RX3) (T := TX3) (N := 3) hx hb hts huX3 hown hK hP 0 rfl rfl 0 (by decide) (hts (.fieldLink RX3 10 "SnowSlabs" "cover" "LSnowSlabs$Cover;") (by decide +kernel)) (fun _ h9 => h9) rfl dX3_slope_40 ?_
          refine lv_iload_n hx hb dX3_slope_43 rfl (lv_at hl 1 rfl) ?_
          refine lv_iload_n hx hb dX3_slope_44 rfl (lv_at hl 2 rfl) ?_
          refine sn_cV 2 0 hC hl (ct_X0_shear l D cI cZ cR a f n hI i (by omega) y) gX3_slope_X0_shear rfl (by decide +kernel) rfl ⟨Nat.le_of_ble_eq_true rfl, Nat.le_of_ble_eq_true rfl⟩ ⟨Nat.zero_le _, Nat.zero_le _⟩ (hP.sub (ws' := sn_wC cI cZ a f) [1, 2, 3, 4, 5, 6, 7] rfl) hK hN rfl rfl rfl (Nat.le_of_ble_eq_true rfl) dX3_slope_45 ?_
          refine lv_goto (tgt := 60) hx hb dX3_slope_48 (by decide) ?_
          exact sn_ret hx hb hr hlk dX3_slope_60 (((if_pos c_1).trans ((if_pos (⟨c_2, c_3⟩)).trans ((if_pos c_4).trans (by rw [nI_clamp (by omega)])))).symm)
      · have c_3 : ¬ (0 ≤ z ∧ z ≤ 1) := sn_b_z.mp c_3
        refine lv_bipush (v := (-2)) hx hb dX3_slope_32 (by decide) ?_
        exact sn_ret hx hb hr hlk dX3_slope_34 (((if_pos c_1).trans (if_neg (fun h => c_3 h.2))).symm)
  · have c_1 : ¬ (0 ≤ x ∧ x ≤ nI n - 1) := sn_b_z.mp c_1
    refine lv_iconst (v := (-1)) hx hb dX3_slope_11 (by decide) ?_
    exact sn_ret hx hb hr hlk dX3_slope_12 ((if_neg c_1).symm)
set_option maxRecDepth 100000 in
set_option maxHeartbeats 4000000 in
theorem ct_X3_weakest (l : Launch) (D : va_G) (cI cZ cR : ClassId) (o : Nat) (a bt : Nat → Nat) (im : Nat) (f : Nat → Int32) (n : Nat) (hI : sn_I f n) (x y : Int32) : sn_Rd l yX3_weakest wsX3_weakest 5 [.ref o, .int x, .int y] D (sn_ty cI cZ cR) (sn_wS cI cZ o a bt im f) (sn_Rweak f n x y) := by
  refine sn_rd (cc := cX3_weakest) (maxL := 4) (ret := (some .int)) (by decide) rfl (Nat.le_of_ble_eq_true rfl) ?_
  intro p e s m below meth c hx hb hml hr hlk hts hown hP hK hN ls hl
  have hC : CallFix p m c cX3_weakest 4 s [.ref o, .int x, .int y].toArray wsX3_weakest RX3 := ⟨hx, hb, hml, hown, hts⟩
  have hl : lv_has ls 4 [(0, .ref o), (1, .int x), (2, .int y)] := hl
  have huX3 : ∀ w ∈ wsX30, w ∈ wsX3_weakest := by decide +kernel
  have hn10 := hI.2.1
  have hwl : sn_wk f n x ≤ n - 1 := sn_wkA_le f n x (n - 1)
  refine lv_iload_n hx hb dX3_weakest_0 rfl (lv_at hl 1 rfl) ?_
  refine lv_iconst (v := 0) hx hb dX3_weakest_1 (by decide) ?_
  refine lv_bipush (v := 100) hx hb dX3_weakest_2 (by decide) ?_
  refine sn_cS 3 hC hl (ct_X3_within l D _ [] x 0 100) gX3_weakest_X3_within rfl (by decide +kernel) rfl ⟨Nat.le_of_ble_eq_true rfl, Nat.le_of_ble_eq_true rfl⟩ ⟨Nat.zero_le _, Nat.zero_le _⟩ (fun _ _ h => by simp at h) hK hN rfl (Nat.le_of_ble_eq_true rfl) dX3_weakest_4 ?_
  refine lv_if_eq (tgt := 19) hx hb dX3_weakest_7 (by decide) (fun c_1 => ?_) (fun c_1 => ?_)
  · have c_1 : ¬ (0 ≤ x ∧ x ≤ 100) := sn_b_z.mp c_1
    refine lv_bipush (v := (-2)) hx hb dX3_weakest_19 (by decide) ?_
    exact sn_ret hx hb hr hlk dX3_weakest_21 ((if_neg (fun h => c_1 h.1)).symm)
  · have c_1 : 0 ≤ x ∧ x ≤ 100 := sn_b_nz.mp c_1
    refine lv_iload_n hx hb dX3_weakest_10 rfl (lv_at hl 2 rfl) ?_
    refine lv_iconst (v := 0) hx hb dX3_weakest_11 (by decide) ?_
    refine lv_iconst (v := 1) hx hb dX3_weakest_12 (by decide) ?_
    refine sn_cS 3 hC hl (ct_X3_within l D _ [] y 0 1) gX3_weakest_X3_within rfl (by decide +kernel) rfl ⟨Nat.le_of_ble_eq_true rfl, Nat.le_of_ble_eq_true rfl⟩ ⟨Nat.zero_le _, Nat.zero_le _⟩ (fun _ _ h => by simp at h) hK hN rfl (Nat.le_of_ble_eq_true rfl) dX3_weakest_13 ?_
    refine lv_if_ne (tgt := 22) hx hb dX3_weakest_16 (by decide) (fun c_2 => ?_) (fun c_2 => ?_)
    · have c_2 : 0 ≤ y ∧ y ≤ 1 := sn_b_nz.mp c_2
      refine lv_aload_n hx hb dX3_weakest_22 rfl (lv_at hl 0 rfl) ?_
      refine va_get (D := D) (ci := 2) (v := .ref (a 0)) (C := RX3) (T := TX3) (N := 3) hx hb hts huX3 hown hK hP 0 rfl rfl 0 (by decide) (hts (.fieldLink RX3 10 "SnowSlabs" "cover" "LSnowSlabs$Cover;") (by decide +kernel)) (fun _ h9 => h9) rfl dX3_weakest_23 ?_
      refine lv_iload_n hx hb dX3_weakest_26 rfl (lv_at hl 1 rfl) ?_
      refine sn_cV 1 0 hC hl (ct_X0_leastMargin l D cI cZ cR a f n hI x) gX3_weakest_X0_leastMargin rfl (by decide +kernel) rfl ⟨Nat.le_of_ble_eq_true rfl, Nat.le_of_ble_eq_true rfl⟩ ⟨Nat.zero_le _, Nat.zero_le _⟩ (hP.sub (ws' := sn_wC cI cZ a f) [1, 2, 3, 4, 5, 6, 7] rfl) hK hN rfl rfl rfl (Nat.le_of_ble_eq_true rfl) dX3_weakest_27 ?_
      refine lv_istore_n (lv' := [(3, .int (sn_en (sn_wk f n x))), (0, .ref o), (1, .int x), (2, .int y)]) hx hb dX3_weakest_30 rfl hl (by decide) rfl (fun ls hl => ?_)
      refine lv_iload_n hx hb dX3_weakest_31 rfl (lv_at hl 0 rfl) ?_
      refine lv_bipush (v := (-6)) hx hb dX3_weakest_32 (by decide) ?_
      refine lv_icmp_ne (tgt := 40) hx hb dX3_weakest_34 (by decide) (fun c_3 => ?_) (fun c_3 => ?_)
      · have c_3 : ¬ sn_wk f n x = 0 := fun z => c_3 ((sn_en_none (by omega)).mpr z)
        refine lv_iload_n hx hb dX3_weakest_40 rfl (lv_at hl 3 rfl) ?_
        refine lv_if_ne (tgt := 48) hx hb dX3_weakest_41 (by decide) (fun c_4 => ?_) (fun c_4 => ?_)
        · refine lv_aload_n hx hb dX3_weakest_48 rfl (lv_at hl 1 rfl) ?_
          refine va_get (D := D) (ci := 2) (v := .ref (a 0)) (C := RX3) (T := TX3) (N := 3) hx hb hts huX3 hown hK hP 0 rfl rfl 0 (by decide) (hts (.fieldLink RX3 10 "SnowSlabs" "cover" "LSnowSlabs$Cover;") (by decide +kernel)) (fun _ h9 => h9) rfl dX3_weakest_49 ?_
          refine lv_iload_n hx hb dX3_weakest_52 rfl (lv_at hl 0 rfl) ?_
          refine sn_top (y := nI (sn_wk f n x - 1)) (sn_en_pos c_3) ?_
          refine lv_iload_n hx hb dX3_weakest_53 rfl (lv_at hl 2 rfl) ?_
          refine sn_cV 2 0 hC hl (ct_X0_margin l D cI cZ cR a f n hI (sn_wk f n x - 1) (by omega) x) gX3_weakest_X0_margin rfl (by decide +kernel) rfl ⟨Nat.le_of_ble_eq_true rfl, Nat.le_of_ble_eq_true rfl⟩ ⟨Nat.zero_le _, Nat.zero_le _⟩ (hP.sub (ws' := sn_wC cI cZ a f) [1, 2, 3, 4, 5, 6, 7] rfl) hK hN rfl rfl rfl (Nat.le_of_ble_eq_true rfl) dX3_weakest_54 ?_
          exact sn_ret hx hb hr hlk dX3_weakest_57 (((if_pos (⟨c_1, c_2⟩)).trans ((if_neg c_3).trans (if_neg c_4))).symm)
        · refine lv_iload_n hx hb dX3_weakest_44 rfl (lv_at hl 0 rfl) ?_
          refine lv_goto (tgt := 57) hx hb dX3_weakest_45 (by decide) ?_
          exact sn_ret hx hb hr hlk dX3_weakest_57 (((if_pos (⟨c_1, c_2⟩)).trans ((if_neg c_3).trans ((if_pos c_4).trans ((sn_en_pos c_3).symm)))).symm)
      · have c_3 := (sn_en_none (by omega)).mp c_3
        refine lv_bipush (v := (-6)) hx hb dX3_weakest_37 (by decide) ?_
        exact sn_ret hx hb hr hlk dX3_weakest_39 (((if_pos (⟨c_1, c_2⟩)).trans (if_pos c_3)).symm)
    · have c_2 : ¬ (0 ≤ y ∧ y ≤ 1) := sn_b_z.mp c_2
      refine lv_bipush (v := (-2)) hx hb dX3_weakest_19 (by decide) ?_
      exact sn_ret hx hb hr hlk dX3_weakest_21 ((if_neg (fun h => c_2 h.2)).symm)
set_option maxRecDepth 100000 in
set_option maxHeartbeats 4000000 in
theorem ct_X3_goes (l : Launch) (D : va_G) (cI cZ cR : ClassId) (o : Nat) (a bt : Nat → Nat) (im : Nat) (f : Nat → Int32) (n : Nat) (hI : sn_I f n) (x y z : Int32) : sn_Rd l yX3_goes wsX3_goes 4 [.ref o, .int x, .int y, .int z] D (sn_ty cI cZ cR) (sn_wS cI cZ o a bt im f) (sn_Rgoes f n x y z) := by
  refine sn_rd (cc := cX3_goes) (maxL := 4) (ret := (some .int)) (by decide) rfl (Nat.le_of_ble_eq_true rfl) ?_
  intro p e s m below meth c hx hb hml hr hlk hts hown hP hK hN ls hl
  have hC : CallFix p m c cX3_goes 4 s [.ref o, .int x, .int y, .int z].toArray wsX3_goes RX3 := ⟨hx, hb, hml, hown, hts⟩
  have hl : lv_has ls 4 [(0, .ref o), (1, .int x), (2, .int y), (3, .int z)] := hl
  have huX0 : ∀ w ∈ wsX00, w ∈ wsX3_goes := by decide +kernel
  have huX3 : ∀ w ∈ wsX30, w ∈ wsX3_goes := by decide +kernel
  have hn10 := hI.2.1
  refine lv_aload_n hx hb dX3_goes_0 rfl (lv_at hl 0 rfl) ?_
  refine va_get (D := D) (ci := 2) (v := .ref (a 0)) (C := RX3) (T := TX3) (N := 3) hx hb hts huX3 hown hK hP 0 rfl rfl 0 (by decide) (hts (.fieldLink RX3 10 "SnowSlabs" "cover" "LSnowSlabs$Cover;") (by decide +kernel)) (fun _ h9 => h9) rfl dX3_goes_1 ?_
  refine lv_iload_n hx hb dX3_goes_4 rfl (lv_at hl 1 rfl) ?_
  refine sn_cV 1 0 hC hl (ct_X0_has l D cI cZ cR a f n (hI).1 x) gX3_goes_X0_has rfl (by decide +kernel) rfl ⟨Nat.le_of_ble_eq_true rfl, Nat.le_of_ble_eq_true rfl⟩ ⟨Nat.zero_le _, Nat.zero_le _⟩ (hP.sub (ws' := sn_wC cI cZ a f) [1, 2, 3, 4, 5, 6, 7] rfl) hK hN rfl rfl rfl (Nat.le_of_ble_eq_true rfl) dX3_goes_5 ?_
  refine lv_if_ne (tgt := 13) hx hb dX3_goes_8 (by decide) (fun c_1 => ?_) (fun c_1 => ?_)
  · have c_1 : 0 ≤ x ∧ x ≤ nI n - 1 := sn_b_nz.mp c_1
    obtain ⟨i, hi, hie⟩ := sn_isL hn10 c_1
    subst hie
    refine lv_iload_n hx hb dX3_goes_13 rfl (lv_at hl 2 rfl) ?_
    refine lv_iconst (v := 0) hx hb dX3_goes_14 (by decide) ?_
    refine lv_bipush (v := 100) hx hb dX3_goes_15 (by decide) ?_
    refine sn_cS 3 hC hl (ct_X3_within l D _ [] y 0 100) gX3_goes_X3_within rfl (by decide +kernel) rfl ⟨Nat.le_of_ble_eq_true rfl, Nat.le_of_ble_eq_true rfl⟩ ⟨Nat.zero_le _, Nat.zero_le _⟩ (fun _ _ h => by simp at h) hK hN rfl (Nat.le_of_ble_eq_true rfl) dX3_goes_17 ?_
    refine lv_if_eq (tgt := 33) hx hb dX3_goes_20 (by decide) (fun c_2 => ?_) (fun c_2 => ?_)
    · have c_2 : ¬ (0 ≤ y ∧ y ≤ 100) := sn_b_z.mp c_2
      refine lv_bipush (v := (-2)) hx hb dX3_goes_33 (by decide) ?_
      exact sn_ret hx hb hr hlk dX3_goes_35 (((if_pos c_1).trans (if_neg (fun h => c_2 h.1))).symm)
    · have c_2 : 0 ≤ y ∧ y ≤ 100 := sn_b_nz.mp c_2
      refine lv_iload_n hx hb dX3_goes_23 rfl (lv_at hl 3 rfl) ?_
      refine lv_iconst (v := 0) hx hb dX3_goes_24 (by decide) ?_
      refine lv_bipush (v := 99) hx hb dX3_goes_25 (by decide) ?_
      refine sn_cS 3 hC hl (ct_X3_within l D _ [] z 0 99) gX3_goes_X3_within rfl (by decide +kernel) rfl ⟨Nat.le_of_ble_eq_true rfl, Nat.le_of_ble_eq_true rfl⟩ ⟨Nat.zero_le _, Nat.zero_le _⟩ (fun _ _ h => by simp at h) hK hN rfl (Nat.le_of_ble_eq_true rfl) dX3_goes_27 ?_
      refine lv_if_ne (tgt := 36) hx hb dX3_goes_30 (by decide) (fun c_3 => ?_) (fun c_3 => ?_)
      · have c_3 : 0 ≤ z ∧ z ≤ 99 := sn_b_nz.mp c_3
        refine lv_iload_n hx hb dX3_goes_36 rfl (lv_at hl 1 rfl) ?_
        refine lv_aload_n hx hb dX3_goes_37 rfl (lv_at hl 0 rfl) ?_
        refine va_get (D := D) (ci := 2) (v := .ref (a 0)) (C := RX3) (T := TX3) (N := 3) hx hb hts huX3 hown hK hP 0 rfl rfl 0 (by decide) (hts (.fieldLink RX3 10 "SnowSlabs" "cover" "LSnowSlabs$Cover;") (by decide +kernel)) (fun _ h9 => h9) rfl dX3_goes_38 ?_
        refine va_get (D := D) (ci := 0) (v := .int (f 0)) (C := RX0) (T := TX0) (N := 8) hx hb hts huX0 hown hK hP 1 rfl rfl 0 (by decide) (hts (.fieldLink RX3 31 "SnowSlabs$Cover" "size" "I") (by decide +kernel)) (fun _ h9 => h9) rfl dX3_goes_41 ?_
        refine sn_top (hI.1) ?_
        refine lv_iconst (v := 1) hx hb dX3_goes_44 (by decide) ?_
        refine lv_isub hx hb dX3_goes_45 ?_
        refine lv_icmp_ne (tgt := 52) hx hb dX3_goes_46 (by decide) (fun c_4 => ?_) (fun c_4 => ?_)
        · refine lv_aload_n hx hb dX3_goes_52 rfl (lv_at hl 0 rfl) ?_
          refine va_get (D := D) (ci := 2) (v := .ref (a 0)) (C := RX3) (T := TX3) (N := 3) hx hb hts huX3 hown hK hP 0 rfl rfl 0 (by decide) (hts (.fieldLink RX3 10 "SnowSlabs" "cover" "LSnowSlabs$Cover;") (by decide +kernel)) (fun _ h9 => h9) rfl dX3_goes_53 ?_
          refine lv_iload_n hx hb dX3_goes_56 rfl (lv_at hl 1 rfl) ?_
          refine lv_iload_n hx hb dX3_goes_57 rfl (lv_at hl 2 rfl) ?_
          refine lv_iload_n hx hb dX3_goes_58 rfl (lv_at hl 3 rfl) ?_
          refine sn_cV 3 0 hC hl (ct_X0_slabGoes l D cI cZ cR a f n hI i (by omega) y z) gX3_goes_X0_slabGoes rfl (by decide +kernel) rfl ⟨Nat.le_of_ble_eq_true rfl, Nat.le_of_ble_eq_true rfl⟩ ⟨Nat.zero_le _, Nat.zero_le _⟩ (hP.sub (ws' := sn_wC cI cZ a f) [1, 2, 3, 4, 5, 6, 7] rfl) hK hN rfl rfl rfl (Nat.le_of_ble_eq_true rfl) dX3_goes_59 ?_
          refine lv_if_eq (tgt := 69) hx hb dX3_goes_62 (by decide) (fun c_5 => ?_) (fun c_5 => ?_)
          · have c_5 : ¬ (sn_Go f n y z i) := sn_b_z.mp c_5
            refine lv_iconst (v := 0) hx hb dX3_goes_69 (by decide) ?_
            exact sn_ret hx hb hr hlk dX3_goes_70 (((if_pos c_1).trans ((if_pos (⟨c_2, c_3⟩)).trans ((if_neg c_4).trans (by rw [nI_clamp (by omega)]; exact (sn_b_f c_5).symm)))).symm)
          · have c_5 : sn_Go f n y z i := sn_b_nz.mp c_5
            refine lv_iconst (v := 1) hx hb dX3_goes_65 (by decide) ?_
            refine lv_goto (tgt := 70) hx hb dX3_goes_66 (by decide) ?_
            exact sn_ret hx hb hr hlk dX3_goes_70 (((if_pos c_1).trans ((if_pos (⟨c_2, c_3⟩)).trans ((if_neg c_4).trans (by rw [nI_clamp (by omega)]; exact (sn_b_t c_5).symm)))).symm)
        · refine lv_bipush (v := (-3)) hx hb dX3_goes_49 (by decide) ?_
          exact sn_ret hx hb hr hlk dX3_goes_51 (((if_pos c_1).trans ((if_pos (⟨c_2, c_3⟩)).trans (if_pos c_4))).symm)
      · have c_3 : ¬ (0 ≤ z ∧ z ≤ 99) := sn_b_z.mp c_3
        refine lv_bipush (v := (-2)) hx hb dX3_goes_33 (by decide) ?_
        exact sn_ret hx hb hr hlk dX3_goes_35 (((if_pos c_1).trans (if_neg (fun h => c_3 h.2))).symm)
  · have c_1 : ¬ (0 ≤ x ∧ x ≤ nI n - 1) := sn_b_z.mp c_1
    refine lv_iconst (v := (-1)) hx hb dX3_goes_11 (by decide) ?_
    exact sn_ret hx hb hr hlk dX3_goes_12 ((if_neg c_1).symm)
set_option maxRecDepth 100000 in
set_option maxHeartbeats 4000000 in
theorem ct_X3_steep (l : Launch) (D : va_G) (cI cZ cR : ClassId) (o : Nat) (a bt : Nat → Nat) (im : Nat) (f : Nat → Int32) (n : Nat) (hI : sn_I f n) (x y : Int32) : sn_Rd l yX3_steep wsX3_steep 5 [.ref o, .int x, .int y] D (sn_ty cI cZ cR) (sn_wS cI cZ o a bt im f) (sn_Rsteep f n x y) := by
  refine sn_rd (cc := cX3_steep) (maxL := 5) (ret := (some .int)) (by decide) rfl (Nat.le_of_ble_eq_true rfl) ?_
  intro p e s m below meth c hx hb hml hr hlk hts hown hP hK hN ls hl
  have hC : CallFix p m c cX3_steep 5 s [.ref o, .int x, .int y].toArray wsX3_steep RX3 := ⟨hx, hb, hml, hown, hts⟩
  have hl : lv_has ls 5 [(0, .ref o), (1, .int x), (2, .int y)] := hl
  have huX3 : ∀ w ∈ wsX30, w ∈ wsX3_steep := by decide +kernel
  have hn10 := hI.2.1
  refine lv_iload_n hx hb dX3_steep_0 rfl (lv_at hl 1 rfl) ?_
  refine lv_iconst (v := 0) hx hb dX3_steep_1 (by decide) ?_
  refine lv_bipush (v := 99) hx hb dX3_steep_2 (by decide) ?_
  refine sn_cS 3 hC hl (ct_X3_within l D _ [] x 0 99) gX3_steep_X3_within rfl (by decide +kernel) rfl ⟨Nat.le_of_ble_eq_true rfl, Nat.le_of_ble_eq_true rfl⟩ ⟨Nat.zero_le _, Nat.zero_le _⟩ (fun _ _ h => by simp at h) hK hN rfl (Nat.le_of_ble_eq_true rfl) dX3_steep_4 ?_
  refine lv_if_eq (tgt := 19) hx hb dX3_steep_7 (by decide) (fun c_1 => ?_) (fun c_1 => ?_)
  · have c_1 : ¬ (0 ≤ x ∧ x ≤ 99) := sn_b_z.mp c_1
    refine lv_bipush (v := (-2)) hx hb dX3_steep_19 (by decide) ?_
    exact sn_ret hx hb hr hlk dX3_steep_21 ((if_neg (fun h => c_1 h.1)).symm)
  · have c_1 : 0 ≤ x ∧ x ≤ 99 := sn_b_nz.mp c_1
    refine lv_iload_n hx hb dX3_steep_10 rfl (lv_at hl 2 rfl) ?_
    refine lv_iconst (v := 0) hx hb dX3_steep_11 (by decide) ?_
    refine lv_iconst (v := 1) hx hb dX3_steep_12 (by decide) ?_
    refine sn_cS 3 hC hl (ct_X3_within l D _ [] y 0 1) gX3_steep_X3_within rfl (by decide +kernel) rfl ⟨Nat.le_of_ble_eq_true rfl, Nat.le_of_ble_eq_true rfl⟩ ⟨Nat.zero_le _, Nat.zero_le _⟩ (fun _ _ h => by simp at h) hK hN rfl (Nat.le_of_ble_eq_true rfl) dX3_steep_13 ?_
    refine lv_if_ne (tgt := 22) hx hb dX3_steep_16 (by decide) (fun c_2 => ?_) (fun c_2 => ?_)
    · have c_2 : 0 ≤ y ∧ y ≤ 1 := sn_b_nz.mp c_2
      refine lv_iconst (v := 0) hx hb dX3_steep_22 (by decide) ?_
      refine lv_istore_n (lv' := [(3, .int 0), (0, .ref o), (1, .int x), (2, .int y)]) hx hb dX3_steep_23 rfl hl (by decide) rfl (fun ls hl => ?_)
      have loopO : ∀ (fu : Nat) (k : Nat), (k ≤ 101) → (sn_stp f n x y (101 - k) k = sn_stp f n x y 101 0) → 101 - k < fu → ∀ ls : Array Slot, lv_has ls 5 [(0, .ref o), (1, .int x), (2, .int y), (3, .int (nI k))] → W p l e (sn_rm 5 0 0) s m [.ref o, .int x, .int y].toArray below meth c s.heap [] 0 0 (MQ below (vp_Si (fun r_ => r_ = (sn_Rsteep f n x y))) [.ref o, .int x, .int y].toArray s 0 0 (fun _ => False)) (F0 m 24 ls []) := by
        intro fu
        induction fu with
        | zero => intro k h1 hq hm; exact absurd hm (Nat.not_lt_zero _)
        | succ fu ih_loopO =>
          intro k h1 hq hm ls hl
          refine lv_iload_n hx hb dX3_steep_24 rfl (lv_at hl 3 rfl) ?_
          refine lv_bipush (v := 100) hx hb dX3_steep_25 (by decide) ?_
          refine lv_icmp_gt (tgt := 65) hx hb dX3_steep_27 (by decide) (fun c_3 => ?_) (fun c_3 => ?_)
          · have c_3 := (sn_cgtj (a := k) (b := 100) rfl rfl (by omega) (by omega)).mp c_3
            refine lv_bipush (v := (-6)) hx hb dX3_steep_65 (by decide) ?_
            exact sn_ret hx hb hr hlk dX3_steep_67 (((if_pos (⟨c_1, c_2⟩)).trans (hq.symm.trans (by rw [show k = 101 by omega]; rfl))).symm)
          · have c_3 := (sn_cgtf (a := k) (b := 100) rfl rfl (by omega) (by omega)).mp c_3
            refine lv_aload_n hx hb dX3_steep_30 rfl (lv_at hl 0 rfl) ?_
            refine va_get (D := D) (ci := 2) (v := .ref (a 0)) (C := RX3) (T := TX3) (N := 3) hx hb hts huX3 hown hK hP 0 rfl rfl 0 (by decide) (hts (.fieldLink RX3 10 "SnowSlabs" "cover" "LSnowSlabs$Cover;") (by decide +kernel)) (fun _ h9 => h9) rfl dX3_steep_31 ?_
            refine lv_iload_n hx hb dX3_steep_34 rfl (lv_at hl 3 rfl) ?_
            refine lv_iload_n hx hb dX3_steep_35 rfl (lv_at hl 1 rfl) ?_
            refine sn_cV 2 0 hC hl (ct_X0_going l D cI cZ cR a f n hI (nI k) x) gX3_steep_X0_going rfl (by decide +kernel) rfl ⟨Nat.le_of_ble_eq_true rfl, Nat.le_of_ble_eq_true rfl⟩ ⟨Nat.zero_le _, Nat.zero_le _⟩ (hP.sub (ws' := sn_wC cI cZ a f) [1, 2, 3, 4, 5, 6, 7] rfl) hK hN rfl rfl rfl (Nat.le_of_ble_eq_true rfl) dX3_steep_36 ?_
            refine lv_istore (lv' := [(4, .int (sn_en (sn_gn f n (nI k) x))), (0, .ref o), (1, .int x), (2, .int y), (3, .int (nI k))]) hx hb dX3_steep_39 hl (by decide) rfl (fun ls hl => ?_)
            have hgl : sn_gn f n (nI k) x ≤ n - 1 := sn_gnA_le f n (nI k) x (n - 1)
            refine lv_iload hx hb dX3_steep_41 (lv_at hl 0 rfl) ?_
            refine lv_bipush (v := (-6)) hx hb dX3_steep_43 (by decide) ?_
            refine lv_icmp_eq (tgt := 59) hx hb dX3_steep_45 (by decide) (fun c_4 => ?_) (fun c_4 => ?_)
            · have c_4 := (sn_en_none (by omega)).mp c_4
              refine lv_iinc (v := nI (k + 1)) (lv' := [(3, .int (nI (k + 1))), (4, .int (sn_en (sn_gn f n (nI k) x))), (0, .ref o), (1, .int x), (2, .int y)]) hx hb dX3_steep_59 hl (k := 4) rfl (sn_inc _) (by decide) rfl (fun ls hl => ?_)
              refine lv_goto (tgt := 24) hx hb dX3_steep_62 (by decide) ?_
              exact ih_loopO (k + 1) (by omega) ((sn_stp_z (by omega) (show _ = 0 from c_4)).symm.trans hq) (by omega) ls (lv_sub hl [2, 3, 4, 0] rfl)
            · have c_4 : ¬ sn_gn f n (nI k) x = 0 := fun z => c_4 ((sn_en_none (by omega)).mpr z)
              refine lv_iload_n hx hb dX3_steep_48 rfl (lv_at hl 3 rfl) ?_
              refine lv_if_ne (tgt := 56) hx hb dX3_steep_49 (by decide) (fun c_5 => ?_) (fun c_5 => ?_)
              · refine lv_iload hx hb dX3_steep_56 (lv_at hl 0 rfl) ?_
                exact sn_ret hx hb hr hlk dX3_steep_58 (((if_pos (⟨c_1, c_2⟩)).trans (hq.symm.trans ((sn_stp_p (by omega) c_4).trans ((if_neg c_5).trans (sn_en_pos c_4).symm)))).symm)
              · refine lv_iload_n hx hb dX3_steep_52 rfl (lv_at hl 4 rfl) ?_
                refine lv_goto (tgt := 58) hx hb dX3_steep_53 (by decide) ?_
                exact sn_ret hx hb hr hlk dX3_steep_58 (((if_pos (⟨c_1, c_2⟩)).trans (hq.symm.trans ((sn_stp_p (by omega) c_4).trans (if_pos c_5)))).symm)
      exact loopO ((101 - 0) + 1) 0 (Nat.zero_le _) rfl (by omega) ls (lv_sub hl [1, 2, 3, 0] rfl)
    · have c_2 : ¬ (0 ≤ y ∧ y ≤ 1) := sn_b_z.mp c_2
      refine lv_bipush (v := (-2)) hx hb dX3_steep_19 (by decide) ?_
      exact sn_ret hx hb hr hlk dX3_steep_21 ((if_neg (fun h => c_2 h.2)).symm)
set_option maxRecDepth 100000 in
set_option maxHeartbeats 4000000 in
theorem ct_X3_need (l : Launch) (D : va_G) (cI cZ cR : ClassId) (o : Nat) (a bt : Nat → Nat) (im : Nat) (f : Nat → Int32) (n : Nat) (hI : sn_I f n) (x : Int32) : sn_Rd l yX3_need wsX3_need 3 [.ref o, .int x] D (sn_ty cI cZ cR) (sn_wS cI cZ o a bt im f) (sn_Rneed f n x) := by
  refine sn_rd (cc := cX3_need) (maxL := 3) (ret := (some .int)) (by decide) rfl (Nat.le_of_ble_eq_true rfl) ?_
  intro p e s m below meth c hx hb hml hr hlk hts hown hP hK hN ls hl
  have hC : CallFix p m c cX3_need 3 s [.ref o, .int x].toArray wsX3_need RX3 := ⟨hx, hb, hml, hown, hts⟩
  have hl : lv_has ls 3 [(0, .ref o), (1, .int x)] := hl
  have huX0 : ∀ w ∈ wsX00, w ∈ wsX3_need := by decide +kernel
  have huX3 : ∀ w ∈ wsX30, w ∈ wsX3_need := by decide +kernel
  have hn10 := hI.2.1
  refine lv_iload_n hx hb dX3_need_0 rfl (lv_at hl 1 rfl) ?_
  refine lv_iconst (v := 1) hx hb dX3_need_1 (by decide) ?_
  refine lv_bipush (v := 30) hx hb dX3_need_2 (by decide) ?_
  refine sn_cS 3 hC hl (ct_X3_within l D _ [] x 1 30) gX3_need_X3_within rfl (by decide +kernel) rfl ⟨Nat.le_of_ble_eq_true rfl, Nat.le_of_ble_eq_true rfl⟩ ⟨Nat.zero_le _, Nat.zero_le _⟩ (fun _ _ h => by simp at h) hK hN rfl (Nat.le_of_ble_eq_true rfl) dX3_need_4 ?_
  refine lv_if_ne (tgt := 13) hx hb dX3_need_7 (by decide) (fun c_1 => ?_) (fun c_1 => ?_)
  · have c_1 : 1 ≤ x ∧ x ≤ 30 := sn_b_nz.mp c_1
    obtain ⟨t, ht1, ht2, ht3⟩ := sn_rng (lo := 1) (hi := 30) c_1 (by decide)
    subst ht3
    refine lv_iconst (v := 1) hx hb dX3_need_13 (by decide) ?_
    refine lv_istore_n (lv' := [(2, .int 1), (0, .ref o), (1, .int (nI t))]) hx hb dX3_need_14 rfl hl (by decide) rfl (fun ls hl => ?_)
    have loop : ∀ (fu : Nat) (v : Nat), (1 ≤ v) → (v ≤ 51) → (sn_ned f n t (51 - v) v = sn_ned f n t 50 1) → 51 - v < fu → ∀ ls : Array Slot, lv_has ls 3 [(0, .ref o), (1, .int (nI t)), (2, .int (nI v))] → W p l e (sn_rm 3 0 0) s m [.ref o, .int (nI t)].toArray below meth c s.heap [] 0 0 (MQ below (vp_Si (fun r_ => r_ = (sn_Rneed f n (nI t)))) [.ref o, .int (nI t)].toArray s 0 0 (fun _ => False)) (F0 m 15 ls []) := by
      intro fu
      induction fu with
      | zero => intro v h1 h2 hq hm; exact absurd hm (Nat.not_lt_zero _)
      | succ fu ih_loop =>
        intro v h1 h2 hq hm ls hl
        refine lv_iload_n hx hb dX3_need_15 rfl (lv_at hl 2 rfl) ?_
        refine lv_bipush (v := 50) hx hb dX3_need_16 (by decide) ?_
        refine lv_icmp_gt (tgt := 53) hx hb dX3_need_18 (by decide) (fun c_2 => ?_) (fun c_2 => ?_)
        · have c_2 := (sn_cgtj (a := v) (b := 50) rfl rfl (by omega) (by omega)).mp c_2
          refine lv_bipush (v := (-6)) hx hb dX3_need_53 (by decide) ?_
          exact sn_ret hx hb hr hlk dX3_need_55 (((if_pos c_1).trans ((congrArg (fun z => sn_ned f n z 50 1) (nI_clamp (by omega))).trans (hq.symm.trans (by rw [show v = 51 by omega]; rfl)))).symm)
        · have c_2 := (sn_cgtf (a := v) (b := 50) rfl rfl (by omega) (by omega)).mp c_2
          refine lv_aload_n hx hb dX3_need_21 rfl (lv_at hl 0 rfl) ?_
          refine va_get (D := D) (ci := 2) (v := .ref (a 0)) (C := RX3) (T := TX3) (N := 3) hx hb hts huX3 hown hK hP 0 rfl rfl 0 (by decide) (hts (.fieldLink RX3 10 "SnowSlabs" "cover" "LSnowSlabs$Cover;") (by decide +kernel)) (fun _ h9 => h9) rfl dX3_need_22 ?_
          refine lv_aload_n hx hb dX3_need_25 rfl (lv_at hl 0 rfl) ?_
          refine va_get (D := D) (ci := 2) (v := .ref (a 0)) (C := RX3) (T := TX3) (N := 3) hx hb hts huX3 hown hK hP 0 rfl rfl 0 (by decide) (hts (.fieldLink RX3 10 "SnowSlabs" "cover" "LSnowSlabs$Cover;") (by decide +kernel)) (fun _ h9 => h9) rfl dX3_need_26 ?_
          refine va_get (D := D) (ci := 0) (v := .int (f 0)) (C := RX0) (T := TX0) (N := 8) hx hb hts huX0 hown hK hP 1 rfl rfl 0 (by decide) (hts (.fieldLink RX3 31 "SnowSlabs$Cover" "size" "I") (by decide +kernel)) (fun _ h9 => h9) rfl dX3_need_29 ?_
          refine sn_top (hI.1) ?_
          refine lv_iload_n hx hb dX3_need_32 rfl (lv_at hl 1 rfl) ?_
          refine lv_iload_n hx hb dX3_need_33 rfl (lv_at hl 2 rfl) ?_
          refine sn_cS 2 hC hl (ct_X2_weightOf l D _ [] t (by omega) (nI v)) gX3_need_X2_weightOf rfl (by decide +kernel) rfl ⟨Nat.le_of_ble_eq_true rfl, Nat.le_of_ble_eq_true rfl⟩ ⟨Nat.zero_le _, Nat.zero_le _⟩ (fun _ _ h => by simp at h) hK hN rfl (Nat.le_of_ble_eq_true rfl) dX3_need_34 ?_
          refine sn_cV 2 0 hC hl (ct_X0_breaking l D cI cZ cR a f n hI n (by first | exact hI.2.1 | omega) (sn_wt t (nI v))) gX3_need_X0_breaking rfl (by decide +kernel) rfl ⟨Nat.le_of_ble_eq_true rfl, Nat.le_of_ble_eq_true rfl⟩ ⟨Nat.zero_le _, Nat.zero_le _⟩ (hP.sub (ws' := sn_wC cI cZ a f) [1, 2, 3, 4, 5, 6, 7] rfl) hK hN rfl rfl rfl (Nat.le_of_ble_eq_true rfl) dX3_need_37 ?_
          have hbl := sn_bk_le f n (sn_wt t (nI v))
          refine lv_bipush (v := (-6)) hx hb dX3_need_40 (by decide) ?_
          refine lv_icmp_eq (tgt := 47) hx hb dX3_need_42 (by decide) (fun c_3 => ?_) (fun c_3 => ?_)
          · have c_3 := (sn_en_none (by omega)).mp c_3
            refine lv_iinc (v := nI (v + 1)) (lv' := [(2, .int (nI (v + 1))), (0, .ref o), (1, .int (nI t))]) hx hb dX3_need_47 hl (k := 2) rfl (sn_inc _) (by decide) rfl (fun ls hl => ?_)
            refine lv_goto (tgt := 15) hx hb dX3_need_50 (by decide) ?_
            exact ih_loop (v + 1) (by omega) (by omega) ((sn_ned_z (by omega) c_3).symm.trans hq) (by omega) ls (lv_sub hl [1, 2, 0] rfl)
          · have c_3 : ¬ sn_bk f n (sn_wt t (nI v)) = 0 := fun z => c_3 ((sn_en_none (by omega)).mpr z)
            refine lv_iload_n hx hb dX3_need_45 rfl (lv_at hl 2 rfl) ?_
            exact sn_ret hx hb hr hlk dX3_need_46 (((if_pos c_1).trans ((congrArg (fun z => sn_ned f n z 50 1) (nI_clamp (by omega))).trans (hq.symm.trans (sn_ned_p (by omega) c_3)))).symm)
    exact loop ((51 - 1) + 1) 1 (Nat.le_refl _) (by omega) rfl (by omega) ls (lv_sub hl [1, 2, 0] rfl)
  · have c_1 : ¬ (1 ≤ x ∧ x ≤ 30) := sn_b_z.mp c_1
    refine lv_bipush (v := (-2)) hx hb dX3_need_10 (by decide) ?_
    exact sn_ret hx hb hr hlk dX3_need_12 ((if_neg c_1).symm)
set_option maxRecDepth 100000 in
set_option maxHeartbeats 4000000 in
theorem ct_X3_heat (l : Launch) (D : va_G) (cI cZ cR : ClassId) (o : Nat) (a bt : Nat → Nat) (im : Nat) (f : Nat → Int32) (x y z : Int32) : sn_Rd l yX3_heat wsX3_heat 3 [.ref o, .int x, .int y, .int z] D (sn_ty cI cZ cR) (sn_wS cI cZ o a bt im f) (sn_Rheat x y z) := by
  refine sn_rd (cc := cX3_heat) (maxL := 4) (ret := (some .int)) (by decide) rfl (Nat.le_of_ble_eq_true rfl) ?_
  intro p e s m below meth c hx hb hml hr hlk hts hown hP hK hN ls hl
  have hC : CallFix p m c cX3_heat 4 s [.ref o, .int x, .int y, .int z].toArray wsX3_heat RX3 := ⟨hx, hb, hml, hown, hts⟩
  have hl : lv_has ls 4 [(0, .ref o), (1, .int x), (2, .int y), (3, .int z)] := hl
  refine lv_iload_n hx hb dX3_heat_0 rfl (lv_at hl 1 rfl) ?_
  refine lv_iconst (v := 0) hx hb dX3_heat_1 (by decide) ?_
  refine lv_bipush (v := 7) hx hb dX3_heat_2 (by decide) ?_
  refine sn_cS 3 hC hl (ct_X3_within l D _ [] x 0 7) gX3_heat_X3_within rfl (by decide +kernel) rfl ⟨Nat.le_of_ble_eq_true rfl, Nat.le_of_ble_eq_true rfl⟩ ⟨Nat.zero_le _, Nat.zero_le _⟩ (fun _ _ h => by simp at h) hK hN rfl (Nat.le_of_ble_eq_true rfl) dX3_heat_4 ?_
  refine lv_if_ne (tgt := 12) hx hb dX3_heat_7 (by decide) (fun c_1 => ?_) (fun c_1 => ?_)
  · have c_1 : 0 ≤ x ∧ x ≤ 7 := sn_b_nz.mp c_1
    refine lv_iload_n hx hb dX3_heat_12 rfl (lv_at hl 2 rfl) ?_
    refine lv_iconst (v := 0) hx hb dX3_heat_13 (by decide) ?_
    refine lv_bipush (v := 23) hx hb dX3_heat_14 (by decide) ?_
    refine sn_cS 3 hC hl (ct_X3_within l D _ [] y 0 23) gX3_heat_X3_within rfl (by decide +kernel) rfl ⟨Nat.le_of_ble_eq_true rfl, Nat.le_of_ble_eq_true rfl⟩ ⟨Nat.zero_le _, Nat.zero_le _⟩ (fun _ _ h => by simp at h) hK hN rfl (Nat.le_of_ble_eq_true rfl) dX3_heat_16 ?_
    refine lv_if_eq (tgt := 31) hx hb dX3_heat_19 (by decide) (fun c_2 => ?_) (fun c_2 => ?_)
    · have c_2 : ¬ (0 ≤ y ∧ y ≤ 23) := sn_b_z.mp c_2
      refine lv_bipush (v := (-2)) hx hb dX3_heat_31 (by decide) ?_
      exact sn_ret hx hb hr hlk dX3_heat_33 (((if_pos c_1).trans (if_neg (fun h => c_2 h.1))).symm)
    · have c_2 : 0 ≤ y ∧ y ≤ 23 := sn_b_nz.mp c_2
      refine lv_iload_n hx hb dX3_heat_22 rfl (lv_at hl 3 rfl) ?_
      refine lv_iconst (v := 0) hx hb dX3_heat_23 (by decide) ?_
      refine lv_iconst (v := 1) hx hb dX3_heat_24 (by decide) ?_
      refine sn_cS 3 hC hl (ct_X3_within l D _ [] z 0 1) gX3_heat_X3_within rfl (by decide +kernel) rfl ⟨Nat.le_of_ble_eq_true rfl, Nat.le_of_ble_eq_true rfl⟩ ⟨Nat.zero_le _, Nat.zero_le _⟩ (fun _ _ h => by simp at h) hK hN rfl (Nat.le_of_ble_eq_true rfl) dX3_heat_25 ?_
      refine lv_if_ne (tgt := 34) hx hb dX3_heat_28 (by decide) (fun c_3 => ?_) (fun c_3 => ?_)
      · have c_3 : 0 ≤ z ∧ z ≤ 1 := sn_b_nz.mp c_3
        obtain ⟨i, hi1, hi2, hi3⟩ := sn_rng (lo := 0) (hi := 7) c_1 (by decide)
        subst hi3
        obtain ⟨h, hh1, hh2, hh3⟩ := sn_rng (lo := 0) (hi := 23) c_2 (by decide)
        subst hh3
        refine lv_iload_n hx hb dX3_heat_34 rfl (lv_at hl 3 rfl) ?_
        refine lv_if_ne (tgt := 46) hx hb dX3_heat_35 (by decide) (fun c_4 => ?_) (fun c_4 => ?_)
        · refine lv_iload_n hx hb dX3_heat_46 rfl (lv_at hl 1 rfl) ?_
          refine lv_iload_n hx hb dX3_heat_47 rfl (lv_at hl 2 rfl) ?_
          refine sn_cS 2 hC hl (ct_X1_heatUpTo l D _ [] i h (by omega) (by omega)) gX3_heat_X1_heatUpTo rfl (by decide +kernel) rfl ⟨Nat.le_of_ble_eq_true rfl, Nat.le_of_ble_eq_true rfl⟩ ⟨Nat.zero_le _, Nat.zero_le _⟩ (fun _ _ h => by simp at h) hK hN rfl (Nat.le_of_ble_eq_true rfl) dX3_heat_48 ?_
          exact sn_ret hx hb hr hlk dX3_heat_51 (((if_pos c_1).trans ((if_pos (⟨c_2, c_3⟩)).trans ((if_neg c_4).trans (by rw [nI_clamp (by omega), nI_clamp (by omega)])))).symm)
        · refine lv_iload_n hx hb dX3_heat_38 rfl (lv_at hl 1 rfl) ?_
          refine lv_iload_n hx hb dX3_heat_39 rfl (lv_at hl 2 rfl) ?_
          refine sn_cS 2 hC hl (ct_X1_heatIn l D _ [] i h (by omega) (by omega)) gX3_heat_X1_heatIn rfl (by decide +kernel) rfl ⟨Nat.le_of_ble_eq_true rfl, Nat.le_of_ble_eq_true rfl⟩ ⟨Nat.zero_le _, Nat.zero_le _⟩ (fun _ _ h => by simp at h) hK hN rfl (Nat.le_of_ble_eq_true rfl) dX3_heat_40 ?_
          refine lv_goto (tgt := 51) hx hb dX3_heat_43 (by decide) ?_
          exact sn_ret hx hb hr hlk dX3_heat_51 (((if_pos c_1).trans ((if_pos (⟨c_2, c_3⟩)).trans ((if_pos c_4).trans (by rw [nI_clamp (by omega), nI_clamp (by omega)])))).symm)
      · have c_3 : ¬ (0 ≤ z ∧ z ≤ 1) := sn_b_z.mp c_3
        refine lv_bipush (v := (-2)) hx hb dX3_heat_31 (by decide) ?_
        exact sn_ret hx hb hr hlk dX3_heat_33 (((if_pos c_1).trans (if_neg (fun h => c_3 h.2))).symm)
  · have c_1 : ¬ (0 ≤ x ∧ x ≤ 7) := sn_b_z.mp c_1
    refine lv_iconst (v := (-1)) hx hb dX3_heat_10 (by decide) ?_
    exact sn_ret hx hb hr hlk dX3_heat_11 ((if_neg c_1).symm)
set_option maxRecDepth 100000 in
set_option maxHeartbeats 4000000 in
theorem ct_X3_warm (l : Launch) (D : va_G) (cI cZ cR : ClassId) (o : Nat) (a bt : Nat → Nat) (im : Nat) (f : Nat → Int32) (x y : Int32) : sn_Rd l yX3_warm wsX3_warm 3 [.ref o, .int x, .int y] D (sn_ty cI cZ cR) (sn_wS cI cZ o a bt im f) (sn_Rwarm x y) := by
  refine sn_rd (cc := cX3_warm) (maxL := 3) (ret := (some .int)) (by decide) rfl (Nat.le_of_ble_eq_true rfl) ?_
  intro p e s m below meth c hx hb hml hr hlk hts hown hP hK hN ls hl
  have hC : CallFix p m c cX3_warm 3 s [.ref o, .int x, .int y].toArray wsX3_warm RX3 := ⟨hx, hb, hml, hown, hts⟩
  have hl : lv_has ls 3 [(0, .ref o), (1, .int x), (2, .int y)] := hl
  refine lv_iload_n hx hb dX3_warm_0 rfl (lv_at hl 1 rfl) ?_
  refine lv_iconst (v := 0) hx hb dX3_warm_1 (by decide) ?_
  refine lv_bipush (v := 7) hx hb dX3_warm_2 (by decide) ?_
  refine sn_cS 3 hC hl (ct_X3_within l D _ [] x 0 7) gX3_warm_X3_within rfl (by decide +kernel) rfl ⟨Nat.le_of_ble_eq_true rfl, Nat.le_of_ble_eq_true rfl⟩ ⟨Nat.zero_le _, Nat.zero_le _⟩ (fun _ _ h => by simp at h) hK hN rfl (Nat.le_of_ble_eq_true rfl) dX3_warm_4 ?_
  refine lv_if_ne (tgt := 12) hx hb dX3_warm_7 (by decide) (fun c_1 => ?_) (fun c_1 => ?_)
  · have c_1 : 0 ≤ x ∧ x ≤ 7 := sn_b_nz.mp c_1
    refine lv_iload_n hx hb dX3_warm_12 rfl (lv_at hl 2 rfl) ?_
    refine lv_iconst (v := 1) hx hb dX3_warm_13 (by decide) ?_
    refine lv_sipush (v := 999) hx hb dX3_warm_14 (by decide) ?_
    refine sn_cS 3 hC hl (ct_X3_within l D _ [] y 1 999) gX3_warm_X3_within rfl (by decide +kernel) rfl ⟨Nat.le_of_ble_eq_true rfl, Nat.le_of_ble_eq_true rfl⟩ ⟨Nat.zero_le _, Nat.zero_le _⟩ (fun _ _ h => by simp at h) hK hN rfl (Nat.le_of_ble_eq_true rfl) dX3_warm_17 ?_
    refine lv_if_ne (tgt := 26) hx hb dX3_warm_20 (by decide) (fun c_2 => ?_) (fun c_2 => ?_)
    · have c_2 : 1 ≤ y ∧ y ≤ 999 := sn_b_nz.mp c_2
      obtain ⟨i, hi1, hi2, hi3⟩ := sn_rng (lo := 0) (hi := 7) c_1 (by decide)
      subst hi3
      obtain ⟨t, ht1, ht2, ht3⟩ := sn_rng (lo := 1) (hi := 999) c_2 (by decide)
      subst ht3
      refine lv_iload_n hx hb dX3_warm_26 rfl (lv_at hl 1 rfl) ?_
      refine lv_iload_n hx hb dX3_warm_27 rfl (lv_at hl 2 rfl) ?_
      refine sn_cS 2 hC hl (ct_X1_warmHour l D _ [] i t (by omega) (by omega)) gX3_warm_X1_warmHour rfl (by decide +kernel) rfl ⟨Nat.le_of_ble_eq_true rfl, Nat.le_of_ble_eq_true rfl⟩ ⟨Nat.zero_le _, Nat.zero_le _⟩ (fun _ _ h => by simp at h) hK hN rfl (Nat.le_of_ble_eq_true rfl) dX3_warm_28 ?_
      exact sn_ret hx hb hr hlk dX3_warm_31 (((if_pos c_1).trans ((if_pos c_2).trans (by rw [nI_clamp (by omega), nI_clamp (by omega)]))).symm)
    · have c_2 : ¬ (1 ≤ y ∧ y ≤ 999) := sn_b_z.mp c_2
      refine lv_bipush (v := (-2)) hx hb dX3_warm_23 (by decide) ?_
      exact sn_ret hx hb hr hlk dX3_warm_25 (((if_pos c_1).trans (if_neg c_2)).symm)
  · have c_1 : ¬ (0 ≤ x ∧ x ≤ 7) := sn_b_z.mp c_1
    refine lv_iconst (v := (-1)) hx hb dX3_warm_10 (by decide) ?_
    exact sn_ret hx hb hr hlk dX3_warm_11 ((if_neg c_1).symm)
set_option maxRecDepth 100000 in
set_option maxHeartbeats 4000000 in
theorem ct_X3_order (l : Launch) (D : va_G) (cI cZ cR : ClassId) (o : Nat) (a bt : Nat → Nat) (im : Nat) (f : Nat → Int32) (x y : Int32) : sn_Rd l yX3_order wsX3_order 4 [.ref o, .int x, .int y] D (sn_ty cI cZ cR) (sn_wS cI cZ o a bt im f) (sn_Rord x y) := by
  refine sn_rd (cc := cX3_order) (maxL := 3) (ret := (some .int)) (by decide) rfl (Nat.le_of_ble_eq_true rfl) ?_
  intro p e s m below meth c hx hb hml hr hlk hts hown hP hK hN ls hl
  have hC : CallFix p m c cX3_order 3 s [.ref o, .int x, .int y].toArray wsX3_order RX3 := ⟨hx, hb, hml, hown, hts⟩
  have hl : lv_has ls 3 [(0, .ref o), (1, .int x), (2, .int y)] := hl
  refine lv_iload_n hx hb dX3_order_0 rfl (lv_at hl 1 rfl) ?_
  refine lv_iconst (v := 1) hx hb dX3_order_1 (by decide) ?_
  refine lv_sipush (v := 999) hx hb dX3_order_2 (by decide) ?_
  refine sn_cS 3 hC hl (ct_X3_within l D _ [] x 1 999) gX3_order_X3_within rfl (by decide +kernel) rfl ⟨Nat.le_of_ble_eq_true rfl, Nat.le_of_ble_eq_true rfl⟩ ⟨Nat.zero_le _, Nat.zero_le _⟩ (fun _ _ h => by simp at h) hK hN rfl (Nat.le_of_ble_eq_true rfl) dX3_order_5 ?_
  refine lv_if_ne (tgt := 14) hx hb dX3_order_8 (by decide) (fun c_1 => ?_) (fun c_1 => ?_)
  · have c_1 : 1 ≤ x ∧ x ≤ 999 := sn_b_nz.mp c_1
    obtain ⟨t, ht1, ht2, ht3⟩ := sn_rng (lo := 1) (hi := 999) c_1 (by decide)
    subst ht3
    refine lv_iload_n hx hb dX3_order_14 rfl (lv_at hl 2 rfl) ?_
    refine lv_iconst (v := (-1)) hx hb dX3_order_15 (by decide) ?_
    refine lv_icmp_ne (tgt := 26) hx hb dX3_order_16 (by decide) (fun c_2 => ?_) (fun c_2 => ?_)
    · refine lv_iload_n hx hb dX3_order_26 rfl (lv_at hl 1 rfl) ?_
      refine lv_iload_n hx hb dX3_order_27 rfl (lv_at hl 2 rfl) ?_
      refine sn_cS 2 hC hl (ct_X1_sideAtPlace l D _ [] t (by omega) y) gX3_order_X1_sideAtPlace rfl (by decide +kernel) rfl ⟨Nat.le_of_ble_eq_true rfl, Nat.le_of_ble_eq_true rfl⟩ ⟨Nat.zero_le _, Nat.zero_le _⟩ (fun _ _ h => by simp at h) hK hN rfl (Nat.le_of_ble_eq_true rfl) dX3_order_28 ?_
      exact sn_ret hx hb hr hlk dX3_order_31 (((if_pos c_1).trans ((congrArg (fun z => sn_pikM (sn_ro z 24) 0 y) (nI_clamp (by omega))).trans (sn_pik_ne y c_2 _ _))).symm)
    · refine lv_iload_n hx hb dX3_order_19 rfl (lv_at hl 1 rfl) ?_
      refine sn_cS 1 hC hl (ct_X1_warmSides l D _ [] t (by omega)) gX3_order_X1_warmSides rfl (by decide +kernel) rfl ⟨Nat.le_of_ble_eq_true rfl, Nat.le_of_ble_eq_true rfl⟩ ⟨Nat.zero_le _, Nat.zero_le _⟩ (fun _ _ h => by simp at h) hK hN rfl (Nat.le_of_ble_eq_true rfl) dX3_order_20 ?_
      refine lv_goto (tgt := 31) hx hb dX3_order_23 (by decide) ?_
      exact sn_ret hx hb hr hlk dX3_order_31 (((if_pos c_1).trans ((congrArg (fun z => sn_pikM (sn_ro z 24) 0 y) (nI_clamp (by omega))).trans (by rw [c_2, show (0 : Int32) = nI 0 from rfl, sn_pik_m1 _ 0 (by have := sn_ws_le t 8; rw [← sn_ws_len]; omega), sn_ws_len, Nat.zero_add]))).symm)
  · have c_1 : ¬ (1 ≤ x ∧ x ≤ 999) := sn_b_z.mp c_1
    refine lv_bipush (v := (-2)) hx hb dX3_order_11 (by decide) ?_
    exact sn_ret hx hb hr hlk dX3_order_13 ((if_neg c_1).symm)
set_option maxRecDepth 100000 in
set_option maxHeartbeats 4000000 in
theorem ct_X3_keptSet (l : Launch) (D : va_G) (cI cZ cR : ClassId) (o : Nat) (a bt : Nat → Nat) (im : Nat) (f : Nat → Int32) (og : Nat → Option Nat) (kp : Nat → Int32) (hk0 : kp 0 = 0 ↔ og 0 = none) (hk1 : kp 1 = 0 ↔ og 1 = none) : sn_Rd l yX3_keptSet wsX3_keptSet 0 [.ref o] D (sn_ty cI cZ cR) (sn_wS cI cZ o a bt im f ++ [(im, .inl (cR, 2, .inr (.inr (.inr (.inr og)))))]) (sn_kps kp) := by
  refine sn_rd (cc := cX3_keptSet) (maxL := 3) (ret := (some .int)) (by decide) rfl (Nat.le_of_ble_eq_true rfl) ?_
  intro p e s m below meth c hx hb hml hr hlk hts hown hP hK hN ls hl
  have hC : CallFix p m c cX3_keptSet 3 s [.ref o].toArray wsX3_keptSet RX3 := ⟨hx, hb, hml, hown, hts⟩
  have hl : lv_has ls 3 [(0, .ref o)] := hl
  have huX3 : ∀ w ∈ wsX30, w ∈ wsX3_keptSet := by decide +kernel
  refine lv_iconst (v := 0) hx hb dX3_keptSet_0 (by decide) ?_
  refine lv_istore_n (lv' := [(1, .int 0), (0, .ref o)]) hx hb dX3_keptSet_1 rfl hl (by decide) rfl (fun ls hl => ?_)
  refine lv_iconst (v := 0) hx hb dX3_keptSet_2 (by decide) ?_
  refine lv_istore_n (lv' := [(2, .int 0), (1, .int 0), (0, .ref o)]) hx hb dX3_keptSet_3 rfl hl (by decide) rfl (fun ls hl => ?_)
  refine lv_iload_n hx hb dX3_keptSet_4 rfl (lv_at hl 0 rfl) ?_
  refine lv_iconst (v := 2) hx hb dX3_keptSet_5 (by decide) ?_
  refine lv_icmp_ge (tgt := 30) hx hb dX3_keptSet_6 (by decide) (fun c_1 => ?_) (fun c_1 => ?_)
  · have c_1 := (sn_cgej (a := 0) (b := 2) rfl rfl (by omega) (by omega)).mp c_1
    exact absurd c_1 (by omega)
  · have c_1 := (sn_cgef (a := 0) (b := 2) rfl rfl (by omega) (by omega)).mp c_1
    refine lv_aload_n hx hb dX3_keptSet_9 rfl (lv_at hl 2 rfl) ?_
    refine va_get (D := D) (ci := 2) (v := .ref im) (C := RX3) (T := TX3) (N := 3) hx hb hts huX3 hown hK hP 0 rfl rfl 2 (by decide) (hts (.fieldLink RX3 23 "SnowSlabs" "images" "[LSnowSlabs$Cover;") (by decide +kernel)) (fun _ h9 => h9) rfl dX3_keptSet_10 ?_
    refine lv_iload_n hx hb dX3_keptSet_13 rfl (lv_at hl 0 rfl) ?_
    refine sn_ald (k := 0) 8 2 hx hb hK hP rfl rfl (by omega) (by decide) rfl dX3_keptSet_14 ?_
    refine sn_ifnull (tgt := 24) hx hb dX3_keptSet_15 (by decide) (fun o_2 => ?_) (fun r_3 o_2 => ?_)
    · refine lv_iinc (v := nI 1) (lv' := [(2, .int (nI 1)), (1, .int 0), (0, .ref o)]) hx hb dX3_keptSet_24 hl (k := 0) rfl (by decide) (by decide) rfl (fun ls hl => ?_)
      refine lv_goto (tgt := 4) hx hb dX3_keptSet_27 (by decide) ?_
      refine lv_iload_n hx hb dX3_keptSet_4 rfl (lv_at hl 0 rfl) ?_
      refine lv_iconst (v := 2) hx hb dX3_keptSet_5 (by decide) ?_
      refine lv_icmp_ge (tgt := 30) hx hb dX3_keptSet_6 (by decide) (fun c_4 => ?_) (fun c_4 => ?_)
      · have c_4 := (sn_cgej (a := 1) (b := 2) rfl rfl (by omega) (by omega)).mp c_4
        exact absurd c_4 (by omega)
      · have c_4 := (sn_cgef (a := 1) (b := 2) rfl rfl (by omega) (by omega)).mp c_4
        refine lv_aload_n hx hb dX3_keptSet_9 rfl (lv_at hl 2 rfl) ?_
        refine va_get (D := D) (ci := 2) (v := .ref im) (C := RX3) (T := TX3) (N := 3) hx hb hts huX3 hown hK hP 0 rfl rfl 2 (by decide) (hts (.fieldLink RX3 23 "SnowSlabs" "images" "[LSnowSlabs$Cover;") (by decide +kernel)) (fun _ h9 => h9) rfl dX3_keptSet_10 ?_
        refine lv_iload_n hx hb dX3_keptSet_13 rfl (lv_at hl 0 rfl) ?_
        refine sn_ald (k := 1) 8 2 hx hb hK hP rfl rfl (by omega) (by decide) rfl dX3_keptSet_14 ?_
        refine sn_ifnull (tgt := 24) hx hb dX3_keptSet_15 (by decide) (fun o_5 => ?_) (fun r_6 o_5 => ?_)
        · refine lv_iinc (v := nI 2) (lv' := [(2, .int (nI 2)), (1, .int 0), (0, .ref o)]) hx hb dX3_keptSet_24 hl (k := 0) rfl (by decide) (by decide) rfl (fun ls hl => ?_)
          refine lv_goto (tgt := 4) hx hb dX3_keptSet_27 (by decide) ?_
          refine lv_iload_n hx hb dX3_keptSet_4 rfl (lv_at hl 0 rfl) ?_
          refine lv_iconst (v := 2) hx hb dX3_keptSet_5 (by decide) ?_
          refine lv_icmp_ge (tgt := 30) hx hb dX3_keptSet_6 (by decide) (fun c_7 => ?_) (fun c_7 => ?_)
          · have c_7 := (sn_cgej (a := 2) (b := 2) rfl rfl (by omega) (by omega)).mp c_7
            refine lv_iload_n hx hb dX3_keptSet_30 rfl (lv_at hl 1 rfl) ?_
            exact sn_ret hx hb hr hlk dX3_keptSet_31 ((show sn_kps kp = _ from by unfold sn_kps; rw [if_pos (hk0.mpr o_2), if_pos (hk1.mpr o_5)]; decide).symm)
          · have c_7 := (sn_cgef (a := 2) (b := 2) rfl rfl (by omega) (by omega)).mp c_7
            exact absurd c_7 (by omega)
        · refine lv_iload_n hx hb dX3_keptSet_18 rfl (lv_at hl 1 rfl) ?_
          refine lv_iconst (v := 1) hx hb dX3_keptSet_19 (by decide) ?_
          refine lv_iload_n hx hb dX3_keptSet_20 rfl (lv_at hl 0 rfl) ?_
          refine lv_ishl hx hb dX3_keptSet_21 ?_
          refine lv_ior hx hb dX3_keptSet_22 ?_
          refine lv_istore_n (lv' := [(1, .int ((0 : Int32) ||| ((1 : Int32) <<< ((nI 1 : Int32) &&& 31) : Int32))), (2, .int (nI 1)), (0, .ref o)]) hx hb dX3_keptSet_23 rfl hl (by decide) rfl (fun ls hl => ?_)
          refine lv_iinc (v := nI 2) (lv' := [(2, .int (nI 2)), (1, .int ((0 : Int32) ||| ((1 : Int32) <<< ((nI 1 : Int32) &&& 31) : Int32))), (0, .ref o)]) hx hb dX3_keptSet_24 hl (k := 1) rfl (by decide) (by decide) rfl (fun ls hl => ?_)
          refine lv_goto (tgt := 4) hx hb dX3_keptSet_27 (by decide) ?_
          refine lv_iload_n hx hb dX3_keptSet_4 rfl (lv_at hl 0 rfl) ?_
          refine lv_iconst (v := 2) hx hb dX3_keptSet_5 (by decide) ?_
          refine lv_icmp_ge (tgt := 30) hx hb dX3_keptSet_6 (by decide) (fun c_8 => ?_) (fun c_8 => ?_)
          · have c_8 := (sn_cgej (a := 2) (b := 2) rfl rfl (by omega) (by omega)).mp c_8
            refine lv_iload_n hx hb dX3_keptSet_30 rfl (lv_at hl 1 rfl) ?_
            exact sn_ret hx hb hr hlk dX3_keptSet_31 ((show sn_kps kp = _ from by unfold sn_kps; rw [if_pos (hk0.mpr o_2), if_neg (fun z => by rw [hk1.mp z] at o_5; cases o_5)]; decide).symm)
          · have c_8 := (sn_cgef (a := 2) (b := 2) rfl rfl (by omega) (by omega)).mp c_8
            exact absurd c_8 (by omega)
    · refine lv_iload_n hx hb dX3_keptSet_18 rfl (lv_at hl 1 rfl) ?_
      refine lv_iconst (v := 1) hx hb dX3_keptSet_19 (by decide) ?_
      refine lv_iload_n hx hb dX3_keptSet_20 rfl (lv_at hl 0 rfl) ?_
      refine lv_ishl hx hb dX3_keptSet_21 ?_
      refine lv_ior hx hb dX3_keptSet_22 ?_
      refine lv_istore_n (lv' := [(1, .int ((0 : Int32) ||| ((1 : Int32) <<< ((0 : Int32) &&& 31) : Int32))), (2, .int 0), (0, .ref o)]) hx hb dX3_keptSet_23 rfl hl (by decide) rfl (fun ls hl => ?_)
      refine lv_iinc (v := nI 1) (lv' := [(2, .int (nI 1)), (1, .int ((0 : Int32) ||| ((1 : Int32) <<< ((0 : Int32) &&& 31) : Int32))), (0, .ref o)]) hx hb dX3_keptSet_24 hl (k := 1) rfl (by decide) (by decide) rfl (fun ls hl => ?_)
      refine lv_goto (tgt := 4) hx hb dX3_keptSet_27 (by decide) ?_
      refine lv_iload_n hx hb dX3_keptSet_4 rfl (lv_at hl 0 rfl) ?_
      refine lv_iconst (v := 2) hx hb dX3_keptSet_5 (by decide) ?_
      refine lv_icmp_ge (tgt := 30) hx hb dX3_keptSet_6 (by decide) (fun c_9 => ?_) (fun c_9 => ?_)
      · have c_9 := (sn_cgej (a := 1) (b := 2) rfl rfl (by omega) (by omega)).mp c_9
        exact absurd c_9 (by omega)
      · have c_9 := (sn_cgef (a := 1) (b := 2) rfl rfl (by omega) (by omega)).mp c_9
        refine lv_aload_n hx hb dX3_keptSet_9 rfl (lv_at hl 2 rfl) ?_
        refine va_get (D := D) (ci := 2) (v := .ref im) (C := RX3) (T := TX3) (N := 3) hx hb hts huX3 hown hK hP 0 rfl rfl 2 (by decide) (hts (.fieldLink RX3 23 "SnowSlabs" "images" "[LSnowSlabs$Cover;") (by decide +kernel)) (fun _ h9 => h9) rfl dX3_keptSet_10 ?_
        refine lv_iload_n hx hb dX3_keptSet_13 rfl (lv_at hl 0 rfl) ?_
        refine sn_ald (k := 1) 8 2 hx hb hK hP rfl rfl (by omega) (by decide) rfl dX3_keptSet_14 ?_
        refine sn_ifnull (tgt := 24) hx hb dX3_keptSet_15 (by decide) (fun o_10 => ?_) (fun r_11 o_10 => ?_)
        · refine lv_iinc (v := nI 2) (lv' := [(2, .int (nI 2)), (1, .int ((0 : Int32) ||| ((1 : Int32) <<< ((0 : Int32) &&& 31) : Int32))), (0, .ref o)]) hx hb dX3_keptSet_24 hl (k := 0) rfl (by decide) (by decide) rfl (fun ls hl => ?_)
          refine lv_goto (tgt := 4) hx hb dX3_keptSet_27 (by decide) ?_
          refine lv_iload_n hx hb dX3_keptSet_4 rfl (lv_at hl 0 rfl) ?_
          refine lv_iconst (v := 2) hx hb dX3_keptSet_5 (by decide) ?_
          refine lv_icmp_ge (tgt := 30) hx hb dX3_keptSet_6 (by decide) (fun c_12 => ?_) (fun c_12 => ?_)
          · have c_12 := (sn_cgej (a := 2) (b := 2) rfl rfl (by omega) (by omega)).mp c_12
            refine lv_iload_n hx hb dX3_keptSet_30 rfl (lv_at hl 1 rfl) ?_
            exact sn_ret hx hb hr hlk dX3_keptSet_31 ((show sn_kps kp = _ from by unfold sn_kps; rw [if_neg (fun z => by rw [hk0.mp z] at o_2; cases o_2), if_pos (hk1.mpr o_10)]; decide).symm)
          · have c_12 := (sn_cgef (a := 2) (b := 2) rfl rfl (by omega) (by omega)).mp c_12
            exact absurd c_12 (by omega)
        · refine lv_iload_n hx hb dX3_keptSet_18 rfl (lv_at hl 1 rfl) ?_
          refine lv_iconst (v := 1) hx hb dX3_keptSet_19 (by decide) ?_
          refine lv_iload_n hx hb dX3_keptSet_20 rfl (lv_at hl 0 rfl) ?_
          refine lv_ishl hx hb dX3_keptSet_21 ?_
          refine lv_ior hx hb dX3_keptSet_22 ?_
          refine lv_istore_n (lv' := [(1, .int (((0 : Int32) ||| ((1 : Int32) <<< ((0 : Int32) &&& 31) : Int32) : Int32) ||| ((1 : Int32) <<< ((nI 1 : Int32) &&& 31) : Int32))), (2, .int (nI 1)), (0, .ref o)]) hx hb dX3_keptSet_23 rfl hl (by decide) rfl (fun ls hl => ?_)
          refine lv_iinc (v := nI 2) (lv' := [(2, .int (nI 2)), (1, .int (((0 : Int32) ||| ((1 : Int32) <<< ((0 : Int32) &&& 31) : Int32) : Int32) ||| ((1 : Int32) <<< ((nI 1 : Int32) &&& 31) : Int32))), (0, .ref o)]) hx hb dX3_keptSet_24 hl (k := 1) rfl (by decide) (by decide) rfl (fun ls hl => ?_)
          refine lv_goto (tgt := 4) hx hb dX3_keptSet_27 (by decide) ?_
          refine lv_iload_n hx hb dX3_keptSet_4 rfl (lv_at hl 0 rfl) ?_
          refine lv_iconst (v := 2) hx hb dX3_keptSet_5 (by decide) ?_
          refine lv_icmp_ge (tgt := 30) hx hb dX3_keptSet_6 (by decide) (fun c_13 => ?_) (fun c_13 => ?_)
          · have c_13 := (sn_cgej (a := 2) (b := 2) rfl rfl (by omega) (by omega)).mp c_13
            refine lv_iload_n hx hb dX3_keptSet_30 rfl (lv_at hl 1 rfl) ?_
            exact sn_ret hx hb hr hlk dX3_keptSet_31 ((show sn_kps kp = _ from by unfold sn_kps; rw [if_neg (fun z => by rw [hk0.mp z] at o_2; cases o_2), if_neg (fun z => by rw [hk1.mp z] at o_10; cases o_10)]; decide).symm)
          · have c_13 := (sn_cgef (a := 2) (b := 2) rfl rfl (by omega) (by omega)).mp c_13
            exact absurd c_13 (by omega)
set_option maxRecDepth 100000 in
set_option maxHeartbeats 4000000 in
theorem ct_X3_count (l : Launch) (D : va_G) (cI cZ cR : ClassId) (o : Nat) (a bt : Nat → Nat) (im : Nat) (f : Nat → Int32) (n : Nat) (hI : sn_I f n) (og : Nat → Option Nat) (kp : Nat → Int32) (hk0 : kp 0 = 0 ↔ og 0 = none) (hk1 : kp 1 = 0 ↔ og 1 = none) (x : Int32) : sn_Rd l yX3_count wsX3_count 2 [.ref o, .int x] D (sn_ty cI cZ cR) (sn_wS cI cZ o a bt im f ++ [(im, .inl (cR, 2, .inr (.inr (.inr (.inr og)))))]) (sn_Rcount f n kp x) := by
  refine sn_rd (cc := cX3_count) (maxL := 2) (ret := (some .int)) (by decide) rfl (Nat.le_of_ble_eq_true rfl) ?_
  intro p e s m below meth c hx hb hml hr hlk hts hown hP hK hN ls hl
  have hC : CallFix p m c cX3_count 2 s [.ref o, .int x].toArray wsX3_count RX3 := ⟨hx, hb, hml, hown, hts⟩
  have hl : lv_has ls 2 [(0, .ref o), (1, .int x)] := hl
  have huX0 : ∀ w ∈ wsX00, w ∈ wsX3_count := by decide +kernel
  have huX3 : ∀ w ∈ wsX30, w ∈ wsX3_count := by decide +kernel
  have hn10 := hI.2.1
  refine lv_iload_n hx hb dX3_count_0 rfl (lv_at hl 1 rfl) ?_
  refine lv_bipush (v := 10) hx hb dX3_count_1 (by decide) ?_
  refine lv_bipush (v := 14) hx hb dX3_count_3 (by decide) ?_
  refine sn_cS 3 hC hl (ct_X3_within l D _ [] x 10 14) gX3_count_X3_within rfl (by decide +kernel) rfl ⟨Nat.le_of_ble_eq_true rfl, Nat.le_of_ble_eq_true rfl⟩ ⟨Nat.zero_le _, Nat.zero_le _⟩ (fun _ _ h => by simp at h) hK hN rfl (Nat.le_of_ble_eq_true rfl) dX3_count_5 ?_
  refine lv_if_eq (tgt := 24) hx hb dX3_count_8 (by decide) (fun c_1 => ?_) (fun c_1 => ?_)
  · have c_1 : ¬ (10 ≤ x ∧ x ≤ 14) := sn_b_z.mp c_1
    refine lv_iload_n hx hb dX3_count_24 rfl (lv_at hl 1 rfl) ?_
    by_cases t_0 : x = 0
    · subst t_0
      refine lv_tableIn (tgt := 60) hx hb dX3_count_25 (by decide) (by decide) (by decide +kernel : _ = some (35 : Int)) (by decide) ?_
      refine lv_aload_n hx hb dX3_count_60 rfl (lv_at hl 0 rfl) ?_
      refine va_get (D := D) (ci := 2) (v := .ref (a 0)) (C := RX3) (T := TX3) (N := 3) hx hb hts huX3 hown hK hP 0 rfl rfl 0 (by decide) (hts (.fieldLink RX3 10 "SnowSlabs" "cover" "LSnowSlabs$Cover;") (by decide +kernel)) (fun _ h9 => h9) rfl dX3_count_61 ?_
      refine va_get (D := D) (ci := 0) (v := .int (f 0)) (C := RX0) (T := TX0) (N := 8) hx hb hts huX0 hown hK hP 1 rfl rfl 0 (by decide) (hts (.fieldLink RX3 31 "SnowSlabs$Cover" "size" "I") (by decide +kernel)) (fun _ h9 => h9) rfl dX3_count_64 ?_
      refine sn_top (hI.1) ?_
      exact sn_ret hx hb hr hlk dX3_count_67 (((if_neg c_1).trans (rfl)).symm)
    · skip
      by_cases t_1 : x = 1
      · subst t_1
        refine lv_tableIn (tgt := 68) hx hb dX3_count_25 (by decide) (by decide) (by decide +kernel : _ = some (43 : Int)) (by decide) ?_
        refine lv_aload_n hx hb dX3_count_68 rfl (lv_at hl 0 rfl) ?_
        refine va_get (D := D) (ci := 2) (v := .ref (a 0)) (C := RX3) (T := TX3) (N := 3) hx hb hts huX3 hown hK hP 0 rfl rfl 0 (by decide) (hts (.fieldLink RX3 10 "SnowSlabs" "cover" "LSnowSlabs$Cover;") (by decide +kernel)) (fun _ h9 => h9) rfl dX3_count_69 ?_
        refine sn_cV 0 0 hC hl (ct_X0_allThick l D cI cZ cR a f n hI ) gX3_count_X0_allThick rfl (by decide +kernel) rfl ⟨Nat.le_of_ble_eq_true rfl, Nat.le_of_ble_eq_true rfl⟩ ⟨Nat.zero_le _, Nat.zero_le _⟩ (hP.sub (ws' := sn_wC cI cZ a f) [1, 2, 3, 4, 5, 6, 7] rfl) hK hN rfl rfl rfl (Nat.le_of_ble_eq_true rfl) dX3_count_72 ?_
        exact sn_ret hx hb hr hlk dX3_count_75 (((if_neg c_1).trans (rfl)).symm)
      · skip
        by_cases t_2 : x = 2
        · subst t_2
          refine lv_tableIn (tgt := 76) hx hb dX3_count_25 (by decide) (by decide) (by decide +kernel : _ = some (51 : Int)) (by decide) ?_
          refine lv_aload_n hx hb dX3_count_76 rfl (lv_at hl 0 rfl) ?_
          refine va_get (D := D) (ci := 2) (v := .ref (a 0)) (C := RX3) (T := TX3) (N := 3) hx hb hts huX3 hown hK hP 0 rfl rfl 0 (by decide) (hts (.fieldLink RX3 10 "SnowSlabs" "cover" "LSnowSlabs$Cover;") (by decide +kernel)) (fun _ h9 => h9) rfl dX3_count_77 ?_
          refine lv_iconst (v := (-1)) hx hb dX3_count_80 (by decide) ?_
          refine lv_aload_n hx hb dX3_count_81 rfl (lv_at hl 0 rfl) ?_
          refine va_get (D := D) (ci := 2) (v := .ref (a 0)) (C := RX3) (T := TX3) (N := 3) hx hb hts huX3 hown hK hP 0 rfl rfl 0 (by decide) (hts (.fieldLink RX3 10 "SnowSlabs" "cover" "LSnowSlabs$Cover;") (by decide +kernel)) (fun _ h9 => h9) rfl dX3_count_82 ?_
          refine va_get (D := D) (ci := 0) (v := .int (f 0)) (C := RX0) (T := TX0) (N := 8) hx hb hts huX0 hown hK hP 1 rfl rfl 0 (by decide) (hts (.fieldLink RX3 31 "SnowSlabs$Cover" "size" "I") (by decide +kernel)) (fun _ h9 => h9) rfl dX3_count_85 ?_
          refine sn_top (hI.1) ?_
          refine sn_cV 2 0 hC hl (ct_X0_massAbove l D cI cZ cR a f (-1) 0 n (by decide) (by omega) (by first | exact hI.2.1 | omega)) gX3_count_X0_massAbove rfl (by decide +kernel) rfl ⟨Nat.le_of_ble_eq_true rfl, Nat.le_of_ble_eq_true rfl⟩ ⟨Nat.zero_le _, Nat.zero_le _⟩ (hP.sub (ws' := sn_wC cI cZ a f) [1, 2, 3, 4, 5, 6, 7] rfl) hK hN rfl rfl rfl (Nat.le_of_ble_eq_true rfl) dX3_count_88 ?_
          exact sn_ret hx hb hr hlk dX3_count_91 (((if_neg c_1).trans (rfl)).symm)
        · skip
          by_cases t_3 : x = 3
          · subst t_3
            refine lv_tableIn (tgt := 92) hx hb dX3_count_25 (by decide) (by decide) (by decide +kernel : _ = some (67 : Int)) (by decide) ?_
            refine lv_aload_n hx hb dX3_count_92 rfl (lv_at hl 0 rfl) ?_
            refine va_get (D := D) (ci := 2) (v := .ref (a 0)) (C := RX3) (T := TX3) (N := 3) hx hb hts huX3 hown hK hP 0 rfl rfl 0 (by decide) (hts (.fieldLink RX3 10 "SnowSlabs" "cover" "LSnowSlabs$Cover;") (by decide +kernel)) (fun _ h9 => h9) rfl dX3_count_93 ?_
            refine va_get (D := D) (ci := 0) (v := .int (f 1)) (C := RX0) (T := TX0) (N := 8) hx hb hts huX0 hown hK hP 1 rfl rfl 1 (by decide) (hts (.fieldLink RX3 83 "SnowSlabs$Cover" "blowWeight" "I") (by decide +kernel)) (fun _ h9 => h9) rfl dX3_count_96 ?_
            exact sn_ret hx hb hr hlk dX3_count_99 (((if_neg c_1).trans (rfl)).symm)
          · skip
            by_cases t_4 : x = 4
            · subst t_4
              refine lv_tableIn (tgt := 100) hx hb dX3_count_25 (by decide) (by decide) (by decide +kernel : _ = some (75 : Int)) (by decide) ?_
              refine lv_aload_n hx hb dX3_count_100 rfl (lv_at hl 0 rfl) ?_
              refine sn_cV 0 0 hC hl (ct_X3_keptSet l D cI cZ cR o a bt im f og kp hk0 hk1) gX3_count_X3_keptSet rfl (by decide +kernel) rfl ⟨Nat.le_of_ble_eq_true rfl, Nat.le_of_ble_eq_true rfl⟩ ⟨Nat.zero_le _, Nat.zero_le _⟩ hP hK hN rfl rfl rfl (Nat.le_of_ble_eq_true rfl) dX3_count_101 ?_
              exact sn_ret hx hb hr hlk dX3_count_104 (((if_neg c_1).trans (rfl)).symm)
            · refine lv_tableOut (tgt := 105) hx hb dX3_count_25 (by have e0 := lv_neT t_0 (a := 0) rfl; have e1 := lv_neT t_1 (a := 1) rfl; have e2 := lv_neT t_2 (a := 2) rfl; have e3 := lv_neT t_3 (a := 3) rfl; have e4 := lv_neT t_4 (a := 4) rfl; omega) (by decide) ?_
              refine lv_bipush (v := (-2)) hx hb dX3_count_105 (by decide) ?_
              exact sn_ret hx hb hr hlk dX3_count_107 (((if_neg c_1).trans ((if_neg t_0).trans ((if_neg t_1).trans ((if_neg t_2).trans ((if_neg t_3).trans (if_neg t_4)))))).symm)
  · have c_1 : 10 ≤ x ∧ x ≤ 14 := sn_b_nz.mp c_1
    obtain ⟨t, ht1, ht2, ht3⟩ := sn_rng (lo := 10) (hi := 14) c_1 (by decide)
    subst ht3
    refine lv_aload_n hx hb dX3_count_11 rfl (lv_at hl 0 rfl) ?_
    refine va_get (D := D) (ci := 2) (v := .ref (a 0)) (C := RX3) (T := TX3) (N := 3) hx hb hts huX3 hown hK hP 0 rfl rfl 0 (by decide) (hts (.fieldLink RX3 10 "SnowSlabs" "cover" "LSnowSlabs$Cover;") (by decide +kernel)) (fun _ h9 => h9) rfl dX3_count_12 ?_
    refine va_get (D := D) (ci := 0) (v := .ref (a 6)) (C := RX0) (T := TX0) (N := 8) hx hb hts huX0 hown hK hP 1 rfl rfl 7 (by decide) (hts (.fieldLink RX3 39 "SnowSlabs$Cover" "firmness" "[I") (by decide +kernel)) (fun _ h9 => h9) rfl dX3_count_15 ?_
    refine lv_iload_n hx hb dX3_count_18 rfl (lv_at hl 1 rfl) ?_
    refine lv_bipush (v := 10) hx hb dX3_count_19 (by decide) ?_
    refine lv_isub hx hb dX3_count_21 ?_
    refine sn_top (y := nI (t - 10)) (sn_nsub (a := t) (b := 10) rfl rfl (by omega)) ?_
    refine sn_ild (k := t - 10) (v := f (2 + (t - 10))) 7 0 hx hb hK hP rfl rfl (by omega) (by decide) rfl (rfl) dX3_count_22 ?_
    exact sn_ret hx hb hr hlk dX3_count_23 (((if_pos c_1).trans (by rw [nI_clamp (by omega)])).symm)
end
section
/-! ===== what the calls that change the state make of it ===== -/
def sn_mx1 (v : Int32) : Int32 := if v < 1 then 1 else v
def sn_mn6 (v : Int32) : Int32 := if 600 < v then 600 else v
def sn_hd (h : Int32) : Int32 := h + (if h < 5 then 1 else 0)
theorem sn_max1 (v : Int32) : (if (1 : Int32) < v then v else 1) = sn_mx1 v := by
  unfold sn_mx1
  by_cases h : (1 : Int32) < v
  · rw [if_pos h, if_neg (by rw [sn_lt] at h ⊢; omega)]
  · rw [if_neg h]
    by_cases h2 : v < 1
    · rw [if_pos h2]
    · rw [if_neg h2, sn_eq]; rw [sn_lt] at h h2; omega
theorem sn_min6 (v : Int32) : (if v < (600 : Int32) then v else 600) = sn_mn6 v := by
  unfold sn_mn6
  by_cases h : v < (600 : Int32)
  · rw [if_pos h, if_neg (by rw [sn_lt] at h ⊢; omega)]
  · rw [if_neg h]
    by_cases h2 : (600 : Int32) < v
    · rw [if_pos h2]
    · rw [if_neg h2, sn_eq]; rw [sn_lt] at h h2; omega
theorem sn_mx1_ne (v : Int32) : ¬ sn_mx1 v = 0 := by
  unfold sn_mx1
  by_cases h : v < 1
  · rw [if_pos h]; decide
  · rw [if_neg h]
    intro e
    subst e
    exact h (by decide)
theorem sn_min5 {h : Int32} (h0 : 0 ≤ h.toInt) (h5 : h.toInt ≤ 5) : (if h + 1 < (5 : Int32) then h + 1 else 5) = sn_hd h := by
  unfold sn_hd
  have l1 : (1 : Int32).toInt = 1 := rfl
  have l5 : (5 : Int32).toInt = 5 := rfl
  have e : (h + 1).toInt = h.toInt + 1 := by rw [sn_add_toInt (by rw [l1]; omega) (by rw [l1]; omega), l1]
  by_cases c : h < 5
  · rw [if_pos c]
    rw [sn_lt, l5] at c
    by_cases c2 : h + 1 < (5 : Int32)
    · rw [if_pos c2]
    · rw [if_neg c2, sn_eq, e]; rw [sn_lt, e] at c2; omega
  · rw [if_neg c]
    rw [sn_lt, l5] at c
    rw [if_neg (by rw [sn_lt, e]; omega), sn_eq]
    have l0 : (0 : Int32).toInt = 0 := rfl
    rw [sn_add_toInt (by rw [l0]; omega) (by rw [l0]; omega), l0]
    omega
theorem sn_mn6_ne {v x : Int32} (h0 : 0 ≤ v.toInt) (h6 : v.toInt ≤ 600) (hx : 1 ≤ x ∧ x ≤ 200) : ¬ sn_mn6 (v + x) = 0 := by
  have l1 : (1 : Int32).toInt = 1 := rfl
  have l2 : (200 : Int32).toInt = 200 := rfl
  have h1 := hx.1
  have h2 := hx.2
  rw [sn_le, l1] at h1
  rw [sn_le, l2] at h2
  unfold sn_mn6
  by_cases h : (600 : Int32) < v + x
  · rw [if_pos h]; decide
  · rw [if_neg h]
    intro e
    have e1 := congrArg Int32.toInt e
    rw [sn_add_toInt (by omega) (by omega)] at e1
    have e2 : v.toInt + x.toInt = 0 := e1
    omega
def sn_stF (f : Nat → Int32) (n : Nat) (x y z u : Int32) : Nat → Int32 := upd (upd (upd (upd (upd (upd f (7 + 5 * n) x) (8 + 5 * n) y) (9 + 5 * n) z) (10 + 5 * n) u) (11 + 5 * n) 0) 0 (nI (n + 1))
def sn_pkF (f : Nat → Int32) (i : Nat) (x : Int32) : Nat → Int32 :=
  upd (upd (upd f (8 + 5 * i) (sn_mn6 (f (8 + 5 * i) + x))) (7 + 5 * i) (sn_mx1 (f (7 + 5 * i) * f (8 + 5 * i) / sn_mn6 (f (8 + 5 * i) + x)))) (10 + 5 * i) (sn_hd (f (10 + 5 * i)))
def sn_sT (g : Nat → Int32) (k : Nat) (x : Int32) : Int32 := sn_mx1 (g (7 + 5 * k) * (100 - x) / 100)
def sn_s2 (g : Nat → Int32) (k : Nat) (x : Int32) : Nat → Int32 := upd (upd g (7 + 5 * k) (sn_sT g k x)) (8 + 5 * k) (sn_mn6 (g (7 + 5 * k) * g (8 + 5 * k) / sn_sT g k x))
def sn_s1 (g : Nat → Int32) (k : Nat) (x : Int32) : Nat → Int32 := if g (9 + 5 * k) = 4 then g else sn_s2 g k x
def sn_seF (f : Nat → Int32) (x : Int32) : Nat → Nat → Int32
  | 0 => f
  | k + 1 => sn_s1 (sn_seF f x k) k x
def sn_mlN (f : Nat → Int32) : Nat → Int32 → Nat
  | 0, _ => 0
  | k + 1, r => if f (7 + 5 * k) ≤ r then sn_mlN f k (r - f (7 + 5 * k)) else k + 1
def sn_mlR (f : Nat → Int32) : Nat → Int32 → Int32
  | 0, r => r
  | k + 1, r => if f (7 + 5 * k) ≤ r then sn_mlR f k (r - f (7 + 5 * k)) else r
def sn_mlE (f : Nat → Int32) (k : Nat) (r : Int32) : Nat → Int32 := if k = 0 then upd f 0 (nI 0) else upd (upd f 0 (nI k)) (7 + 5 * (k - 1)) (f (7 + 5 * (k - 1)) - r)
def sn_mlF (f : Nat → Int32) (n : Nat) (x : Int32) : Nat → Int32 := sn_mlE f (sn_mlN f n x) (sn_mlR f n x)
theorem sn_mlN_y {f : Nat → Int32} {k : Nat} {r : Int32} (hk : 0 < k) (h : f (7 + 5 * (k - 1)) ≤ r) : sn_mlN f k r = sn_mlN f (k - 1) (r - f (7 + 5 * (k - 1))) := by
  obtain ⟨j, rfl⟩ : ∃ j, k = j + 1 := ⟨k - 1, by omega⟩
  exact if_pos h
theorem sn_mlR_y {f : Nat → Int32} {k : Nat} {r : Int32} (hk : 0 < k) (h : f (7 + 5 * (k - 1)) ≤ r) : sn_mlR f k r = sn_mlR f (k - 1) (r - f (7 + 5 * (k - 1))) := by
  obtain ⟨j, rfl⟩ : ∃ j, k = j + 1 := ⟨k - 1, by omega⟩
  exact if_pos h
theorem sn_mlN_n {f : Nat → Int32} {k : Nat} {r : Int32} (hk : 0 < k) (h : ¬ f (7 + 5 * (k - 1)) ≤ r) : sn_mlN f k r = k := by
  obtain ⟨j, rfl⟩ : ∃ j, k = j + 1 := ⟨k - 1, by omega⟩
  exact if_neg h
theorem sn_mlR_n {f : Nat → Int32} {k : Nat} {r : Int32} (hk : 0 < k) (h : ¬ f (7 + 5 * (k - 1)) ≤ r) : sn_mlR f k r = r := by
  obtain ⟨j, rfl⟩ : ∃ j, k = j + 1 := ⟨k - 1, by omega⟩
  exact if_neg h
theorem sn_mlN_le (f : Nat → Int32) : ∀ (k : Nat) (r : Int32), sn_mlN f k r ≤ k
  | 0, _ => Nat.le_refl 0
  | k + 1, r => by
    show (if f (7 + 5 * k) ≤ r then sn_mlN f k (r - f (7 + 5 * k)) else k + 1) ≤ k + 1
    have := sn_mlN_le f k (r - f (7 + 5 * k))
    split <;> omega
def sn_weF : (Nat → Int32) → Nat → Nat → Int32
  | g, 0 => g
  | g, j + 1 => if g (9 + 5 * j) = 4 then g else sn_weF (upd g (11 + 5 * j) 1) j
def sn_f2 (g : Nat → Int32) (k : Nat) : Nat → Int32 := upd (upd (upd g (9 + 5 * k) 4) (10 + 5 * k) 5) (11 + 5 * k) 0
def sn_f1 (g : Nat → Int32) (k : Nat) : Nat → Int32 := if g (11 + 5 * k) = 0 then g else sn_f2 g k
def sn_frF (f : Nat → Int32) : Nat → Nat → Int32
  | 0 => f
  | k + 1 => sn_f1 (sn_frF f k) k
def sn_frC (f : Nat → Int32) : Nat → Nat
  | 0 => 0
  | k + 1 => sn_frC f k + (if sn_frF f k (11 + 5 * k) = 0 then 0 else 1)
theorem sn_s1_0 (g : Nat → Int32) (k : Nat) (x : Int32) : sn_s1 g k x 0 = g 0 := by
  unfold sn_s1 sn_s2
  split
  · rfl
  · rw [pk_un (by omega), pk_un (by omega)]
theorem sn_seF_0 (f : Nat → Int32) (x : Int32) : ∀ k, sn_seF f x k 0 = f 0
  | 0 => rfl
  | k + 1 => (sn_s1_0 _ k x).trans (sn_seF_0 f x k)
theorem sn_f1_0 (g : Nat → Int32) (k : Nat) : sn_f1 g k 0 = g 0 := by
  unfold sn_f1 sn_f2
  split
  · rfl
  · rw [pk_un (by omega), pk_un (by omega), pk_un (by omega)]
theorem sn_frF_0 (f : Nat → Int32) : ∀ k, sn_frF f k 0 = f 0
  | 0 => rfl
  | k + 1 => (sn_f1_0 _ k).trans (sn_frF_0 f k)
theorem sn_upd_same {f : Nat → Int32} {k : Nat} {x : Int32} (h : f k = x) : upd f k x = f := by
  funext j
  unfold upd
  split
  · rename_i e; rw [e]; exact h.symm
  · rfl
theorem sn_upd_twice (f : Nat → Int32) (k : Nat) (x y : Int32) : upd (upd f k x) k y = upd f k y := by
  funext j
  unfold upd
  split <;> rfl
end
section
set_option maxRecDepth 100000 in
set_option maxHeartbeats 4000000 in
theorem ct_X0_addTop (l : Launch) (D : va_G) (cI cZ cR : ClassId) (a : Nat → Nat) (f : Nat → Int32) (n : Nat) (hI : sn_I f n) (hn : n < 10) (x y z u : Int32) (sz : Nat) : sn_Up l yX0_addTop wsX0_addTop 0 0 0 [.ref (a 0), .int x, .int y, .int z, .int u] D (sn_ty cI cZ cR) (sn_wC cI cZ a f) sz (fun u_ : Nat → Int32 => u_ = sn_stF f n x y z u) (fun u_ => nI n) (fun u_ => sn_wC cI cZ a u_) := by
  refine sn_up (cc := cX0_addTop) (maxL := 6) (ret := (some .int)) (by decide) rfl (Nat.le_of_ble_eq_true rfl) ?_
  intro p e s m below meth c A hx hb hml hr hlk hts hown hA hF0 hK hN H locs hP hD hS ls hl
  have hC : CallFix p m c cX0_addTop 6 s [.ref (a 0), .int x, .int y, .int z, .int u].toArray wsX0_addTop RX0 := ⟨hx, hb, hml, hown, hts⟩
  have hl : lv_has ls 6 [(0, .ref (a 0)), (1, .int x), (2, .int y), (3, .int z), (4, .int u)] := hl
  have huX0 : ∀ w ∈ wsX00, w ∈ wsX0_addTop := by decide +kernel
  refine lv_aload_n hx hb dX0_addTop_0 rfl (lv_at hl 0 rfl) ?_
  refine va_get (D := D) (ci := 0) (v := .int (f 0)) (C := RX0) (T := TX0) (N := 8) hx hb hts huX0 hown hK hP 0 rfl rfl 0 (by decide) (hts (.fieldLink RX0 9 "SnowSlabs$Cover" "size" "I") (by decide +kernel)) (fun _ h9 => h9) rfl dX0_addTop_1 ?_
  refine sn_top (hI.1) ?_
  refine lv_istore (lv' := [(5, .int (nI n)), (0, .ref (a 0)), (1, .int x), (2, .int y), (3, .int z), (4, .int u)]) hx hb dX0_addTop_4 hl (by decide) rfl (fun ls hl => ?_)
  refine lv_aload_n hx hb dX0_addTop_6 rfl (lv_at hl 1 rfl) ?_
  refine va_get (D := D) (ci := 0) (v := .ref (a 1)) (C := RX0) (T := TX0) (N := 8) hx hb hts huX0 hown hK hP 0 rfl rfl 2 (by decide) (hts (.fieldLink RX0 18 "SnowSlabs$Cover" "thick" "[I") (by decide +kernel)) (fun _ h9 => h9) rfl dX0_addTop_7 ?_
  refine lv_iload hx hb dX0_addTop_10 (lv_at hl 0 rfl) ?_
  refine lv_iload_n hx hb dX0_addTop_12 rfl (lv_at hl 2 rfl) ?_
  refine sn_ist (k := n) 1 0 hx hb hK hP hD hS rfl rfl (by omega) (by decide) rfl dX0_addTop_13 (fun H locs hP hD hS => ?_)
  have hP : va_P D vwCl ([(a 0, .inr (0, [.int (f 0), .int (f 1), .ref (a 1), .ref (a 2), .ref (a 3), .ref (a 4), .ref (a 5), .ref (a 6)])), (a 1, .inl (cI, 10, .inl (upd (fun z_ => f (7 + 5 * z_)) n x))), (a 2, .inl (cI, 10, .inl (fun z_ => f (8 + 5 * z_)))), (a 3, .inl (cI, 10, .inl (fun z_ => f (9 + 5 * z_)))), (a 4, .inl (cI, 10, .inl (fun z_ => f (10 + 5 * z_)))), (a 5, .inl (cZ, 10, .inl (fun z_ => f (11 + 5 * z_)))), (a 6, .inl (cI, 5, .inl (fun z_ => f (2 + z_))))]) H := hP
  have hD : va_D A ([(a 0, .inr (0, [.int (f 0), .int (f 1), .ref (a 1), .ref (a 2), .ref (a 3), .ref (a 4), .ref (a 5), .ref (a 6)])), (a 1, .inl (cI, 10, .inl (upd (fun z_ => f (7 + 5 * z_)) n x))), (a 2, .inl (cI, 10, .inl (fun z_ => f (8 + 5 * z_)))), (a 3, .inl (cI, 10, .inl (fun z_ => f (9 + 5 * z_)))), (a 4, .inl (cI, 10, .inl (fun z_ => f (10 + 5 * z_)))), (a 5, .inl (cZ, 10, .inl (fun z_ => f (11 + 5 * z_)))), (a 6, .inl (cI, 5, .inl (fun z_ => f (2 + z_))))]) := hD
  refine lv_aload_n hx hb dX0_addTop_14 rfl (lv_at hl 1 rfl) ?_
  refine va_get (D := D) (ci := 0) (v := .ref (a 2)) (C := RX0) (T := TX0) (N := 8) hx hb hts huX0 hown hK hP 0 rfl rfl 3 (by decide) (hts (.fieldLink RX0 22 "SnowSlabs$Cover" "dense" "[I") (by decide +kernel)) (fun _ h9 => h9) rfl dX0_addTop_15 ?_
  refine lv_iload hx hb dX0_addTop_18 (lv_at hl 0 rfl) ?_
  refine lv_iload_n hx hb dX0_addTop_20 rfl (lv_at hl 3 rfl) ?_
  refine sn_ist (k := n) 2 0 hx hb hK hP hD hS rfl rfl (by omega) (by decide) rfl dX0_addTop_21 (fun H locs hP hD hS => ?_)
  have hP : va_P D vwCl ([(a 0, .inr (0, [.int (f 0), .int (f 1), .ref (a 1), .ref (a 2), .ref (a 3), .ref (a 4), .ref (a 5), .ref (a 6)])), (a 1, .inl (cI, 10, .inl (upd (fun z_ => f (7 + 5 * z_)) n x))), (a 2, .inl (cI, 10, .inl (upd (fun z_ => f (8 + 5 * z_)) n y))), (a 3, .inl (cI, 10, .inl (fun z_ => f (9 + 5 * z_)))), (a 4, .inl (cI, 10, .inl (fun z_ => f (10 + 5 * z_)))), (a 5, .inl (cZ, 10, .inl (fun z_ => f (11 + 5 * z_)))), (a 6, .inl (cI, 5, .inl (fun z_ => f (2 + z_))))]) H := hP
  have hD : va_D A ([(a 0, .inr (0, [.int (f 0), .int (f 1), .ref (a 1), .ref (a 2), .ref (a 3), .ref (a 4), .ref (a 5), .ref (a 6)])), (a 1, .inl (cI, 10, .inl (upd (fun z_ => f (7 + 5 * z_)) n x))), (a 2, .inl (cI, 10, .inl (upd (fun z_ => f (8 + 5 * z_)) n y))), (a 3, .inl (cI, 10, .inl (fun z_ => f (9 + 5 * z_)))), (a 4, .inl (cI, 10, .inl (fun z_ => f (10 + 5 * z_)))), (a 5, .inl (cZ, 10, .inl (fun z_ => f (11 + 5 * z_)))), (a 6, .inl (cI, 5, .inl (fun z_ => f (2 + z_))))]) := hD
  refine lv_aload_n hx hb dX0_addTop_22 rfl (lv_at hl 1 rfl) ?_
  refine va_get (D := D) (ci := 0) (v := .ref (a 3)) (C := RX0) (T := TX0) (N := 8) hx hb hts huX0 hown hK hP 0 rfl rfl 4 (by decide) (hts (.fieldLink RX0 25 "SnowSlabs$Cover" "grain" "[I") (by decide +kernel)) (fun _ h9 => h9) rfl dX0_addTop_23 ?_
  refine lv_iload hx hb dX0_addTop_26 (lv_at hl 0 rfl) ?_
  refine lv_iload_n hx hb dX0_addTop_28 rfl (lv_at hl 4 rfl) ?_
  refine sn_ist (k := n) 3 0 hx hb hK hP hD hS rfl rfl (by omega) (by decide) rfl dX0_addTop_29 (fun H locs hP hD hS => ?_)
  have hP : va_P D vwCl ([(a 0, .inr (0, [.int (f 0), .int (f 1), .ref (a 1), .ref (a 2), .ref (a 3), .ref (a 4), .ref (a 5), .ref (a 6)])), (a 1, .inl (cI, 10, .inl (upd (fun z_ => f (7 + 5 * z_)) n x))), (a 2, .inl (cI, 10, .inl (upd (fun z_ => f (8 + 5 * z_)) n y))), (a 3, .inl (cI, 10, .inl (upd (fun z_ => f (9 + 5 * z_)) n z))), (a 4, .inl (cI, 10, .inl (fun z_ => f (10 + 5 * z_)))), (a 5, .inl (cZ, 10, .inl (fun z_ => f (11 + 5 * z_)))), (a 6, .inl (cI, 5, .inl (fun z_ => f (2 + z_))))]) H := hP
  have hD : va_D A ([(a 0, .inr (0, [.int (f 0), .int (f 1), .ref (a 1), .ref (a 2), .ref (a 3), .ref (a 4), .ref (a 5), .ref (a 6)])), (a 1, .inl (cI, 10, .inl (upd (fun z_ => f (7 + 5 * z_)) n x))), (a 2, .inl (cI, 10, .inl (upd (fun z_ => f (8 + 5 * z_)) n y))), (a 3, .inl (cI, 10, .inl (upd (fun z_ => f (9 + 5 * z_)) n z))), (a 4, .inl (cI, 10, .inl (fun z_ => f (10 + 5 * z_)))), (a 5, .inl (cZ, 10, .inl (fun z_ => f (11 + 5 * z_)))), (a 6, .inl (cI, 5, .inl (fun z_ => f (2 + z_))))]) := hD
  refine lv_aload_n hx hb dX0_addTop_30 rfl (lv_at hl 1 rfl) ?_
  refine va_get (D := D) (ci := 0) (v := .ref (a 4)) (C := RX0) (T := TX0) (N := 8) hx hb hts huX0 hown hK hP 0 rfl rfl 5 (by decide) (hts (.fieldLink RX0 28 "SnowSlabs$Cover" "hard" "[I") (by decide +kernel)) (fun _ h9 => h9) rfl dX0_addTop_31 ?_
  refine lv_iload hx hb dX0_addTop_34 (lv_at hl 0 rfl) ?_
  refine lv_iload hx hb dX0_addTop_36 (lv_at hl 5 rfl) ?_
  refine sn_ist (k := n) 4 0 hx hb hK hP hD hS rfl rfl (by omega) (by decide) rfl dX0_addTop_38 (fun H locs hP hD hS => ?_)
  have hP : va_P D vwCl ([(a 0, .inr (0, [.int (f 0), .int (f 1), .ref (a 1), .ref (a 2), .ref (a 3), .ref (a 4), .ref (a 5), .ref (a 6)])), (a 1, .inl (cI, 10, .inl (upd (fun z_ => f (7 + 5 * z_)) n x))), (a 2, .inl (cI, 10, .inl (upd (fun z_ => f (8 + 5 * z_)) n y))), (a 3, .inl (cI, 10, .inl (upd (fun z_ => f (9 + 5 * z_)) n z))), (a 4, .inl (cI, 10, .inl (upd (fun z_ => f (10 + 5 * z_)) n u))), (a 5, .inl (cZ, 10, .inl (fun z_ => f (11 + 5 * z_)))), (a 6, .inl (cI, 5, .inl (fun z_ => f (2 + z_))))]) H := hP
  have hD : va_D A ([(a 0, .inr (0, [.int (f 0), .int (f 1), .ref (a 1), .ref (a 2), .ref (a 3), .ref (a 4), .ref (a 5), .ref (a 6)])), (a 1, .inl (cI, 10, .inl (upd (fun z_ => f (7 + 5 * z_)) n x))), (a 2, .inl (cI, 10, .inl (upd (fun z_ => f (8 + 5 * z_)) n y))), (a 3, .inl (cI, 10, .inl (upd (fun z_ => f (9 + 5 * z_)) n z))), (a 4, .inl (cI, 10, .inl (upd (fun z_ => f (10 + 5 * z_)) n u))), (a 5, .inl (cZ, 10, .inl (fun z_ => f (11 + 5 * z_)))), (a 6, .inl (cI, 5, .inl (fun z_ => f (2 + z_))))]) := hD
  refine lv_aload_n hx hb dX0_addTop_39 rfl (lv_at hl 1 rfl) ?_
  refine va_get (D := D) (ci := 0) (v := .ref (a 5)) (C := RX0) (T := TX0) (N := 8) hx hb hts huX0 hown hK hP 0 rfl rfl 6 (by decide) (hts (.fieldLink RX0 31 "SnowSlabs$Cover" "wet" "[Z") (by decide +kernel)) (fun _ h9 => h9) rfl dX0_addTop_40 ?_
  refine lv_iload hx hb dX0_addTop_43 (lv_at hl 0 rfl) ?_
  refine lv_iconst (v := 0) hx hb dX0_addTop_45 (by decide) ?_
  refine sn_zst (k := n) 5 1 hx hb hK hP hD hS rfl rfl (by omega) (by decide) rfl (by decide) dX0_addTop_46 (fun H locs hP hD hS => ?_)
  have hP : va_P D vwCl ([(a 0, .inr (0, [.int (f 0), .int (f 1), .ref (a 1), .ref (a 2), .ref (a 3), .ref (a 4), .ref (a 5), .ref (a 6)])), (a 1, .inl (cI, 10, .inl (upd (fun z_ => f (7 + 5 * z_)) n x))), (a 2, .inl (cI, 10, .inl (upd (fun z_ => f (8 + 5 * z_)) n y))), (a 3, .inl (cI, 10, .inl (upd (fun z_ => f (9 + 5 * z_)) n z))), (a 4, .inl (cI, 10, .inl (upd (fun z_ => f (10 + 5 * z_)) n u))), (a 5, .inl (cZ, 10, .inl (upd (fun z_ => f (11 + 5 * z_)) n 0))), (a 6, .inl (cI, 5, .inl (fun z_ => f (2 + z_))))]) H := hP
  have hD : va_D A ([(a 0, .inr (0, [.int (f 0), .int (f 1), .ref (a 1), .ref (a 2), .ref (a 3), .ref (a 4), .ref (a 5), .ref (a 6)])), (a 1, .inl (cI, 10, .inl (upd (fun z_ => f (7 + 5 * z_)) n x))), (a 2, .inl (cI, 10, .inl (upd (fun z_ => f (8 + 5 * z_)) n y))), (a 3, .inl (cI, 10, .inl (upd (fun z_ => f (9 + 5 * z_)) n z))), (a 4, .inl (cI, 10, .inl (upd (fun z_ => f (10 + 5 * z_)) n u))), (a 5, .inl (cZ, 10, .inl (upd (fun z_ => f (11 + 5 * z_)) n 0))), (a 6, .inl (cI, 5, .inl (fun z_ => f (2 + z_))))]) := hD
  refine lv_aload_n hx hb dX0_addTop_47 rfl (lv_at hl 1 rfl) ?_
  refine lv_iload hx hb dX0_addTop_48 (lv_at hl 0 rfl) ?_
  refine lv_iconst (v := 1) hx hb dX0_addTop_50 (by decide) ?_
  refine lv_iadd hx hb dX0_addTop_51 ?_
  refine sn_top (sn_nadd (a := n) (b := 1) rfl rfl) ?_
  refine va_put (D := D) (ci := 0) (v := .int (nI (n + 1))) (ty := .int) (C := RX0) (T := TX0) (N := 8) hx hb hts huX0 tyX0 tyX0_ok nmX0 hown hK hP hD hS 0 rfl rfl 0 (by decide) (hts (.fieldLink RX0 9 "SnowSlabs$Cover" "size" "I") (by decide +kernel)) (fun _ h9 => h9) rfl (by decide +kernel) rfl rfl (Nat.le_of_ble_eq_true rfl) dX0_addTop_52 (fun H locs hP hD hS => ?_)
  have hP : va_P D vwCl ([(a 0, .inr (0, [.int (nI (n + 1)), .int (f 1), .ref (a 1), .ref (a 2), .ref (a 3), .ref (a 4), .ref (a 5), .ref (a 6)])), (a 1, .inl (cI, 10, .inl (upd (fun z_ => f (7 + 5 * z_)) n x))), (a 2, .inl (cI, 10, .inl (upd (fun z_ => f (8 + 5 * z_)) n y))), (a 3, .inl (cI, 10, .inl (upd (fun z_ => f (9 + 5 * z_)) n z))), (a 4, .inl (cI, 10, .inl (upd (fun z_ => f (10 + 5 * z_)) n u))), (a 5, .inl (cZ, 10, .inl (upd (fun z_ => f (11 + 5 * z_)) n 0))), (a 6, .inl (cI, 5, .inl (fun z_ => f (2 + z_))))]) H := hP
  have hD : va_D A ([(a 0, .inr (0, [.int (nI (n + 1)), .int (f 1), .ref (a 1), .ref (a 2), .ref (a 3), .ref (a 4), .ref (a 5), .ref (a 6)])), (a 1, .inl (cI, 10, .inl (upd (fun z_ => f (7 + 5 * z_)) n x))), (a 2, .inl (cI, 10, .inl (upd (fun z_ => f (8 + 5 * z_)) n y))), (a 3, .inl (cI, 10, .inl (upd (fun z_ => f (9 + 5 * z_)) n z))), (a 4, .inl (cI, 10, .inl (upd (fun z_ => f (10 + 5 * z_)) n u))), (a 5, .inl (cZ, 10, .inl (upd (fun z_ => f (11 + 5 * z_)) n 0))), (a 6, .inl (cI, 5, .inl (fun z_ => f (2 + z_))))]) := hD
  refine lv_iload hx hb dX0_addTop_55 (lv_at hl 0 rfl) ?_
  have hE : sn_eW ([(a 0, .inr (0, [.int (nI (n + 1)), .int (f 1), .ref (a 1), .ref (a 2), .ref (a 3), .ref (a 4), .ref (a 5), .ref (a 6)])), (a 1, .inl (cI, 10, .inl (upd (fun z_ => f (7 + 5 * z_)) n x))), (a 2, .inl (cI, 10, .inl (upd (fun z_ => f (8 + 5 * z_)) n y))), (a 3, .inl (cI, 10, .inl (upd (fun z_ => f (9 + 5 * z_)) n z))), (a 4, .inl (cI, 10, .inl (upd (fun z_ => f (10 + 5 * z_)) n u))), (a 5, .inl (cZ, 10, .inl (upd (fun z_ => f (11 + 5 * z_)) n 0))), (a 6, .inl (cI, 5, .inl (fun z_ => f (2 + z_))))]) (sn_wC cI cZ a (sn_stF f n x y z u)) := sn_eC (sn_eOb (by (simp only [sn_stF, upd]) <;> (repeat' split) <;> first | rfl | omega | (simp_all; done) | (exfalso; simp_all; done)) (by (simp only [sn_stF, upd]) <;> (repeat' split) <;> first | rfl | omega | (simp_all; done) | (exfalso; simp_all; done))) (sn_eC (sn_eI (fun z_ hz => by (simp only [sn_stF, upd]) <;> (repeat' split) <;> first | rfl | omega | (simp_all; done) | (exfalso; simp_all; done))) (sn_eC (sn_eI (fun z_ hz => by (simp only [sn_stF, upd]) <;> (repeat' split) <;> first | rfl | omega | (simp_all; done) | (exfalso; simp_all; done))) (sn_eC (sn_eI (fun z_ hz => by (simp only [sn_stF, upd]) <;> (repeat' split) <;> first | rfl | omega | (simp_all; done) | (exfalso; simp_all; done))) (sn_eC (sn_eI (fun z_ hz => by (simp only [sn_stF, upd]) <;> (repeat' split) <;> first | rfl | omega | (simp_all; done) | (exfalso; simp_all; done))) (sn_eC (sn_eI (fun z_ hz => by (simp only [sn_stF, upd]) <;> (repeat' split) <;> first | rfl | omega | (simp_all; done) | (exfalso; simp_all; done))) (sn_eC (sn_eI (fun z_ hz => by (simp only [sn_stF, upd]) <;> (repeat' split) <;> first | rfl | omega | (simp_all; done) | (exfalso; simp_all; done))) (sn_eN)))))))
  exact sn_uret (sn_stF f n x y z u) hx hb hr hlk dX0_addTop_57 (hE.P hP) (hE.D hD) hS (rfl) (rfl) (Nat.le_of_ble_eq_true rfl) (Nat.le_of_ble_eq_true rfl)
set_option maxRecDepth 100000 in
set_option maxHeartbeats 4000000 in
theorem ct_X0_packTop (l : Launch) (D : va_G) (cI cZ cR : ClassId) (a : Nat → Nat) (f : Nat → Int32) (n : Nat) (hI : sn_I f n) (hn : 0 < n) (x : Int32) (hx1 : 1 ≤ x ∧ x ≤ 200) (sz : Nat) : sn_Up l yX0_packTop wsX0_packTop 1 0 0 [.ref (a 0), .int x] D (sn_ty cI cZ cR) (sn_wC cI cZ a f) sz (fun u_ : Nat → Int32 => u_ = sn_pkF f (n - 1) x) (fun u_ => sn_hd (f (10 + 5 * (n - 1)))) (fun u_ => sn_wC cI cZ a u_) := by
  refine sn_up (cc := cX0_packTop) (maxL := 4) (ret := (some .int)) (by decide) rfl (Nat.le_of_ble_eq_true rfl) ?_
  intro p e s m below meth c A hx hb hml hr hlk hts hown hA hF0 hK hN H locs hP hD hS ls hl
  have hC : CallFix p m c cX0_packTop 4 s [.ref (a 0), .int x].toArray wsX0_packTop RX0 := ⟨hx, hb, hml, hown, hts⟩
  have hl : lv_has ls 4 [(0, .ref (a 0)), (1, .int x)] := hl
  have huX0 : ∀ w ∈ wsX00, w ∈ wsX0_packTop := by decide +kernel
  have hn10 := hI.2.1
  have hL := hI.2.2.2 (n - 1) (by omega)
  refine lv_aload_n hx hb dX0_packTop_0 rfl (lv_at hl 0 rfl) ?_
  refine va_get (D := D) (ci := 0) (v := .int (f 0)) (C := RX0) (T := TX0) (N := 8) hx hb hts huX0 hown hK hP 0 rfl rfl 0 (by decide) (hts (.fieldLink RX0 9 "SnowSlabs$Cover" "size" "I") (by decide +kernel)) (fun _ h9 => h9) rfl dX0_packTop_1 ?_
  refine sn_top (hI.1) ?_
  refine lv_iconst (v := 1) hx hb dX0_packTop_4 (by decide) ?_
  refine lv_isub hx hb dX0_packTop_5 ?_
  refine sn_top (sn_nsub (a := n) (b := 1) rfl rfl (by omega)) ?_
  refine lv_istore_n (lv' := [(2, .int (nI (n - 1))), (0, .ref (a 0)), (1, .int x)]) hx hb dX0_packTop_6 rfl hl (by decide) rfl (fun ls hl => ?_)
  refine lv_aload_n hx hb dX0_packTop_7 rfl (lv_at hl 1 rfl) ?_
  refine va_get (D := D) (ci := 0) (v := .ref (a 2)) (C := RX0) (T := TX0) (N := 8) hx hb hts huX0 hown hK hP 0 rfl rfl 3 (by decide) (hts (.fieldLink RX0 22 "SnowSlabs$Cover" "dense" "[I") (by decide +kernel)) (fun _ h9 => h9) rfl dX0_packTop_8 ?_
  refine lv_iload_n hx hb dX0_packTop_11 rfl (lv_at hl 0 rfl) ?_
  refine sn_ild (k := n - 1) (v := f (8 + 5 * (n - 1))) 2 0 hx hb hK hP rfl rfl (by omega) (by decide) rfl (rfl) dX0_packTop_12 ?_
  refine lv_istore_n (lv' := [(3, .int (f (8 + 5 * (n - 1)))), (2, .int (nI (n - 1))), (0, .ref (a 0)), (1, .int x)]) hx hb dX0_packTop_13 rfl hl (by decide) rfl (fun ls hl => ?_)
  refine lv_aload_n hx hb dX0_packTop_14 rfl (lv_at hl 2 rfl) ?_
  refine va_get (D := D) (ci := 0) (v := .ref (a 2)) (C := RX0) (T := TX0) (N := 8) hx hb hts huX0 hown hK hP 0 rfl rfl 3 (by decide) (hts (.fieldLink RX0 22 "SnowSlabs$Cover" "dense" "[I") (by decide +kernel)) (fun _ h9 => h9) rfl dX0_packTop_15 ?_
  refine lv_iload_n hx hb dX0_packTop_18 rfl (lv_at hl 1 rfl) ?_
  refine lv_sipush (v := 600) hx hb dX0_packTop_19 (by decide) ?_
  refine lv_iload_n hx hb dX0_packTop_22 rfl (lv_at hl 0 rfl) ?_
  refine lv_iload_n hx hb dX0_packTop_23 rfl (lv_at hl 3 rfl) ?_
  refine lv_iadd hx hb dX0_packTop_24 ?_
  refine va_mmin hx hb (hml.trans hl.1.symm) hown (hts (.methodLink RX0 86 Lib.Math.min.name) (by decide +kernel)) (hts (.static Lib.Math.min.name) (by decide +kernel)) (hts (.initialized "java/lang/Math") (by decide +kernel)) (hts (.code Lib.Math.min.name Lib.Math.min.code 2 (some .int)) (by decide +kernel)) (Nat.le_of_ble_eq_true rfl) (Nat.le_of_ble_eq_true rfl) (Nat.zero_le _) (Nat.zero_le _) dX0_packTop_25 ?_
  refine sn_top (y := sn_mn6 (f (8 + 5 * (n - 1)) + x)) (sn_min6 _) ?_
  refine sn_ist (k := n - 1) 2 0 hx hb hK hP hD hS rfl rfl (by omega) (by decide) rfl dX0_packTop_28 (fun H locs hP hD hS => ?_)
  have hP : va_P D vwCl ([(a 0, .inr (0, [.int (f 0), .int (f 1), .ref (a 1), .ref (a 2), .ref (a 3), .ref (a 4), .ref (a 5), .ref (a 6)])), (a 1, .inl (cI, 10, .inl (fun z_ => f (7 + 5 * z_)))), (a 2, .inl (cI, 10, .inl (upd (fun z_ => f (8 + 5 * z_)) (n - 1) (sn_mn6 (f (8 + 5 * (n - 1)) + x))))), (a 3, .inl (cI, 10, .inl (fun z_ => f (9 + 5 * z_)))), (a 4, .inl (cI, 10, .inl (fun z_ => f (10 + 5 * z_)))), (a 5, .inl (cZ, 10, .inl (fun z_ => f (11 + 5 * z_)))), (a 6, .inl (cI, 5, .inl (fun z_ => f (2 + z_))))]) H := hP
  have hD : va_D A ([(a 0, .inr (0, [.int (f 0), .int (f 1), .ref (a 1), .ref (a 2), .ref (a 3), .ref (a 4), .ref (a 5), .ref (a 6)])), (a 1, .inl (cI, 10, .inl (fun z_ => f (7 + 5 * z_)))), (a 2, .inl (cI, 10, .inl (upd (fun z_ => f (8 + 5 * z_)) (n - 1) (sn_mn6 (f (8 + 5 * (n - 1)) + x))))), (a 3, .inl (cI, 10, .inl (fun z_ => f (9 + 5 * z_)))), (a 4, .inl (cI, 10, .inl (fun z_ => f (10 + 5 * z_)))), (a 5, .inl (cZ, 10, .inl (fun z_ => f (11 + 5 * z_)))), (a 6, .inl (cI, 5, .inl (fun z_ => f (2 + z_))))]) := hD
  refine lv_aload_n hx hb dX0_packTop_29 rfl (lv_at hl 2 rfl) ?_
  refine va_get (D := D) (ci := 0) (v := .ref (a 1)) (C := RX0) (T := TX0) (N := 8) hx hb hts huX0 hown hK hP 0 rfl rfl 2 (by decide) (hts (.fieldLink RX0 18 "SnowSlabs$Cover" "thick" "[I") (by decide +kernel)) (fun _ h9 => h9) rfl dX0_packTop_30 ?_
  refine lv_iload_n hx hb dX0_packTop_33 rfl (lv_at hl 1 rfl) ?_
  refine lv_iconst (v := 1) hx hb dX0_packTop_34 (by decide) ?_
  refine lv_aload_n hx hb dX0_packTop_35 rfl (lv_at hl 2 rfl) ?_
  refine va_get (D := D) (ci := 0) (v := .ref (a 1)) (C := RX0) (T := TX0) (N := 8) hx hb hts huX0 hown hK hP 0 rfl rfl 2 (by decide) (hts (.fieldLink RX0 18 "SnowSlabs$Cover" "thick" "[I") (by decide +kernel)) (fun _ h9 => h9) rfl dX0_packTop_36 ?_
  refine lv_iload_n hx hb dX0_packTop_39 rfl (lv_at hl 1 rfl) ?_
  refine sn_ild (k := n - 1) (v := f (7 + 5 * (n - 1))) 1 0 hx hb hK hP rfl rfl (by omega) (by decide) rfl (rfl) dX0_packTop_40 ?_
  refine lv_iload_n hx hb dX0_packTop_41 rfl (lv_at hl 0 rfl) ?_
  refine lv_imul hx hb dX0_packTop_42 ?_
  refine lv_aload_n hx hb dX0_packTop_43 rfl (lv_at hl 2 rfl) ?_
  refine va_get (D := D) (ci := 0) (v := .ref (a 2)) (C := RX0) (T := TX0) (N := 8) hx hb hts huX0 hown hK hP 0 rfl rfl 3 (by decide) (hts (.fieldLink RX0 22 "SnowSlabs$Cover" "dense" "[I") (by decide +kernel)) (fun _ h9 => h9) rfl dX0_packTop_44 ?_
  refine lv_iload_n hx hb dX0_packTop_47 rfl (lv_at hl 1 rfl) ?_
  refine sn_ild (k := n - 1) (v := sn_mn6 (f (8 + 5 * (n - 1)) + x)) 2 0 hx hb hK hP rfl rfl (by omega) (by decide) rfl (pk_us) dX0_packTop_48 ?_
  refine sn_cN 2 hC hl (ct_X3_cut l D _ [] ((f (7 + 5 * (n - 1))) * (f (8 + 5 * (n - 1)))) (sn_mn6 (f (8 + 5 * (n - 1)) + x)) (sn_mn6_ne hL.2.1.1 hL.2.1.2 hx1)) gX0_packTop_X3_cut_n63 rfl hN.2.1 (hts (.initialized RX3) (by decide +kernel)) (hts (.static yX3_cut) (by decide +kernel)) (by decide +kernel) rfl ⟨Nat.le_of_ble_eq_true rfl, Nat.le_of_ble_eq_true rfl⟩ ⟨Nat.zero_le _, Nat.zero_le _⟩ (fun _ _ h => by simp at h) hK hN rfl (Nat.le_of_ble_eq_true rfl) dX0_packTop_49 ?_
  refine va_mmax hx hb (hml.trans hl.1.symm) hown (hts (.methodLink RX0 91 Lib.Math.max.name) (by decide +kernel)) (hts (.static Lib.Math.max.name) (by decide +kernel)) (hts (.initialized "java/lang/Math") (by decide +kernel)) (hts (.code Lib.Math.max.name Lib.Math.max.code 2 (some .int)) (by decide +kernel)) (Nat.le_of_ble_eq_true rfl) (Nat.le_of_ble_eq_true rfl) (Nat.zero_le _) (Nat.zero_le _) dX0_packTop_52 ?_
  refine sn_top (y := sn_mx1 (f (7 + 5 * (n - 1)) * f (8 + 5 * (n - 1)) / sn_mn6 (f (8 + 5 * (n - 1)) + x))) (sn_max1 _) ?_
  refine sn_ist (k := n - 1) 1 0 hx hb hK hP hD hS rfl rfl (by omega) (by decide) rfl dX0_packTop_55 (fun H locs hP hD hS => ?_)
  have hP : va_P D vwCl ([(a 0, .inr (0, [.int (f 0), .int (f 1), .ref (a 1), .ref (a 2), .ref (a 3), .ref (a 4), .ref (a 5), .ref (a 6)])), (a 1, .inl (cI, 10, .inl (upd (fun z_ => f (7 + 5 * z_)) (n - 1) (sn_mx1 (f (7 + 5 * (n - 1)) * f (8 + 5 * (n - 1)) / sn_mn6 (f (8 + 5 * (n - 1)) + x)))))), (a 2, .inl (cI, 10, .inl (upd (fun z_ => f (8 + 5 * z_)) (n - 1) (sn_mn6 (f (8 + 5 * (n - 1)) + x))))), (a 3, .inl (cI, 10, .inl (fun z_ => f (9 + 5 * z_)))), (a 4, .inl (cI, 10, .inl (fun z_ => f (10 + 5 * z_)))), (a 5, .inl (cZ, 10, .inl (fun z_ => f (11 + 5 * z_)))), (a 6, .inl (cI, 5, .inl (fun z_ => f (2 + z_))))]) H := hP
  have hD : va_D A ([(a 0, .inr (0, [.int (f 0), .int (f 1), .ref (a 1), .ref (a 2), .ref (a 3), .ref (a 4), .ref (a 5), .ref (a 6)])), (a 1, .inl (cI, 10, .inl (upd (fun z_ => f (7 + 5 * z_)) (n - 1) (sn_mx1 (f (7 + 5 * (n - 1)) * f (8 + 5 * (n - 1)) / sn_mn6 (f (8 + 5 * (n - 1)) + x)))))), (a 2, .inl (cI, 10, .inl (upd (fun z_ => f (8 + 5 * z_)) (n - 1) (sn_mn6 (f (8 + 5 * (n - 1)) + x))))), (a 3, .inl (cI, 10, .inl (fun z_ => f (9 + 5 * z_)))), (a 4, .inl (cI, 10, .inl (fun z_ => f (10 + 5 * z_)))), (a 5, .inl (cZ, 10, .inl (fun z_ => f (11 + 5 * z_)))), (a 6, .inl (cI, 5, .inl (fun z_ => f (2 + z_))))]) := hD
  refine lv_aload_n hx hb dX0_packTop_56 rfl (lv_at hl 2 rfl) ?_
  refine va_get (D := D) (ci := 0) (v := .ref (a 4)) (C := RX0) (T := TX0) (N := 8) hx hb hts huX0 hown hK hP 0 rfl rfl 5 (by decide) (hts (.fieldLink RX0 28 "SnowSlabs$Cover" "hard" "[I") (by decide +kernel)) (fun _ h9 => h9) rfl dX0_packTop_57 ?_
  refine lv_iload_n hx hb dX0_packTop_60 rfl (lv_at hl 1 rfl) ?_
  refine lv_iconst (v := 5) hx hb dX0_packTop_61 (by decide) ?_
  refine lv_aload_n hx hb dX0_packTop_62 rfl (lv_at hl 2 rfl) ?_
  refine va_get (D := D) (ci := 0) (v := .ref (a 4)) (C := RX0) (T := TX0) (N := 8) hx hb hts huX0 hown hK hP 0 rfl rfl 5 (by decide) (hts (.fieldLink RX0 28 "SnowSlabs$Cover" "hard" "[I") (by decide +kernel)) (fun _ h9 => h9) rfl dX0_packTop_63 ?_
  refine lv_iload_n hx hb dX0_packTop_66 rfl (lv_at hl 1 rfl) ?_
  refine sn_ild (k := n - 1) (v := f (10 + 5 * (n - 1))) 4 0 hx hb hK hP rfl rfl (by omega) (by decide) rfl (rfl) dX0_packTop_67 ?_
  refine lv_iconst (v := 1) hx hb dX0_packTop_68 (by decide) ?_
  refine lv_iadd hx hb dX0_packTop_69 ?_
  refine va_mmin hx hb (hml.trans hl.1.symm) hown (hts (.methodLink RX0 86 Lib.Math.min.name) (by decide +kernel)) (hts (.static Lib.Math.min.name) (by decide +kernel)) (hts (.initialized "java/lang/Math") (by decide +kernel)) (hts (.code Lib.Math.min.name Lib.Math.min.code 2 (some .int)) (by decide +kernel)) (Nat.le_of_ble_eq_true rfl) (Nat.le_of_ble_eq_true rfl) (Nat.zero_le _) (Nat.zero_le _) dX0_packTop_70 ?_
  refine sn_top (y := sn_hd (f (10 + 5 * (n - 1)))) (sn_min5 hL.2.2.2.1.1 hL.2.2.2.1.2) ?_
  refine sn_ist (k := n - 1) 4 0 hx hb hK hP hD hS rfl rfl (by omega) (by decide) rfl dX0_packTop_73 (fun H locs hP hD hS => ?_)
  have hP : va_P D vwCl ([(a 0, .inr (0, [.int (f 0), .int (f 1), .ref (a 1), .ref (a 2), .ref (a 3), .ref (a 4), .ref (a 5), .ref (a 6)])), (a 1, .inl (cI, 10, .inl (upd (fun z_ => f (7 + 5 * z_)) (n - 1) (sn_mx1 (f (7 + 5 * (n - 1)) * f (8 + 5 * (n - 1)) / sn_mn6 (f (8 + 5 * (n - 1)) + x)))))), (a 2, .inl (cI, 10, .inl (upd (fun z_ => f (8 + 5 * z_)) (n - 1) (sn_mn6 (f (8 + 5 * (n - 1)) + x))))), (a 3, .inl (cI, 10, .inl (fun z_ => f (9 + 5 * z_)))), (a 4, .inl (cI, 10, .inl (upd (fun z_ => f (10 + 5 * z_)) (n - 1) (sn_hd (f (10 + 5 * (n - 1))))))), (a 5, .inl (cZ, 10, .inl (fun z_ => f (11 + 5 * z_)))), (a 6, .inl (cI, 5, .inl (fun z_ => f (2 + z_))))]) H := hP
  have hD : va_D A ([(a 0, .inr (0, [.int (f 0), .int (f 1), .ref (a 1), .ref (a 2), .ref (a 3), .ref (a 4), .ref (a 5), .ref (a 6)])), (a 1, .inl (cI, 10, .inl (upd (fun z_ => f (7 + 5 * z_)) (n - 1) (sn_mx1 (f (7 + 5 * (n - 1)) * f (8 + 5 * (n - 1)) / sn_mn6 (f (8 + 5 * (n - 1)) + x)))))), (a 2, .inl (cI, 10, .inl (upd (fun z_ => f (8 + 5 * z_)) (n - 1) (sn_mn6 (f (8 + 5 * (n - 1)) + x))))), (a 3, .inl (cI, 10, .inl (fun z_ => f (9 + 5 * z_)))), (a 4, .inl (cI, 10, .inl (upd (fun z_ => f (10 + 5 * z_)) (n - 1) (sn_hd (f (10 + 5 * (n - 1))))))), (a 5, .inl (cZ, 10, .inl (fun z_ => f (11 + 5 * z_)))), (a 6, .inl (cI, 5, .inl (fun z_ => f (2 + z_))))]) := hD
  refine lv_aload_n hx hb dX0_packTop_74 rfl (lv_at hl 2 rfl) ?_
  refine va_get (D := D) (ci := 0) (v := .ref (a 4)) (C := RX0) (T := TX0) (N := 8) hx hb hts huX0 hown hK hP 0 rfl rfl 5 (by decide) (hts (.fieldLink RX0 28 "SnowSlabs$Cover" "hard" "[I") (by decide +kernel)) (fun _ h9 => h9) rfl dX0_packTop_75 ?_
  refine lv_iload_n hx hb dX0_packTop_78 rfl (lv_at hl 1 rfl) ?_
  refine sn_ild (k := n - 1) (v := sn_hd (f (10 + 5 * (n - 1)))) 4 0 hx hb hK hP rfl rfl (by omega) (by decide) rfl (pk_us) dX0_packTop_79 ?_
  have hE : sn_eW ([(a 0, .inr (0, [.int (f 0), .int (f 1), .ref (a 1), .ref (a 2), .ref (a 3), .ref (a 4), .ref (a 5), .ref (a 6)])), (a 1, .inl (cI, 10, .inl (upd (fun z_ => f (7 + 5 * z_)) (n - 1) (sn_mx1 (f (7 + 5 * (n - 1)) * f (8 + 5 * (n - 1)) / sn_mn6 (f (8 + 5 * (n - 1)) + x)))))), (a 2, .inl (cI, 10, .inl (upd (fun z_ => f (8 + 5 * z_)) (n - 1) (sn_mn6 (f (8 + 5 * (n - 1)) + x))))), (a 3, .inl (cI, 10, .inl (fun z_ => f (9 + 5 * z_)))), (a 4, .inl (cI, 10, .inl (upd (fun z_ => f (10 + 5 * z_)) (n - 1) (sn_hd (f (10 + 5 * (n - 1))))))), (a 5, .inl (cZ, 10, .inl (fun z_ => f (11 + 5 * z_)))), (a 6, .inl (cI, 5, .inl (fun z_ => f (2 + z_))))]) (sn_wC cI cZ a (sn_pkF f (n - 1) x)) := sn_eC (sn_eOb (by (simp only [sn_pkF, upd]) <;> (repeat' split) <;> first | rfl | omega | (simp_all; done) | (exfalso; simp_all; done)) (by (simp only [sn_pkF, upd]) <;> (repeat' split) <;> first | rfl | omega | (simp_all; done) | (exfalso; simp_all; done))) (sn_eC (sn_eI (fun z_ hz => by (simp only [sn_pkF, upd]) <;> (repeat' split) <;> first | rfl | omega | (simp_all; done) | (exfalso; simp_all; done))) (sn_eC (sn_eI (fun z_ hz => by (simp only [sn_pkF, upd]) <;> (repeat' split) <;> first | rfl | omega | (simp_all; done) | (exfalso; simp_all; done))) (sn_eC (sn_eI (fun z_ hz => by (simp only [sn_pkF, upd]) <;> (repeat' split) <;> first | rfl | omega | (simp_all; done) | (exfalso; simp_all; done))) (sn_eC (sn_eI (fun z_ hz => by (simp only [sn_pkF, upd]) <;> (repeat' split) <;> first | rfl | omega | (simp_all; done) | (exfalso; simp_all; done))) (sn_eC (sn_eI (fun z_ hz => by (simp only [sn_pkF, upd]) <;> (repeat' split) <;> first | rfl | omega | (simp_all; done) | (exfalso; simp_all; done))) (sn_eC (sn_eI (fun z_ hz => by (simp only [sn_pkF, upd]) <;> (repeat' split) <;> first | rfl | omega | (simp_all; done) | (exfalso; simp_all; done))) (sn_eN)))))))
  exact sn_uret (sn_pkF f (n - 1) x) hx hb hr hlk dX0_packTop_80 (hE.P hP) (hE.D hD) hS (rfl) (rfl) (Nat.le_of_ble_eq_true rfl) (Nat.le_of_ble_eq_true rfl)
set_option maxRecDepth 100000 in
set_option maxHeartbeats 4000000 in
theorem ct_X0_settleAll (l : Launch) (D : va_G) (cI cZ cR : ClassId) (a : Nat → Nat) (f : Nat → Int32) (n : Nat) (hI : sn_I f n) (x : Int32) (sz : Nat) : sn_Uv l yX0_settleAll wsX0_settleAll 1 0 0 [.ref (a 0), .int x] D (sn_ty cI cZ cR) (sn_wC cI cZ a f) sz (fun u_ : Nat → Int32 => u_ = sn_seF f x n) (fun u_ => sn_wC cI cZ a u_) := by
  refine sn_uv (cc := cX0_settleAll) (maxL := 4) (ret := none) (by decide) rfl (Nat.le_of_ble_eq_true rfl) ?_
  intro p e s m below meth c A hx hb hml hr hlk hin hts hown hA hF0 hK hN H locs hP hD hS ls hl
  have hC : CallFix p m c cX0_settleAll 4 s [.ref (a 0), .int x].toArray wsX0_settleAll RX0 := ⟨hx, hb, hml, hown, hts⟩
  have hl : lv_has ls 4 [(0, .ref (a 0)), (1, .int x)] := hl
  have huX0 : ∀ w ∈ wsX00, w ∈ wsX0_settleAll := by decide +kernel
  have hn10 := hI.2.1
  refine lv_iconst (v := 0) hx hb dX0_settleAll_0 (by decide) ?_
  refine lv_istore_n (lv' := [(2, .int 0), (0, .ref (a 0)), (1, .int x)]) hx hb dX0_settleAll_1 rfl hl (by decide) rfl (fun ls hl => ?_)
  have loop : ∀ (fu : Nat) (k : Nat), (k ≤ n) → n - k < fu → ∀ (H : Heap) (locs : List Loc), va_P D vwCl ([(a 0, .inr (0, [.int ((sn_seF f x k) 0), .int ((sn_seF f x k) 1), .ref (a 1), .ref (a 2), .ref (a 3), .ref (a 4), .ref (a 5), .ref (a 6)])), (a 1, .inl (cI, 10, .inl (fun z_ => (sn_seF f x k) (7 + 5 * z_)))), (a 2, .inl (cI, 10, .inl (fun z_ => (sn_seF f x k) (8 + 5 * z_)))), (a 3, .inl (cI, 10, .inl (fun z_ => (sn_seF f x k) (9 + 5 * z_)))), (a 4, .inl (cI, 10, .inl (fun z_ => (sn_seF f x k) (10 + 5 * z_)))), (a 5, .inl (cZ, 10, .inl (fun z_ => (sn_seF f x k) (11 + 5 * z_)))), (a 6, .inl (cI, 5, .inl (fun z_ => (sn_seF f x k) (2 + z_))))]) H → va_D A ([(a 0, .inr (0, [.int ((sn_seF f x k) 0), .int ((sn_seF f x k) 1), .ref (a 1), .ref (a 2), .ref (a 3), .ref (a 4), .ref (a 5), .ref (a 6)])), (a 1, .inl (cI, 10, .inl (fun z_ => (sn_seF f x k) (7 + 5 * z_)))), (a 2, .inl (cI, 10, .inl (fun z_ => (sn_seF f x k) (8 + 5 * z_)))), (a 3, .inl (cI, 10, .inl (fun z_ => (sn_seF f x k) (9 + 5 * z_)))), (a 4, .inl (cI, 10, .inl (fun z_ => (sn_seF f x k) (10 + 5 * z_)))), (a 5, .inl (cZ, 10, .inl (fun z_ => (sn_seF f x k) (11 + 5 * z_)))), (a 6, .inl (cI, 5, .inl (fun z_ => (sn_seF f x k) (2 + z_))))]) → va_S A s.heap H locs → ∀ ls : Array Slot, lv_has ls 4 [(0, .ref (a 0)), (1, .int x), (2, .int (nI k))] → W p l e (sn_rm 1 0 0) s m [.ref (a 0), .int x].toArray below meth c H locs 0 0 (MQ below (va_Qv (fun u_ : Nat → Int32 => u_ = sn_seF f x n) (fun u_ t_ => va_P D vwCl (sn_wC cI cZ a u_) t_.heap ∧ va_D A (sn_wC cI cZ a u_)) A) [.ref (a 0), .int x].toArray s 0 0 A) (F0 m 2 ls []) := by
    intro fu
    induction fu with
    | zero => intro k h1 hm; exact absurd hm (Nat.not_lt_zero _)
    | succ fu ih_loop =>
      intro k h1 hm H locs hP hD hS ls hl
      refine lv_iload_n hx hb dX0_settleAll_2 rfl (lv_at hl 2 rfl) ?_
      refine lv_aload_n hx hb dX0_settleAll_3 rfl (lv_at hl 0 rfl) ?_
      refine va_get (D := D) (ci := 0) (v := .int ((sn_seF f x k) 0)) (C := RX0) (T := TX0) (N := 8) hx hb hts huX0 hown hK hP 0 rfl rfl 0 (by decide) (hts (.fieldLink RX0 9 "SnowSlabs$Cover" "size" "I") (by decide +kernel)) (fun _ h9 => h9) rfl dX0_settleAll_4 ?_
      refine sn_top ((sn_seF_0 f x k).trans hI.1) ?_
      refine lv_icmp_ge (tgt := 86) hx hb dX0_settleAll_7 (by decide) (fun c_1 => ?_) (fun c_1 => ?_)
      · have c_1 := (sn_cgej (a := k) (b := n) rfl rfl (by omega) (by omega)).mp c_1
        exact sn_vret (sn_seF f x k) hx hb hr hlk dX0_settleAll_86 hP hD hS (by rw [show k = n by omega]) (Nat.le_of_ble_eq_true rfl) (Nat.le_of_ble_eq_true rfl)
      · have c_1 := (sn_cgef (a := k) (b := n) rfl rfl (by omega) (by omega)).mp c_1
        refine lv_aload_n hx hb dX0_settleAll_10 rfl (lv_at hl 0 rfl) ?_
        refine va_get (D := D) (ci := 0) (v := .ref (a 3)) (C := RX0) (T := TX0) (N := 8) hx hb hts huX0 hown hK hP 0 rfl rfl 4 (by decide) (hts (.fieldLink RX0 25 "SnowSlabs$Cover" "grain" "[I") (by decide +kernel)) (fun _ h9 => h9) rfl dX0_settleAll_11 ?_
        refine lv_iload_n hx hb dX0_settleAll_14 rfl (lv_at hl 2 rfl) ?_
        refine sn_ild (k := k) (v := (sn_seF f x k) (9 + 5 * k)) 3 0 hx hb hK hP rfl rfl (by omega) (by decide) rfl (rfl) dX0_settleAll_15 ?_
        refine lv_iconst (v := 4) hx hb dX0_settleAll_16 (by decide) ?_
        refine lv_icmp_eq (tgt := 80) hx hb dX0_settleAll_17 (by decide) (fun c_2 => ?_) (fun c_2 => ?_)
        · refine lv_iinc (v := nI (k + 1)) (lv' := [(2, .int (nI (k + 1))), (0, .ref (a 0)), (1, .int x)]) hx hb dX0_settleAll_80 hl (k := 2) rfl (sn_inc _) (by decide) rfl (fun ls hl => ?_)
          refine lv_goto (tgt := 2) hx hb dX0_settleAll_83 (by decide) ?_
          have hE : sn_eW ([(a 0, .inr (0, [.int ((sn_seF f x k) 0), .int ((sn_seF f x k) 1), .ref (a 1), .ref (a 2), .ref (a 3), .ref (a 4), .ref (a 5), .ref (a 6)])), (a 1, .inl (cI, 10, .inl (fun z_ => (sn_seF f x k) (7 + 5 * z_)))), (a 2, .inl (cI, 10, .inl (fun z_ => (sn_seF f x k) (8 + 5 * z_)))), (a 3, .inl (cI, 10, .inl (fun z_ => (sn_seF f x k) (9 + 5 * z_)))), (a 4, .inl (cI, 10, .inl (fun z_ => (sn_seF f x k) (10 + 5 * z_)))), (a 5, .inl (cZ, 10, .inl (fun z_ => (sn_seF f x k) (11 + 5 * z_)))), (a 6, .inl (cI, 5, .inl (fun z_ => (sn_seF f x k) (2 + z_))))]) ([(a 0, .inr (0, [.int ((sn_seF f x (k + 1)) 0), .int ((sn_seF f x (k + 1)) 1), .ref (a 1), .ref (a 2), .ref (a 3), .ref (a 4), .ref (a 5), .ref (a 6)])), (a 1, .inl (cI, 10, .inl (fun z_ => (sn_seF f x (k + 1)) (7 + 5 * z_)))), (a 2, .inl (cI, 10, .inl (fun z_ => (sn_seF f x (k + 1)) (8 + 5 * z_)))), (a 3, .inl (cI, 10, .inl (fun z_ => (sn_seF f x (k + 1)) (9 + 5 * z_)))), (a 4, .inl (cI, 10, .inl (fun z_ => (sn_seF f x (k + 1)) (10 + 5 * z_)))), (a 5, .inl (cZ, 10, .inl (fun z_ => (sn_seF f x (k + 1)) (11 + 5 * z_)))), (a 6, .inl (cI, 5, .inl (fun z_ => (sn_seF f x (k + 1)) (2 + z_))))]) := (by rw [show sn_seF f x (k + 1) = sn_seF f x k from if_pos c_2]; exact sn_eS _)
          exact ih_loop (k + 1) (by omega) (by omega) _ _ (hE.P hP) (hE.D hD) hS ls (lv_sub hl [1, 2, 0] rfl)
        · refine lv_aload_n hx hb dX0_settleAll_20 rfl (lv_at hl 0 rfl) ?_
          refine va_get (D := D) (ci := 0) (v := .ref (a 1)) (C := RX0) (T := TX0) (N := 8) hx hb hts huX0 hown hK hP 0 rfl rfl 2 (by decide) (hts (.fieldLink RX0 18 "SnowSlabs$Cover" "thick" "[I") (by decide +kernel)) (fun _ h9 => h9) rfl dX0_settleAll_21 ?_
          refine lv_iload_n hx hb dX0_settleAll_24 rfl (lv_at hl 2 rfl) ?_
          refine sn_ild (k := k) (v := (sn_seF f x k) (7 + 5 * k)) 1 0 hx hb hK hP rfl rfl (by omega) (by decide) rfl (rfl) dX0_settleAll_25 ?_
          refine lv_aload_n hx hb dX0_settleAll_26 rfl (lv_at hl 0 rfl) ?_
          refine va_get (D := D) (ci := 0) (v := .ref (a 2)) (C := RX0) (T := TX0) (N := 8) hx hb hts huX0 hown hK hP 0 rfl rfl 3 (by decide) (hts (.fieldLink RX0 22 "SnowSlabs$Cover" "dense" "[I") (by decide +kernel)) (fun _ h9 => h9) rfl dX0_settleAll_27 ?_
          refine lv_iload_n hx hb dX0_settleAll_30 rfl (lv_at hl 2 rfl) ?_
          refine sn_ild (k := k) (v := (sn_seF f x k) (8 + 5 * k)) 2 0 hx hb hK hP rfl rfl (by omega) (by decide) rfl (rfl) dX0_settleAll_31 ?_
          refine lv_imul hx hb dX0_settleAll_32 ?_
          refine lv_istore_n (lv' := [(3, .int (((sn_seF f x k) (7 + 5 * k)) * ((sn_seF f x k) (8 + 5 * k)))), (0, .ref (a 0)), (1, .int x), (2, .int (nI k))]) hx hb dX0_settleAll_33 rfl hl (by decide) rfl (fun ls hl => ?_)
          refine lv_aload_n hx hb dX0_settleAll_34 rfl (lv_at hl 1 rfl) ?_
          refine va_get (D := D) (ci := 0) (v := .ref (a 1)) (C := RX0) (T := TX0) (N := 8) hx hb hts huX0 hown hK hP 0 rfl rfl 2 (by decide) (hts (.fieldLink RX0 18 "SnowSlabs$Cover" "thick" "[I") (by decide +kernel)) (fun _ h9 => h9) rfl dX0_settleAll_35 ?_
          refine lv_iload_n hx hb dX0_settleAll_38 rfl (lv_at hl 3 rfl) ?_
          refine lv_iconst (v := 1) hx hb dX0_settleAll_39 (by decide) ?_
          refine lv_aload_n hx hb dX0_settleAll_40 rfl (lv_at hl 1 rfl) ?_
          refine va_get (D := D) (ci := 0) (v := .ref (a 1)) (C := RX0) (T := TX0) (N := 8) hx hb hts huX0 hown hK hP 0 rfl rfl 2 (by decide) (hts (.fieldLink RX0 18 "SnowSlabs$Cover" "thick" "[I") (by decide +kernel)) (fun _ h9 => h9) rfl dX0_settleAll_41 ?_
          refine lv_iload_n hx hb dX0_settleAll_44 rfl (lv_at hl 3 rfl) ?_
          refine sn_ild (k := k) (v := (sn_seF f x k) (7 + 5 * k)) 1 0 hx hb hK hP rfl rfl (by omega) (by decide) rfl (rfl) dX0_settleAll_45 ?_
          refine lv_bipush (v := 100) hx hb dX0_settleAll_46 (by decide) ?_
          refine lv_iload_n hx hb dX0_settleAll_48 rfl (lv_at hl 2 rfl) ?_
          refine lv_isub hx hb dX0_settleAll_49 ?_
          refine lv_imul hx hb dX0_settleAll_50 ?_
          refine lv_bipush (v := 100) hx hb dX0_settleAll_51 (by decide) ?_
          refine lv_idiv hx hb dX0_settleAll_53 (by decide) ?_
          refine va_mmax hx hb (hml.trans hl.1.symm) hown (hts (.methodLink RX0 91 Lib.Math.max.name) (by decide +kernel)) (hts (.static Lib.Math.max.name) (by decide +kernel)) (hts (.initialized "java/lang/Math") (by decide +kernel)) (hts (.code Lib.Math.max.name Lib.Math.max.code 2 (some .int)) (by decide +kernel)) (Nat.le_of_ble_eq_true rfl) (Nat.le_of_ble_eq_true rfl) (Nat.zero_le _) (Nat.zero_le _) dX0_settleAll_54 ?_
          refine sn_top (y := sn_sT (sn_seF f x k) k x) (sn_max1 _) ?_
          refine sn_ist (k := k) 1 0 hx hb hK hP hD hS rfl rfl (by omega) (by decide) rfl dX0_settleAll_57 (fun H locs hP hD hS => ?_)
          have hP : va_P D vwCl ([(a 0, .inr (0, [.int ((sn_seF f x k) 0), .int ((sn_seF f x k) 1), .ref (a 1), .ref (a 2), .ref (a 3), .ref (a 4), .ref (a 5), .ref (a 6)])), (a 1, .inl (cI, 10, .inl (upd (fun z_ => (sn_seF f x k) (7 + 5 * z_)) k (sn_sT (sn_seF f x k) k x)))), (a 2, .inl (cI, 10, .inl (fun z_ => (sn_seF f x k) (8 + 5 * z_)))), (a 3, .inl (cI, 10, .inl (fun z_ => (sn_seF f x k) (9 + 5 * z_)))), (a 4, .inl (cI, 10, .inl (fun z_ => (sn_seF f x k) (10 + 5 * z_)))), (a 5, .inl (cZ, 10, .inl (fun z_ => (sn_seF f x k) (11 + 5 * z_)))), (a 6, .inl (cI, 5, .inl (fun z_ => (sn_seF f x k) (2 + z_))))]) H := hP
          have hD : va_D A ([(a 0, .inr (0, [.int ((sn_seF f x k) 0), .int ((sn_seF f x k) 1), .ref (a 1), .ref (a 2), .ref (a 3), .ref (a 4), .ref (a 5), .ref (a 6)])), (a 1, .inl (cI, 10, .inl (upd (fun z_ => (sn_seF f x k) (7 + 5 * z_)) k (sn_sT (sn_seF f x k) k x)))), (a 2, .inl (cI, 10, .inl (fun z_ => (sn_seF f x k) (8 + 5 * z_)))), (a 3, .inl (cI, 10, .inl (fun z_ => (sn_seF f x k) (9 + 5 * z_)))), (a 4, .inl (cI, 10, .inl (fun z_ => (sn_seF f x k) (10 + 5 * z_)))), (a 5, .inl (cZ, 10, .inl (fun z_ => (sn_seF f x k) (11 + 5 * z_)))), (a 6, .inl (cI, 5, .inl (fun z_ => (sn_seF f x k) (2 + z_))))]) := hD
          refine lv_aload_n hx hb dX0_settleAll_58 rfl (lv_at hl 1 rfl) ?_
          refine va_get (D := D) (ci := 0) (v := .ref (a 2)) (C := RX0) (T := TX0) (N := 8) hx hb hts huX0 hown hK hP 0 rfl rfl 3 (by decide) (hts (.fieldLink RX0 22 "SnowSlabs$Cover" "dense" "[I") (by decide +kernel)) (fun _ h9 => h9) rfl dX0_settleAll_59 ?_
          refine lv_iload_n hx hb dX0_settleAll_62 rfl (lv_at hl 3 rfl) ?_
          refine lv_sipush (v := 600) hx hb dX0_settleAll_63 (by decide) ?_
          refine lv_iload_n hx hb dX0_settleAll_66 rfl (lv_at hl 0 rfl) ?_
          refine lv_aload_n hx hb dX0_settleAll_67 rfl (lv_at hl 1 rfl) ?_
          refine va_get (D := D) (ci := 0) (v := .ref (a 1)) (C := RX0) (T := TX0) (N := 8) hx hb hts huX0 hown hK hP 0 rfl rfl 2 (by decide) (hts (.fieldLink RX0 18 "SnowSlabs$Cover" "thick" "[I") (by decide +kernel)) (fun _ h9 => h9) rfl dX0_settleAll_68 ?_
          refine lv_iload_n hx hb dX0_settleAll_71 rfl (lv_at hl 3 rfl) ?_
          refine sn_ild (k := k) (v := sn_sT (sn_seF f x k) k x) 1 0 hx hb hK hP rfl rfl (by omega) (by decide) rfl (pk_us) dX0_settleAll_72 ?_
          refine sn_cN 2 hC hl (ct_X3_cut l D _ [] (((sn_seF f x k) (7 + 5 * k)) * ((sn_seF f x k) (8 + 5 * k))) (sn_sT (sn_seF f x k) k x) (sn_mx1_ne _)) gX0_settleAll_X3_cut_n63 rfl hN.2.1 (hts (.initialized RX3) (by decide +kernel)) (hts (.static yX3_cut) (by decide +kernel)) (by decide +kernel) rfl ⟨Nat.le_of_ble_eq_true rfl, Nat.le_of_ble_eq_true rfl⟩ ⟨Nat.zero_le _, Nat.zero_le _⟩ (fun _ _ h => by simp at h) hK hN rfl (Nat.le_of_ble_eq_true rfl) dX0_settleAll_73 ?_
          refine va_mmin hx hb (hml.trans hl.1.symm) hown (hts (.methodLink RX0 86 Lib.Math.min.name) (by decide +kernel)) (hts (.static Lib.Math.min.name) (by decide +kernel)) (hts (.initialized "java/lang/Math") (by decide +kernel)) (hts (.code Lib.Math.min.name Lib.Math.min.code 2 (some .int)) (by decide +kernel)) (Nat.le_of_ble_eq_true rfl) (Nat.le_of_ble_eq_true rfl) (Nat.zero_le _) (Nat.zero_le _) dX0_settleAll_76 ?_
          refine sn_top (y := sn_mn6 ((sn_seF f x k) (7 + 5 * k) * (sn_seF f x k) (8 + 5 * k) / sn_sT (sn_seF f x k) k x)) (sn_min6 _) ?_
          refine sn_ist (k := k) 2 0 hx hb hK hP hD hS rfl rfl (by omega) (by decide) rfl dX0_settleAll_79 (fun H locs hP hD hS => ?_)
          have hP : va_P D vwCl ([(a 0, .inr (0, [.int ((sn_seF f x k) 0), .int ((sn_seF f x k) 1), .ref (a 1), .ref (a 2), .ref (a 3), .ref (a 4), .ref (a 5), .ref (a 6)])), (a 1, .inl (cI, 10, .inl (upd (fun z_ => (sn_seF f x k) (7 + 5 * z_)) k (sn_sT (sn_seF f x k) k x)))), (a 2, .inl (cI, 10, .inl (upd (fun z_ => (sn_seF f x k) (8 + 5 * z_)) k (sn_mn6 ((sn_seF f x k) (7 + 5 * k) * (sn_seF f x k) (8 + 5 * k) / sn_sT (sn_seF f x k) k x))))), (a 3, .inl (cI, 10, .inl (fun z_ => (sn_seF f x k) (9 + 5 * z_)))), (a 4, .inl (cI, 10, .inl (fun z_ => (sn_seF f x k) (10 + 5 * z_)))), (a 5, .inl (cZ, 10, .inl (fun z_ => (sn_seF f x k) (11 + 5 * z_)))), (a 6, .inl (cI, 5, .inl (fun z_ => (sn_seF f x k) (2 + z_))))]) H := hP
          have hD : va_D A ([(a 0, .inr (0, [.int ((sn_seF f x k) 0), .int ((sn_seF f x k) 1), .ref (a 1), .ref (a 2), .ref (a 3), .ref (a 4), .ref (a 5), .ref (a 6)])), (a 1, .inl (cI, 10, .inl (upd (fun z_ => (sn_seF f x k) (7 + 5 * z_)) k (sn_sT (sn_seF f x k) k x)))), (a 2, .inl (cI, 10, .inl (upd (fun z_ => (sn_seF f x k) (8 + 5 * z_)) k (sn_mn6 ((sn_seF f x k) (7 + 5 * k) * (sn_seF f x k) (8 + 5 * k) / sn_sT (sn_seF f x k) k x))))), (a 3, .inl (cI, 10, .inl (fun z_ => (sn_seF f x k) (9 + 5 * z_)))), (a 4, .inl (cI, 10, .inl (fun z_ => (sn_seF f x k) (10 + 5 * z_)))), (a 5, .inl (cZ, 10, .inl (fun z_ => (sn_seF f x k) (11 + 5 * z_)))), (a 6, .inl (cI, 5, .inl (fun z_ => (sn_seF f x k) (2 + z_))))]) := hD
          refine lv_iinc (v := nI (k + 1)) (lv' := [(2, .int (nI (k + 1))), (3, .int (((sn_seF f x k) (7 + 5 * k)) * ((sn_seF f x k) (8 + 5 * k)))), (0, .ref (a 0)), (1, .int x)]) hx hb dX0_settleAll_80 hl (k := 3) rfl (sn_inc _) (by decide) rfl (fun ls hl => ?_)
          refine lv_goto (tgt := 2) hx hb dX0_settleAll_83 (by decide) ?_
          have hE : sn_eW ([(a 0, .inr (0, [.int ((sn_seF f x k) 0), .int ((sn_seF f x k) 1), .ref (a 1), .ref (a 2), .ref (a 3), .ref (a 4), .ref (a 5), .ref (a 6)])), (a 1, .inl (cI, 10, .inl (upd (fun z_ => (sn_seF f x k) (7 + 5 * z_)) k (sn_sT (sn_seF f x k) k x)))), (a 2, .inl (cI, 10, .inl (upd (fun z_ => (sn_seF f x k) (8 + 5 * z_)) k (sn_mn6 ((sn_seF f x k) (7 + 5 * k) * (sn_seF f x k) (8 + 5 * k) / sn_sT (sn_seF f x k) k x))))), (a 3, .inl (cI, 10, .inl (fun z_ => (sn_seF f x k) (9 + 5 * z_)))), (a 4, .inl (cI, 10, .inl (fun z_ => (sn_seF f x k) (10 + 5 * z_)))), (a 5, .inl (cZ, 10, .inl (fun z_ => (sn_seF f x k) (11 + 5 * z_)))), (a 6, .inl (cI, 5, .inl (fun z_ => (sn_seF f x k) (2 + z_))))]) ([(a 0, .inr (0, [.int ((sn_seF f x (k + 1)) 0), .int ((sn_seF f x (k + 1)) 1), .ref (a 1), .ref (a 2), .ref (a 3), .ref (a 4), .ref (a 5), .ref (a 6)])), (a 1, .inl (cI, 10, .inl (fun z_ => (sn_seF f x (k + 1)) (7 + 5 * z_)))), (a 2, .inl (cI, 10, .inl (fun z_ => (sn_seF f x (k + 1)) (8 + 5 * z_)))), (a 3, .inl (cI, 10, .inl (fun z_ => (sn_seF f x (k + 1)) (9 + 5 * z_)))), (a 4, .inl (cI, 10, .inl (fun z_ => (sn_seF f x (k + 1)) (10 + 5 * z_)))), (a 5, .inl (cZ, 10, .inl (fun z_ => (sn_seF f x (k + 1)) (11 + 5 * z_)))), (a 6, .inl (cI, 5, .inl (fun z_ => (sn_seF f x (k + 1)) (2 + z_))))]) := (by rw [show sn_seF f x (k + 1) = sn_s2 (sn_seF f x k) k x from if_neg c_2]; exact sn_eC (sn_eOb (by (simp only [sn_s2, upd]) <;> (repeat' split) <;> first | rfl | omega | (simp_all; done) | (exfalso; simp_all; done)) (by (simp only [sn_s2, upd]) <;> (repeat' split) <;> first | rfl | omega | (simp_all; done) | (exfalso; simp_all; done))) (sn_eC (sn_eI (fun z_ hz => by (simp only [sn_s2, upd]) <;> (repeat' split) <;> first | rfl | omega | (simp_all; done) | (exfalso; simp_all; done))) (sn_eC (sn_eI (fun z_ hz => by (simp only [sn_s2, upd]) <;> (repeat' split) <;> first | rfl | omega | (simp_all; done) | (exfalso; simp_all; done))) (sn_eC (sn_eI (fun z_ hz => by (simp only [sn_s2, upd]) <;> (repeat' split) <;> first | rfl | omega | (simp_all; done) | (exfalso; simp_all; done))) (sn_eC (sn_eI (fun z_ hz => by (simp only [sn_s2, upd]) <;> (repeat' split) <;> first | rfl | omega | (simp_all; done) | (exfalso; simp_all; done))) (sn_eC (sn_eI (fun z_ hz => by (simp only [sn_s2, upd]) <;> (repeat' split) <;> first | rfl | omega | (simp_all; done) | (exfalso; simp_all; done))) (sn_eC (sn_eI (fun z_ hz => by (simp only [sn_s2, upd]) <;> (repeat' split) <;> first | rfl | omega | (simp_all; done) | (exfalso; simp_all; done))) (sn_eN))))))))
          exact ih_loop (k + 1) (by omega) (by omega) _ _ (hE.P hP) (hE.D hD) hS ls (lv_sub hl [2, 3, 0] rfl)
  exact loop ((n - 0) + 1) 0 (Nat.zero_le _) (by omega) _ _ hP hD hS ls (lv_sub hl [1, 2, 0] rfl)
set_option maxRecDepth 100000 in
set_option maxHeartbeats 4000000 in
theorem ct_X0_meltAway (l : Launch) (D : va_G) (cI cZ cR : ClassId) (a : Nat → Nat) (f : Nat → Int32) (n : Nat) (hI : sn_I f n) (x : Int32) (sz : Nat) : sn_Uv l yX0_meltAway wsX0_meltAway 0 0 0 [.ref (a 0), .int x] D (sn_ty cI cZ cR) (sn_wC cI cZ a f) sz (fun u_ : Nat → Int32 => u_ = sn_mlF f n x) (fun u_ => sn_wC cI cZ a u_) := by
  refine sn_uv (cc := cX0_meltAway) (maxL := 3) (ret := none) (by decide) rfl (Nat.le_of_ble_eq_true rfl) ?_
  intro p e s m below meth c A hx hb hml hr hlk hin hts hown hA hF0 hK hN H locs hP hD hS ls hl
  have hC : CallFix p m c cX0_meltAway 3 s [.ref (a 0), .int x].toArray wsX0_meltAway RX0 := ⟨hx, hb, hml, hown, hts⟩
  have hl : lv_has ls 3 [(0, .ref (a 0)), (1, .int x)] := hl
  have huX0 : ∀ w ∈ wsX00, w ∈ wsX0_meltAway := by decide +kernel
  have hn10 := hI.2.1
  refine lv_iload_n hx hb dX0_meltAway_0 rfl (lv_at hl 1 rfl) ?_
  refine lv_istore_n (lv' := [(2, .int x), (0, .ref (a 0)), (1, .int x)]) hx hb dX0_meltAway_1 rfl hl (by decide) rfl (fun ls hl => ?_)
  have loop : ∀ (fu : Nat) (k : Nat) (r : Int32), (k ≤ n) → (sn_mlN f k r = sn_mlN f n x) → (sn_mlR f k r = sn_mlR f n x) → k < fu → ∀ (H : Heap) (locs : List Loc), va_P D vwCl ([(a 0, .inr (0, [.int ((upd f 0 (nI k)) 0), .int (upd f 0 (nI k) 1), .ref (a 1), .ref (a 2), .ref (a 3), .ref (a 4), .ref (a 5), .ref (a 6)])), (a 1, .inl (cI, 10, .inl (fun z_ => (upd f 0 (nI k)) (7 + 5 * z_)))), (a 2, .inl (cI, 10, .inl (fun z_ => (upd f 0 (nI k)) (8 + 5 * z_)))), (a 3, .inl (cI, 10, .inl (fun z_ => (upd f 0 (nI k)) (9 + 5 * z_)))), (a 4, .inl (cI, 10, .inl (fun z_ => (upd f 0 (nI k)) (10 + 5 * z_)))), (a 5, .inl (cZ, 10, .inl (fun z_ => (upd f 0 (nI k)) (11 + 5 * z_)))), (a 6, .inl (cI, 5, .inl (fun z_ => (upd f 0 (nI k)) (2 + z_))))]) H → va_D A ([(a 0, .inr (0, [.int ((upd f 0 (nI k)) 0), .int (upd f 0 (nI k) 1), .ref (a 1), .ref (a 2), .ref (a 3), .ref (a 4), .ref (a 5), .ref (a 6)])), (a 1, .inl (cI, 10, .inl (fun z_ => (upd f 0 (nI k)) (7 + 5 * z_)))), (a 2, .inl (cI, 10, .inl (fun z_ => (upd f 0 (nI k)) (8 + 5 * z_)))), (a 3, .inl (cI, 10, .inl (fun z_ => (upd f 0 (nI k)) (9 + 5 * z_)))), (a 4, .inl (cI, 10, .inl (fun z_ => (upd f 0 (nI k)) (10 + 5 * z_)))), (a 5, .inl (cZ, 10, .inl (fun z_ => (upd f 0 (nI k)) (11 + 5 * z_)))), (a 6, .inl (cI, 5, .inl (fun z_ => (upd f 0 (nI k)) (2 + z_))))]) → va_S A s.heap H locs → ∀ ls : Array Slot, lv_has ls 3 [(0, .ref (a 0)), (1, .int x), (2, .int r)] → W p l e (sn_rm 0 0 0) s m [.ref (a 0), .int x].toArray below meth c H locs 0 0 (MQ below (va_Qv (fun u_ : Nat → Int32 => u_ = sn_mlF f n x) (fun u_ t_ => va_P D vwCl (sn_wC cI cZ a u_) t_.heap ∧ va_D A (sn_wC cI cZ a u_)) A) [.ref (a 0), .int x].toArray s 0 0 A) (F0 m 2 ls []) := by
    intro fu
    induction fu with
    | zero => intro k r h1 hq1 hq2 hm; exact absurd hm (Nat.not_lt_zero _)
    | succ fu ih_loop =>
      intro k r h1 hq1 hq2 hm H locs hP hD hS ls hl
      refine lv_aload_n hx hb dX0_meltAway_2 rfl (lv_at hl 0 rfl) ?_
      refine va_get (D := D) (ci := 0) (v := .int ((upd f 0 (nI k)) 0)) (C := RX0) (T := TX0) (N := 8) hx hb hts huX0 hown hK hP 0 rfl rfl 0 (by decide) (hts (.fieldLink RX0 9 "SnowSlabs$Cover" "size" "I") (by decide +kernel)) (fun _ h9 => h9) rfl dX0_meltAway_3 ?_
      refine sn_top (pk_us) ?_
      refine lv_if_le (tgt := 51) hx hb dX0_meltAway_6 (by decide) (fun c_1 => ?_) (fun c_1 => ?_)
      · have c_1 := (sn_clej (a := k) (b := 0) rfl rfl (by omega) (by omega)).mp c_1
        refine lv_aload_n hx hb dX0_meltAway_51 rfl (lv_at hl 0 rfl) ?_
        refine va_get (D := D) (ci := 0) (v := .int ((upd f 0 (nI k)) 0)) (C := RX0) (T := TX0) (N := 8) hx hb hts huX0 hown hK hP 0 rfl rfl 0 (by decide) (hts (.fieldLink RX0 9 "SnowSlabs$Cover" "size" "I") (by decide +kernel)) (fun _ h9 => h9) rfl dX0_meltAway_52 ?_
        refine sn_top (pk_us) ?_
        refine lv_if_le (tgt := 73) hx hb dX0_meltAway_55 (by decide) (fun c_2 => ?_) (fun c_2 => ?_)
        · have c_2 := (sn_clej (a := k) (b := 0) rfl rfl (by omega) (by omega)).mp c_2
          exact sn_vret (upd f 0 (nI k)) hx hb hr hlk dX0_meltAway_73 hP hD hS (by unfold sn_mlF; rw [← hq1, ← hq2, show k = 0 by omega]; rfl) (Nat.le_of_ble_eq_true rfl) (Nat.le_of_ble_eq_true rfl)
        · have c_2 := (sn_clef (a := k) (b := 0) rfl rfl (by omega) (by omega)).mp c_2
          exact absurd c_2 (by omega)
      · have c_1 := (sn_clef (a := k) (b := 0) rfl rfl (by omega) (by omega)).mp c_1
        refine lv_iload_n hx hb dX0_meltAway_9 rfl (lv_at hl 2 rfl) ?_
        refine lv_aload_n hx hb dX0_meltAway_10 rfl (lv_at hl 0 rfl) ?_
        refine va_get (D := D) (ci := 0) (v := .ref (a 1)) (C := RX0) (T := TX0) (N := 8) hx hb hts huX0 hown hK hP 0 rfl rfl 2 (by decide) (hts (.fieldLink RX0 18 "SnowSlabs$Cover" "thick" "[I") (by decide +kernel)) (fun _ h9 => h9) rfl dX0_meltAway_11 ?_
        refine lv_aload_n hx hb dX0_meltAway_14 rfl (lv_at hl 0 rfl) ?_
        refine va_get (D := D) (ci := 0) (v := .int ((upd f 0 (nI k)) 0)) (C := RX0) (T := TX0) (N := 8) hx hb hts huX0 hown hK hP 0 rfl rfl 0 (by decide) (hts (.fieldLink RX0 9 "SnowSlabs$Cover" "size" "I") (by decide +kernel)) (fun _ h9 => h9) rfl dX0_meltAway_15 ?_
        refine sn_top (pk_us) ?_
        refine lv_iconst (v := 1) hx hb dX0_meltAway_18 (by decide) ?_
        refine lv_isub hx hb dX0_meltAway_19 ?_
        refine sn_top (sn_nsub (a := k) (b := 1) rfl rfl (by omega)) ?_
        refine sn_ild (k := k - 1) (v := f (7 + 5 * (k - 1))) 1 0 hx hb hK hP rfl rfl (by omega) (by decide) rfl (pk_un (by omega)) dX0_meltAway_20 ?_
        refine lv_icmp_lt (tgt := 51) hx hb dX0_meltAway_21 (by decide) (fun c_3 => ?_) (fun c_3 => ?_)
        · refine lv_aload_n hx hb dX0_meltAway_51 rfl (lv_at hl 0 rfl) ?_
          refine va_get (D := D) (ci := 0) (v := .int ((upd f 0 (nI k)) 0)) (C := RX0) (T := TX0) (N := 8) hx hb hts huX0 hown hK hP 0 rfl rfl 0 (by decide) (hts (.fieldLink RX0 9 "SnowSlabs$Cover" "size" "I") (by decide +kernel)) (fun _ h9 => h9) rfl dX0_meltAway_52 ?_
          refine sn_top (pk_us) ?_
          refine lv_if_le (tgt := 73) hx hb dX0_meltAway_55 (by decide) (fun c_4 => ?_) (fun c_4 => ?_)
          · have c_4 := (sn_clej (a := k) (b := 0) rfl rfl (by omega) (by omega)).mp c_4
            exact absurd c_4 (by omega)
          · have c_4 := (sn_clef (a := k) (b := 0) rfl rfl (by omega) (by omega)).mp c_4
            refine lv_aload_n hx hb dX0_meltAway_58 rfl (lv_at hl 0 rfl) ?_
            refine va_get (D := D) (ci := 0) (v := .ref (a 1)) (C := RX0) (T := TX0) (N := 8) hx hb hts huX0 hown hK hP 0 rfl rfl 2 (by decide) (hts (.fieldLink RX0 18 "SnowSlabs$Cover" "thick" "[I") (by decide +kernel)) (fun _ h9 => h9) rfl dX0_meltAway_59 ?_
            refine lv_aload_n hx hb dX0_meltAway_62 rfl (lv_at hl 0 rfl) ?_
            refine va_get (D := D) (ci := 0) (v := .int ((upd f 0 (nI k)) 0)) (C := RX0) (T := TX0) (N := 8) hx hb hts huX0 hown hK hP 0 rfl rfl 0 (by decide) (hts (.fieldLink RX0 9 "SnowSlabs$Cover" "size" "I") (by decide +kernel)) (fun _ h9 => h9) rfl dX0_meltAway_63 ?_
            refine sn_top (pk_us) ?_
            refine lv_iconst (v := 1) hx hb dX0_meltAway_66 (by decide) ?_
            refine lv_isub hx hb dX0_meltAway_67 ?_
            refine sn_top (sn_nsub (a := k) (b := 1) rfl rfl (by omega)) ?_
            refine lv_dup2_11 hx hb dX0_meltAway_68 rfl rfl ?_
            refine sn_ild (k := k - 1) (v := f (7 + 5 * (k - 1))) 1 0 hx hb hK hP rfl rfl (by omega) (by decide) rfl (pk_un (by omega)) dX0_meltAway_69 ?_
            refine lv_iload_n hx hb dX0_meltAway_70 rfl (lv_at hl 2 rfl) ?_
            refine lv_isub hx hb dX0_meltAway_71 ?_
            refine sn_ist (k := k - 1) 1 0 hx hb hK hP hD hS rfl rfl (by omega) (by decide) rfl dX0_meltAway_72 (fun H locs hP hD hS => ?_)
            have hP : va_P D vwCl ([(a 0, .inr (0, [.int ((upd f 0 (nI k)) 0), .int (upd f 0 (nI k) 1), .ref (a 1), .ref (a 2), .ref (a 3), .ref (a 4), .ref (a 5), .ref (a 6)])), (a 1, .inl (cI, 10, .inl (upd (fun z_ => (upd f 0 (nI k)) (7 + 5 * z_)) (k - 1) ((f (7 + 5 * (k - 1))) - r)))), (a 2, .inl (cI, 10, .inl (fun z_ => (upd f 0 (nI k)) (8 + 5 * z_)))), (a 3, .inl (cI, 10, .inl (fun z_ => (upd f 0 (nI k)) (9 + 5 * z_)))), (a 4, .inl (cI, 10, .inl (fun z_ => (upd f 0 (nI k)) (10 + 5 * z_)))), (a 5, .inl (cZ, 10, .inl (fun z_ => (upd f 0 (nI k)) (11 + 5 * z_)))), (a 6, .inl (cI, 5, .inl (fun z_ => (upd f 0 (nI k)) (2 + z_))))]) H := hP
            have hD : va_D A ([(a 0, .inr (0, [.int ((upd f 0 (nI k)) 0), .int (upd f 0 (nI k) 1), .ref (a 1), .ref (a 2), .ref (a 3), .ref (a 4), .ref (a 5), .ref (a 6)])), (a 1, .inl (cI, 10, .inl (upd (fun z_ => (upd f 0 (nI k)) (7 + 5 * z_)) (k - 1) ((f (7 + 5 * (k - 1))) - r)))), (a 2, .inl (cI, 10, .inl (fun z_ => (upd f 0 (nI k)) (8 + 5 * z_)))), (a 3, .inl (cI, 10, .inl (fun z_ => (upd f 0 (nI k)) (9 + 5 * z_)))), (a 4, .inl (cI, 10, .inl (fun z_ => (upd f 0 (nI k)) (10 + 5 * z_)))), (a 5, .inl (cZ, 10, .inl (fun z_ => (upd f 0 (nI k)) (11 + 5 * z_)))), (a 6, .inl (cI, 5, .inl (fun z_ => (upd f 0 (nI k)) (2 + z_))))]) := hD
            have hE : sn_eW ([(a 0, .inr (0, [.int ((upd f 0 (nI k)) 0), .int (upd f 0 (nI k) 1), .ref (a 1), .ref (a 2), .ref (a 3), .ref (a 4), .ref (a 5), .ref (a 6)])), (a 1, .inl (cI, 10, .inl (upd (fun z_ => (upd f 0 (nI k)) (7 + 5 * z_)) (k - 1) ((f (7 + 5 * (k - 1))) - r)))), (a 2, .inl (cI, 10, .inl (fun z_ => (upd f 0 (nI k)) (8 + 5 * z_)))), (a 3, .inl (cI, 10, .inl (fun z_ => (upd f 0 (nI k)) (9 + 5 * z_)))), (a 4, .inl (cI, 10, .inl (fun z_ => (upd f 0 (nI k)) (10 + 5 * z_)))), (a 5, .inl (cZ, 10, .inl (fun z_ => (upd f 0 (nI k)) (11 + 5 * z_)))), (a 6, .inl (cI, 5, .inl (fun z_ => (upd f 0 (nI k)) (2 + z_))))]) (sn_wC cI cZ a (upd (upd f 0 (nI k)) (7 + 5 * (k - 1)) (f (7 + 5 * (k - 1)) - r))) := sn_eC (sn_eOb (by (simp only [upd]) <;> (repeat' split) <;> first | rfl | omega | (simp_all; done) | (exfalso; simp_all; done)) (by (simp only [upd]) <;> (repeat' split) <;> first | rfl | omega | (simp_all; done) | (exfalso; simp_all; done))) (sn_eC (sn_eI (fun z_ hz => by (simp only [upd]) <;> (repeat' split) <;> first | rfl | omega | (simp_all; done) | (exfalso; simp_all; done))) (sn_eC (sn_eI (fun z_ hz => by (simp only [upd]) <;> (repeat' split) <;> first | rfl | omega | (simp_all; done) | (exfalso; simp_all; done))) (sn_eC (sn_eI (fun z_ hz => by (simp only [upd]) <;> (repeat' split) <;> first | rfl | omega | (simp_all; done) | (exfalso; simp_all; done))) (sn_eC (sn_eI (fun z_ hz => by (simp only [upd]) <;> (repeat' split) <;> first | rfl | omega | (simp_all; done) | (exfalso; simp_all; done))) (sn_eC (sn_eI (fun z_ hz => by (simp only [upd]) <;> (repeat' split) <;> first | rfl | omega | (simp_all; done) | (exfalso; simp_all; done))) (sn_eC (sn_eI (fun z_ hz => by (simp only [upd]) <;> (repeat' split) <;> first | rfl | omega | (simp_all; done) | (exfalso; simp_all; done))) (sn_eN)))))))
            exact sn_vret (upd (upd f 0 (nI k)) (7 + 5 * (k - 1)) (f (7 + 5 * (k - 1)) - r)) hx hb hr hlk dX0_meltAway_73 (hE.P hP) (hE.D hD) hS (by unfold sn_mlF; rw [← hq1, ← hq2, sn_mlN_n (by omega) (Int32.not_le.mpr c_3), sn_mlR_n (by omega) (Int32.not_le.mpr c_3)]; exact (if_neg (by omega)).symm) (Nat.le_of_ble_eq_true rfl) (Nat.le_of_ble_eq_true rfl)
        · refine lv_iload_n hx hb dX0_meltAway_24 rfl (lv_at hl 2 rfl) ?_
          refine lv_aload_n hx hb dX0_meltAway_25 rfl (lv_at hl 0 rfl) ?_
          refine va_get (D := D) (ci := 0) (v := .ref (a 1)) (C := RX0) (T := TX0) (N := 8) hx hb hts huX0 hown hK hP 0 rfl rfl 2 (by decide) (hts (.fieldLink RX0 18 "SnowSlabs$Cover" "thick" "[I") (by decide +kernel)) (fun _ h9 => h9) rfl dX0_meltAway_26 ?_
          refine lv_aload_n hx hb dX0_meltAway_29 rfl (lv_at hl 0 rfl) ?_
          refine va_get (D := D) (ci := 0) (v := .int ((upd f 0 (nI k)) 0)) (C := RX0) (T := TX0) (N := 8) hx hb hts huX0 hown hK hP 0 rfl rfl 0 (by decide) (hts (.fieldLink RX0 9 "SnowSlabs$Cover" "size" "I") (by decide +kernel)) (fun _ h9 => h9) rfl dX0_meltAway_30 ?_
          refine sn_top (pk_us) ?_
          refine lv_iconst (v := 1) hx hb dX0_meltAway_33 (by decide) ?_
          refine lv_isub hx hb dX0_meltAway_34 ?_
          refine sn_top (sn_nsub (a := k) (b := 1) rfl rfl (by omega)) ?_
          refine sn_ild (k := k - 1) (v := f (7 + 5 * (k - 1))) 1 0 hx hb hK hP rfl rfl (by omega) (by decide) rfl (pk_un (by omega)) dX0_meltAway_35 ?_
          refine lv_isub hx hb dX0_meltAway_36 ?_
          refine lv_istore_n (lv' := [(2, .int (r - (f (7 + 5 * (k - 1))))), (0, .ref (a 0)), (1, .int x)]) hx hb dX0_meltAway_37 rfl hl (by decide) rfl (fun ls hl => ?_)
          refine lv_aload_n hx hb dX0_meltAway_38 rfl (lv_at hl 1 rfl) ?_
          refine lv_dup hx hb dX0_meltAway_39 rfl ?_
          refine va_get (D := D) (ci := 0) (v := .int ((upd f 0 (nI k)) 0)) (C := RX0) (T := TX0) (N := 8) hx hb hts huX0 hown hK hP 0 rfl rfl 0 (by decide) (hts (.fieldLink RX0 9 "SnowSlabs$Cover" "size" "I") (by decide +kernel)) (fun _ h9 => h9) rfl dX0_meltAway_40 ?_
          refine sn_top (pk_us) ?_
          refine lv_iconst (v := 1) hx hb dX0_meltAway_43 (by decide) ?_
          refine lv_isub hx hb dX0_meltAway_44 ?_
          refine sn_top (sn_nsub (a := k) (b := 1) rfl rfl (by omega)) ?_
          refine va_put (D := D) (ci := 0) (v := .int (nI (k - 1))) (ty := .int) (C := RX0) (T := TX0) (N := 8) hx hb hts huX0 tyX0 tyX0_ok nmX0 hown hK hP hD hS 0 rfl rfl 0 (by decide) (hts (.fieldLink RX0 9 "SnowSlabs$Cover" "size" "I") (by decide +kernel)) (fun _ h9 => h9) rfl (by decide +kernel) rfl rfl (Nat.le_of_ble_eq_true rfl) dX0_meltAway_45 (fun H locs hP hD hS => ?_)
          have hP : va_P D vwCl ([(a 0, .inr (0, [.int (nI (k - 1)), .int (upd f 0 (nI k) 1), .ref (a 1), .ref (a 2), .ref (a 3), .ref (a 4), .ref (a 5), .ref (a 6)])), (a 1, .inl (cI, 10, .inl (fun z_ => (upd f 0 (nI k)) (7 + 5 * z_)))), (a 2, .inl (cI, 10, .inl (fun z_ => (upd f 0 (nI k)) (8 + 5 * z_)))), (a 3, .inl (cI, 10, .inl (fun z_ => (upd f 0 (nI k)) (9 + 5 * z_)))), (a 4, .inl (cI, 10, .inl (fun z_ => (upd f 0 (nI k)) (10 + 5 * z_)))), (a 5, .inl (cZ, 10, .inl (fun z_ => (upd f 0 (nI k)) (11 + 5 * z_)))), (a 6, .inl (cI, 5, .inl (fun z_ => (upd f 0 (nI k)) (2 + z_))))]) H := hP
          have hD : va_D A ([(a 0, .inr (0, [.int (nI (k - 1)), .int (upd f 0 (nI k) 1), .ref (a 1), .ref (a 2), .ref (a 3), .ref (a 4), .ref (a 5), .ref (a 6)])), (a 1, .inl (cI, 10, .inl (fun z_ => (upd f 0 (nI k)) (7 + 5 * z_)))), (a 2, .inl (cI, 10, .inl (fun z_ => (upd f 0 (nI k)) (8 + 5 * z_)))), (a 3, .inl (cI, 10, .inl (fun z_ => (upd f 0 (nI k)) (9 + 5 * z_)))), (a 4, .inl (cI, 10, .inl (fun z_ => (upd f 0 (nI k)) (10 + 5 * z_)))), (a 5, .inl (cZ, 10, .inl (fun z_ => (upd f 0 (nI k)) (11 + 5 * z_)))), (a 6, .inl (cI, 5, .inl (fun z_ => (upd f 0 (nI k)) (2 + z_))))]) := hD
          refine lv_goto (tgt := 2) hx hb dX0_meltAway_48 (by decide) ?_
          have hE : sn_eW ([(a 0, .inr (0, [.int (nI (k - 1)), .int (upd f 0 (nI k) 1), .ref (a 1), .ref (a 2), .ref (a 3), .ref (a 4), .ref (a 5), .ref (a 6)])), (a 1, .inl (cI, 10, .inl (fun z_ => (upd f 0 (nI k)) (7 + 5 * z_)))), (a 2, .inl (cI, 10, .inl (fun z_ => (upd f 0 (nI k)) (8 + 5 * z_)))), (a 3, .inl (cI, 10, .inl (fun z_ => (upd f 0 (nI k)) (9 + 5 * z_)))), (a 4, .inl (cI, 10, .inl (fun z_ => (upd f 0 (nI k)) (10 + 5 * z_)))), (a 5, .inl (cZ, 10, .inl (fun z_ => (upd f 0 (nI k)) (11 + 5 * z_)))), (a 6, .inl (cI, 5, .inl (fun z_ => (upd f 0 (nI k)) (2 + z_))))]) ([(a 0, .inr (0, [.int ((upd f 0 (nI (k - 1))) 0), .int (upd f 0 (nI (k - 1)) 1), .ref (a 1), .ref (a 2), .ref (a 3), .ref (a 4), .ref (a 5), .ref (a 6)])), (a 1, .inl (cI, 10, .inl (fun z_ => (upd f 0 (nI (k - 1))) (7 + 5 * z_)))), (a 2, .inl (cI, 10, .inl (fun z_ => (upd f 0 (nI (k - 1))) (8 + 5 * z_)))), (a 3, .inl (cI, 10, .inl (fun z_ => (upd f 0 (nI (k - 1))) (9 + 5 * z_)))), (a 4, .inl (cI, 10, .inl (fun z_ => (upd f 0 (nI (k - 1))) (10 + 5 * z_)))), (a 5, .inl (cZ, 10, .inl (fun z_ => (upd f 0 (nI (k - 1))) (11 + 5 * z_)))), (a 6, .inl (cI, 5, .inl (fun z_ => (upd f 0 (nI (k - 1))) (2 + z_))))]) := sn_eC (sn_eOb (by (simp only [upd]) <;> (repeat' split) <;> first | rfl | omega | (simp_all; done) | (exfalso; simp_all; done)) (by (simp only [upd]) <;> (repeat' split) <;> first | rfl | omega | (simp_all; done) | (exfalso; simp_all; done))) (sn_eC (sn_eI (fun z_ hz => by (simp only [upd]) <;> (repeat' split) <;> first | rfl | omega | (simp_all; done) | (exfalso; simp_all; done))) (sn_eC (sn_eI (fun z_ hz => by (simp only [upd]) <;> (repeat' split) <;> first | rfl | omega | (simp_all; done) | (exfalso; simp_all; done))) (sn_eC (sn_eI (fun z_ hz => by (simp only [upd]) <;> (repeat' split) <;> first | rfl | omega | (simp_all; done) | (exfalso; simp_all; done))) (sn_eC (sn_eI (fun z_ hz => by (simp only [upd]) <;> (repeat' split) <;> first | rfl | omega | (simp_all; done) | (exfalso; simp_all; done))) (sn_eC (sn_eI (fun z_ hz => by (simp only [upd]) <;> (repeat' split) <;> first | rfl | omega | (simp_all; done) | (exfalso; simp_all; done))) (sn_eC (sn_eI (fun z_ hz => by (simp only [upd]) <;> (repeat' split) <;> first | rfl | omega | (simp_all; done) | (exfalso; simp_all; done))) (sn_eN)))))))
          exact ih_loop (k - 1) (r - (f (7 + 5 * (k - 1)))) (by omega) ((sn_mlN_y (by omega) (Int32.not_lt.mp c_3)).symm.trans hq1) ((sn_mlR_y (by omega) (Int32.not_lt.mp c_3)).symm.trans hq2) (by omega) _ _ (hE.P hP) (hE.D hD) hS ls (lv_sub hl [1, 2, 0] rfl)
  have hE : sn_eW ([(a 0, .inr (0, [.int (f 0), .int (f 1), .ref (a 1), .ref (a 2), .ref (a 3), .ref (a 4), .ref (a 5), .ref (a 6)])), (a 1, .inl (cI, 10, .inl (fun z_ => f (7 + 5 * z_)))), (a 2, .inl (cI, 10, .inl (fun z_ => f (8 + 5 * z_)))), (a 3, .inl (cI, 10, .inl (fun z_ => f (9 + 5 * z_)))), (a 4, .inl (cI, 10, .inl (fun z_ => f (10 + 5 * z_)))), (a 5, .inl (cZ, 10, .inl (fun z_ => f (11 + 5 * z_)))), (a 6, .inl (cI, 5, .inl (fun z_ => f (2 + z_))))]) ([(a 0, .inr (0, [.int ((upd f 0 (nI n)) 0), .int (upd f 0 (nI n) 1), .ref (a 1), .ref (a 2), .ref (a 3), .ref (a 4), .ref (a 5), .ref (a 6)])), (a 1, .inl (cI, 10, .inl (fun z_ => (upd f 0 (nI n)) (7 + 5 * z_)))), (a 2, .inl (cI, 10, .inl (fun z_ => (upd f 0 (nI n)) (8 + 5 * z_)))), (a 3, .inl (cI, 10, .inl (fun z_ => (upd f 0 (nI n)) (9 + 5 * z_)))), (a 4, .inl (cI, 10, .inl (fun z_ => (upd f 0 (nI n)) (10 + 5 * z_)))), (a 5, .inl (cZ, 10, .inl (fun z_ => (upd f 0 (nI n)) (11 + 5 * z_)))), (a 6, .inl (cI, 5, .inl (fun z_ => (upd f 0 (nI n)) (2 + z_))))]) := (by rw [sn_upd_same hI.1]; exact sn_eS _)
  exact loop (n + 1) n x (Nat.le_refl _) rfl rfl (by omega) _ _ (hE.P hP) (hE.D hD) hS ls (lv_sub hl [1, 2, 0] rfl)
set_option maxRecDepth 100000 in
set_option maxHeartbeats 4000000 in
theorem ct_X0_wetFromTop (l : Launch) (D : va_G) (cI cZ cR : ClassId) (a : Nat → Nat) (f : Nat → Int32) (n : Nat) (hn : f 0 = nI n) (hn10 : n ≤ 10) (sz : Nat) : sn_Uv l yX0_wetFromTop wsX0_wetFromTop 0 0 0 [.ref (a 0)] D (sn_ty cI cZ cR) (sn_wC cI cZ a f) sz (fun u_ : Nat → Int32 => u_ = sn_weF f n) (fun u_ => sn_wC cI cZ a u_) := by
  refine sn_uv (cc := cX0_wetFromTop) (maxL := 2) (ret := none) (by decide) rfl (Nat.le_of_ble_eq_true rfl) ?_
  intro p e s m below meth c A hx hb hml hr hlk hin hts hown hA hF0 hK hN H locs hP hD hS ls hl
  have hC : CallFix p m c cX0_wetFromTop 2 s [.ref (a 0)].toArray wsX0_wetFromTop RX0 := ⟨hx, hb, hml, hown, hts⟩
  have hl : lv_has ls 2 [(0, .ref (a 0))] := hl
  have huX0 : ∀ w ∈ wsX00, w ∈ wsX0_wetFromTop := by decide +kernel
  refine lv_aload_n hx hb dX0_wetFromTop_0 rfl (lv_at hl 0 rfl) ?_
  refine va_get (D := D) (ci := 0) (v := .int (f 0)) (C := RX0) (T := TX0) (N := 8) hx hb hts huX0 hown hK hP 0 rfl rfl 0 (by decide) (hts (.fieldLink RX0 9 "SnowSlabs$Cover" "size" "I") (by decide +kernel)) (fun _ h9 => h9) rfl dX0_wetFromTop_1 ?_
  refine sn_top (hn) ?_
  refine lv_iconst (v := 1) hx hb dX0_wetFromTop_4 (by decide) ?_
  refine lv_isub hx hb dX0_wetFromTop_5 ?_
  refine lv_istore_n (lv' := [(1, .int ((nI n) - 1)), (0, .ref (a 0))]) hx hb dX0_wetFromTop_6 rfl hl (by decide) rfl (fun ls hl => ?_)
  have loop : ∀ (j : Nat) (xj : Int32) (gg : Nat → Int32), sn_dn j xj → (j ≤ 10) → (sn_weF gg j = sn_weF f n) → ∀ (H : Heap) (locs : List Loc), va_P D vwCl ([(a 0, .inr (0, [.int (gg 0), .int (gg 1), .ref (a 1), .ref (a 2), .ref (a 3), .ref (a 4), .ref (a 5), .ref (a 6)])), (a 1, .inl (cI, 10, .inl (fun z_ => gg (7 + 5 * z_)))), (a 2, .inl (cI, 10, .inl (fun z_ => gg (8 + 5 * z_)))), (a 3, .inl (cI, 10, .inl (fun z_ => gg (9 + 5 * z_)))), (a 4, .inl (cI, 10, .inl (fun z_ => gg (10 + 5 * z_)))), (a 5, .inl (cZ, 10, .inl (fun z_ => gg (11 + 5 * z_)))), (a 6, .inl (cI, 5, .inl (fun z_ => gg (2 + z_))))]) H → va_D A ([(a 0, .inr (0, [.int (gg 0), .int (gg 1), .ref (a 1), .ref (a 2), .ref (a 3), .ref (a 4), .ref (a 5), .ref (a 6)])), (a 1, .inl (cI, 10, .inl (fun z_ => gg (7 + 5 * z_)))), (a 2, .inl (cI, 10, .inl (fun z_ => gg (8 + 5 * z_)))), (a 3, .inl (cI, 10, .inl (fun z_ => gg (9 + 5 * z_)))), (a 4, .inl (cI, 10, .inl (fun z_ => gg (10 + 5 * z_)))), (a 5, .inl (cZ, 10, .inl (fun z_ => gg (11 + 5 * z_)))), (a 6, .inl (cI, 5, .inl (fun z_ => gg (2 + z_))))]) → va_S A s.heap H locs → ∀ ls : Array Slot, lv_has ls 2 [(0, .ref (a 0)), (1, .int xj)] → W p l e (sn_rm 0 0 0) s m [.ref (a 0)].toArray below meth c H locs 0 0 (MQ below (va_Qv (fun u_ : Nat → Int32 => u_ = sn_weF f n) (fun u_ t_ => va_P D vwCl (sn_wC cI cZ a u_) t_.heap ∧ va_D A (sn_wC cI cZ a u_)) A) [.ref (a 0)].toArray s 0 0 A) (F0 m 7 ls []) := by
    intro j
    induction j with
    | zero =>
      intro xj gg hdn hj hq H locs hP hD hS ls hl
      have hdn : xj < 0 := hdn
      refine lv_iload_n hx hb dX0_wetFromTop_7 rfl (lv_at hl 1 rfl) ?_
      refine lv_if_lt (tgt := 34) hx hb dX0_wetFromTop_8 (by decide) (fun c_1 => ?_) (fun c_1 => ?_)
      · exact sn_vret (gg) hx hb hr hlk dX0_wetFromTop_34 hP hD hS (hq) (Nat.le_of_ble_eq_true rfl) (Nat.le_of_ble_eq_true rfl)
      · exact absurd hdn c_1
    | succ j ih_loop =>
      intro xj gg hdn hj hq H locs hP hD hS ls hl
      have hdn : xj = nI j := hdn
      subst hdn
      refine lv_iload_n hx hb dX0_wetFromTop_7 rfl (lv_at hl 1 rfl) ?_
      refine lv_if_lt (tgt := 34) hx hb dX0_wetFromTop_8 (by decide) (fun c_2 => ?_) (fun c_2 => ?_)
      · have c_2 := (sn_cltj (a := j) (b := 0) rfl rfl (by omega) (by omega)).mp c_2
        exact absurd c_2 (by omega)
      · have c_2 := (sn_cltf (a := j) (b := 0) rfl rfl (by omega) (by omega)).mp c_2
        refine lv_aload_n hx hb dX0_wetFromTop_11 rfl (lv_at hl 0 rfl) ?_
        refine va_get (D := D) (ci := 0) (v := .ref (a 3)) (C := RX0) (T := TX0) (N := 8) hx hb hts huX0 hown hK hP 0 rfl rfl 4 (by decide) (hts (.fieldLink RX0 25 "SnowSlabs$Cover" "grain" "[I") (by decide +kernel)) (fun _ h9 => h9) rfl dX0_wetFromTop_12 ?_
        refine lv_iload_n hx hb dX0_wetFromTop_15 rfl (lv_at hl 1 rfl) ?_
        refine sn_ild (k := j) (v := gg (9 + 5 * j)) 3 0 hx hb hK hP rfl rfl (by omega) (by decide) rfl (rfl) dX0_wetFromTop_16 ?_
        refine lv_iconst (v := 4) hx hb dX0_wetFromTop_17 (by decide) ?_
        refine lv_icmp_eq (tgt := 34) hx hb dX0_wetFromTop_18 (by decide) (fun c_3 => ?_) (fun c_3 => ?_)
        · exact sn_vret (gg) hx hb hr hlk dX0_wetFromTop_34 hP hD hS ((if_pos c_3).symm.trans hq) (Nat.le_of_ble_eq_true rfl) (Nat.le_of_ble_eq_true rfl)
        · refine lv_aload_n hx hb dX0_wetFromTop_21 rfl (lv_at hl 0 rfl) ?_
          refine va_get (D := D) (ci := 0) (v := .ref (a 5)) (C := RX0) (T := TX0) (N := 8) hx hb hts huX0 hown hK hP 0 rfl rfl 6 (by decide) (hts (.fieldLink RX0 31 "SnowSlabs$Cover" "wet" "[Z") (by decide +kernel)) (fun _ h9 => h9) rfl dX0_wetFromTop_22 ?_
          refine lv_iload_n hx hb dX0_wetFromTop_25 rfl (lv_at hl 1 rfl) ?_
          refine lv_iconst (v := 1) hx hb dX0_wetFromTop_26 (by decide) ?_
          refine sn_zst (k := j) 5 1 hx hb hK hP hD hS rfl rfl (by omega) (by decide) rfl (by decide) dX0_wetFromTop_27 (fun H locs hP hD hS => ?_)
          have hP : va_P D vwCl ([(a 0, .inr (0, [.int (gg 0), .int (gg 1), .ref (a 1), .ref (a 2), .ref (a 3), .ref (a 4), .ref (a 5), .ref (a 6)])), (a 1, .inl (cI, 10, .inl (fun z_ => gg (7 + 5 * z_)))), (a 2, .inl (cI, 10, .inl (fun z_ => gg (8 + 5 * z_)))), (a 3, .inl (cI, 10, .inl (fun z_ => gg (9 + 5 * z_)))), (a 4, .inl (cI, 10, .inl (fun z_ => gg (10 + 5 * z_)))), (a 5, .inl (cZ, 10, .inl (upd (fun z_ => gg (11 + 5 * z_)) j 1))), (a 6, .inl (cI, 5, .inl (fun z_ => gg (2 + z_))))]) H := hP
          have hD : va_D A ([(a 0, .inr (0, [.int (gg 0), .int (gg 1), .ref (a 1), .ref (a 2), .ref (a 3), .ref (a 4), .ref (a 5), .ref (a 6)])), (a 1, .inl (cI, 10, .inl (fun z_ => gg (7 + 5 * z_)))), (a 2, .inl (cI, 10, .inl (fun z_ => gg (8 + 5 * z_)))), (a 3, .inl (cI, 10, .inl (fun z_ => gg (9 + 5 * z_)))), (a 4, .inl (cI, 10, .inl (fun z_ => gg (10 + 5 * z_)))), (a 5, .inl (cZ, 10, .inl (upd (fun z_ => gg (11 + 5 * z_)) j 1))), (a 6, .inl (cI, 5, .inl (fun z_ => gg (2 + z_))))]) := hD
          refine lv_iinc (v := (nI j) + (-1)) (lv' := [(1, .int ((nI j) + (-1))), (0, .ref (a 0))]) hx hb dX0_wetFromTop_28 hl (k := 1) rfl (rfl) (by decide) rfl (fun ls hl => ?_)
          refine lv_goto (tgt := 7) hx hb dX0_wetFromTop_31 (by decide) ?_
          have hE : sn_eW ([(a 0, .inr (0, [.int (gg 0), .int (gg 1), .ref (a 1), .ref (a 2), .ref (a 3), .ref (a 4), .ref (a 5), .ref (a 6)])), (a 1, .inl (cI, 10, .inl (fun z_ => gg (7 + 5 * z_)))), (a 2, .inl (cI, 10, .inl (fun z_ => gg (8 + 5 * z_)))), (a 3, .inl (cI, 10, .inl (fun z_ => gg (9 + 5 * z_)))), (a 4, .inl (cI, 10, .inl (fun z_ => gg (10 + 5 * z_)))), (a 5, .inl (cZ, 10, .inl (upd (fun z_ => gg (11 + 5 * z_)) j 1))), (a 6, .inl (cI, 5, .inl (fun z_ => gg (2 + z_))))]) ([(a 0, .inr (0, [.int ((upd gg (11 + 5 * j) 1) 0), .int ((upd gg (11 + 5 * j) 1) 1), .ref (a 1), .ref (a 2), .ref (a 3), .ref (a 4), .ref (a 5), .ref (a 6)])), (a 1, .inl (cI, 10, .inl (fun z_ => (upd gg (11 + 5 * j) 1) (7 + 5 * z_)))), (a 2, .inl (cI, 10, .inl (fun z_ => (upd gg (11 + 5 * j) 1) (8 + 5 * z_)))), (a 3, .inl (cI, 10, .inl (fun z_ => (upd gg (11 + 5 * j) 1) (9 + 5 * z_)))), (a 4, .inl (cI, 10, .inl (fun z_ => (upd gg (11 + 5 * j) 1) (10 + 5 * z_)))), (a 5, .inl (cZ, 10, .inl (fun z_ => (upd gg (11 + 5 * j) 1) (11 + 5 * z_)))), (a 6, .inl (cI, 5, .inl (fun z_ => (upd gg (11 + 5 * j) 1) (2 + z_))))]) := sn_eC (sn_eOb (by (simp only [upd]) <;> (repeat' split) <;> first | rfl | omega | (simp_all; done) | (exfalso; simp_all; done)) (by (simp only [upd]) <;> (repeat' split) <;> first | rfl | omega | (simp_all; done) | (exfalso; simp_all; done))) (sn_eC (sn_eI (fun z_ hz => by (simp only [upd]) <;> (repeat' split) <;> first | rfl | omega | (simp_all; done) | (exfalso; simp_all; done))) (sn_eC (sn_eI (fun z_ hz => by (simp only [upd]) <;> (repeat' split) <;> first | rfl | omega | (simp_all; done) | (exfalso; simp_all; done))) (sn_eC (sn_eI (fun z_ hz => by (simp only [upd]) <;> (repeat' split) <;> first | rfl | omega | (simp_all; done) | (exfalso; simp_all; done))) (sn_eC (sn_eI (fun z_ hz => by (simp only [upd]) <;> (repeat' split) <;> first | rfl | omega | (simp_all; done) | (exfalso; simp_all; done))) (sn_eC (sn_eI (fun z_ hz => by (simp only [upd]) <;> (repeat' split) <;> first | rfl | omega | (simp_all; done) | (exfalso; simp_all; done))) (sn_eC (sn_eI (fun z_ hz => by (simp only [upd]) <;> (repeat' split) <;> first | rfl | omega | (simp_all; done) | (exfalso; simp_all; done))) (sn_eN)))))))
          exact ih_loop ((nI j) + (-1)) (upd gg (11 + 5 * j) 1) (sn_dn_p j) (by omega) ((if_neg c_3).symm.trans hq) _ _ (hE.P hP) (hE.D hD) hS ls (lv_sub hl [1, 0] rfl)
  exact loop n ((nI n) - 1) f (sn_dn_1 n) hn10 rfl _ _ hP hD hS ls (lv_sub hl [1, 0] rfl)
set_option maxRecDepth 100000 in
set_option maxHeartbeats 4000000 in
theorem ct_X0_freezeWet (l : Launch) (D : va_G) (cI cZ cR : ClassId) (a : Nat → Nat) (f : Nat → Int32) (n : Nat) (hI : sn_I f n) (sz : Nat) : sn_Up l yX0_freezeWet wsX0_freezeWet 0 0 0 [.ref (a 0)] D (sn_ty cI cZ cR) (sn_wC cI cZ a f) sz (fun u_ : Nat → Int32 => u_ = sn_frF f n) (fun u_ => nI (sn_frC f n)) (fun u_ => sn_wC cI cZ a u_) := by
  refine sn_up (cc := cX0_freezeWet) (maxL := 3) (ret := (some .int)) (by decide) rfl (Nat.le_of_ble_eq_true rfl) ?_
  intro p e s m below meth c A hx hb hml hr hlk hts hown hA hF0 hK hN H locs hP hD hS ls hl
  have hC : CallFix p m c cX0_freezeWet 3 s [.ref (a 0)].toArray wsX0_freezeWet RX0 := ⟨hx, hb, hml, hown, hts⟩
  have hl : lv_has ls 3 [(0, .ref (a 0))] := hl
  have huX0 : ∀ w ∈ wsX00, w ∈ wsX0_freezeWet := by decide +kernel
  have hn10 := hI.2.1
  refine lv_iconst (v := 0) hx hb dX0_freezeWet_0 (by decide) ?_
  refine lv_istore_n (lv' := [(1, .int 0), (0, .ref (a 0))]) hx hb dX0_freezeWet_1 rfl hl (by decide) rfl (fun ls hl => ?_)
  refine lv_iconst (v := 0) hx hb dX0_freezeWet_2 (by decide) ?_
  refine lv_istore_n (lv' := [(2, .int 0), (1, .int 0), (0, .ref (a 0))]) hx hb dX0_freezeWet_3 rfl hl (by decide) rfl (fun ls hl => ?_)
  have loop : ∀ (fu : Nat) (k : Nat), (k ≤ n) → n - k < fu → ∀ (H : Heap) (locs : List Loc), va_P D vwCl ([(a 0, .inr (0, [.int ((sn_frF f k) 0), .int ((sn_frF f k) 1), .ref (a 1), .ref (a 2), .ref (a 3), .ref (a 4), .ref (a 5), .ref (a 6)])), (a 1, .inl (cI, 10, .inl (fun z_ => (sn_frF f k) (7 + 5 * z_)))), (a 2, .inl (cI, 10, .inl (fun z_ => (sn_frF f k) (8 + 5 * z_)))), (a 3, .inl (cI, 10, .inl (fun z_ => (sn_frF f k) (9 + 5 * z_)))), (a 4, .inl (cI, 10, .inl (fun z_ => (sn_frF f k) (10 + 5 * z_)))), (a 5, .inl (cZ, 10, .inl (fun z_ => (sn_frF f k) (11 + 5 * z_)))), (a 6, .inl (cI, 5, .inl (fun z_ => (sn_frF f k) (2 + z_))))]) H → va_D A ([(a 0, .inr (0, [.int ((sn_frF f k) 0), .int ((sn_frF f k) 1), .ref (a 1), .ref (a 2), .ref (a 3), .ref (a 4), .ref (a 5), .ref (a 6)])), (a 1, .inl (cI, 10, .inl (fun z_ => (sn_frF f k) (7 + 5 * z_)))), (a 2, .inl (cI, 10, .inl (fun z_ => (sn_frF f k) (8 + 5 * z_)))), (a 3, .inl (cI, 10, .inl (fun z_ => (sn_frF f k) (9 + 5 * z_)))), (a 4, .inl (cI, 10, .inl (fun z_ => (sn_frF f k) (10 + 5 * z_)))), (a 5, .inl (cZ, 10, .inl (fun z_ => (sn_frF f k) (11 + 5 * z_)))), (a 6, .inl (cI, 5, .inl (fun z_ => (sn_frF f k) (2 + z_))))]) → va_S A s.heap H locs → ∀ ls : Array Slot, lv_has ls 3 [(0, .ref (a 0)), (1, .int (nI (sn_frC f k))), (2, .int (nI k))] → W p l e (sn_rm 0 0 0) s m [.ref (a 0)].toArray below meth c H locs 0 0 (MQ below (va_Qi (fun r_ (u_ : Nat → Int32) => r_ = nI (sn_frC f n) ∧ u_ = sn_frF f n) (fun u_ t_ => va_P D vwCl (sn_wC cI cZ a u_) t_.heap ∧ va_D A (sn_wC cI cZ a u_)) A) [.ref (a 0)].toArray s 0 0 A) (F0 m 4 ls []) := by
    intro fu
    induction fu with
    | zero => intro k h1 hm; exact absurd hm (Nat.not_lt_zero _)
    | succ fu ih_loop =>
      intro k h1 hm H locs hP hD hS ls hl
      refine lv_iload_n hx hb dX0_freezeWet_4 rfl (lv_at hl 2 rfl) ?_
      refine lv_aload_n hx hb dX0_freezeWet_5 rfl (lv_at hl 0 rfl) ?_
      refine va_get (D := D) (ci := 0) (v := .int ((sn_frF f k) 0)) (C := RX0) (T := TX0) (N := 8) hx hb hts huX0 hown hK hP 0 rfl rfl 0 (by decide) (hts (.fieldLink RX0 9 "SnowSlabs$Cover" "size" "I") (by decide +kernel)) (fun _ h9 => h9) rfl dX0_freezeWet_6 ?_
      refine sn_top ((sn_frF_0 f k).trans hI.1) ?_
      refine lv_icmp_ge (tgt := 51) hx hb dX0_freezeWet_9 (by decide) (fun c_1 => ?_) (fun c_1 => ?_)
      · have c_1 := (sn_cgej (a := k) (b := n) rfl rfl (by omega) (by omega)).mp c_1
        refine lv_iload_n hx hb dX0_freezeWet_51 rfl (lv_at hl 1 rfl) ?_
        exact sn_uret (sn_frF f k) hx hb hr hlk dX0_freezeWet_52 hP hD hS (by rw [show k = n by omega]) (by rw [show k = n by omega]) (Nat.le_of_ble_eq_true rfl) (Nat.le_of_ble_eq_true rfl)
      · have c_1 := (sn_cgef (a := k) (b := n) rfl rfl (by omega) (by omega)).mp c_1
        refine lv_aload_n hx hb dX0_freezeWet_12 rfl (lv_at hl 0 rfl) ?_
        refine va_get (D := D) (ci := 0) (v := .ref (a 5)) (C := RX0) (T := TX0) (N := 8) hx hb hts huX0 hown hK hP 0 rfl rfl 6 (by decide) (hts (.fieldLink RX0 31 "SnowSlabs$Cover" "wet" "[Z") (by decide +kernel)) (fun _ h9 => h9) rfl dX0_freezeWet_13 ?_
        refine lv_iload_n hx hb dX0_freezeWet_16 rfl (lv_at hl 2 rfl) ?_
        refine sn_zld (k := k) (v := (sn_frF f k) (11 + 5 * k)) 5 1 hx hb hK hP rfl rfl (by omega) (by decide) rfl (rfl) dX0_freezeWet_17 ?_
        refine lv_if_eq (tgt := 45) hx hb dX0_freezeWet_18 (by decide) (fun c_2 => ?_) (fun c_2 => ?_)
        · refine lv_iinc (v := nI (k + 1)) (lv' := [(2, .int (nI (k + 1))), (0, .ref (a 0)), (1, .int (nI (sn_frC f k)))]) hx hb dX0_freezeWet_45 hl (k := 2) rfl (sn_inc _) (by decide) rfl (fun ls hl => ?_)
          refine lv_goto (tgt := 4) hx hb dX0_freezeWet_48 (by decide) ?_
          have hv : sn_frC f k = sn_frC f (k + 1) := by show _ = sn_frC f k + _; rw [if_pos c_2, Nat.add_zero]
          rw [hv] at hl
          have hE : sn_eW ([(a 0, .inr (0, [.int ((sn_frF f k) 0), .int ((sn_frF f k) 1), .ref (a 1), .ref (a 2), .ref (a 3), .ref (a 4), .ref (a 5), .ref (a 6)])), (a 1, .inl (cI, 10, .inl (fun z_ => (sn_frF f k) (7 + 5 * z_)))), (a 2, .inl (cI, 10, .inl (fun z_ => (sn_frF f k) (8 + 5 * z_)))), (a 3, .inl (cI, 10, .inl (fun z_ => (sn_frF f k) (9 + 5 * z_)))), (a 4, .inl (cI, 10, .inl (fun z_ => (sn_frF f k) (10 + 5 * z_)))), (a 5, .inl (cZ, 10, .inl (fun z_ => (sn_frF f k) (11 + 5 * z_)))), (a 6, .inl (cI, 5, .inl (fun z_ => (sn_frF f k) (2 + z_))))]) ([(a 0, .inr (0, [.int ((sn_frF f (k + 1)) 0), .int ((sn_frF f (k + 1)) 1), .ref (a 1), .ref (a 2), .ref (a 3), .ref (a 4), .ref (a 5), .ref (a 6)])), (a 1, .inl (cI, 10, .inl (fun z_ => (sn_frF f (k + 1)) (7 + 5 * z_)))), (a 2, .inl (cI, 10, .inl (fun z_ => (sn_frF f (k + 1)) (8 + 5 * z_)))), (a 3, .inl (cI, 10, .inl (fun z_ => (sn_frF f (k + 1)) (9 + 5 * z_)))), (a 4, .inl (cI, 10, .inl (fun z_ => (sn_frF f (k + 1)) (10 + 5 * z_)))), (a 5, .inl (cZ, 10, .inl (fun z_ => (sn_frF f (k + 1)) (11 + 5 * z_)))), (a 6, .inl (cI, 5, .inl (fun z_ => (sn_frF f (k + 1)) (2 + z_))))]) := (by rw [show sn_frF f (k + 1) = sn_frF f k from if_pos c_2]; exact sn_eS _)
          exact ih_loop (k + 1) (by omega) (by omega) _ _ (hE.P hP) (hE.D hD) hS ls (lv_sub hl [1, 2, 0] rfl)
        · refine lv_aload_n hx hb dX0_freezeWet_21 rfl (lv_at hl 0 rfl) ?_
          refine va_get (D := D) (ci := 0) (v := .ref (a 3)) (C := RX0) (T := TX0) (N := 8) hx hb hts huX0 hown hK hP 0 rfl rfl 4 (by decide) (hts (.fieldLink RX0 25 "SnowSlabs$Cover" "grain" "[I") (by decide +kernel)) (fun _ h9 => h9) rfl dX0_freezeWet_22 ?_
          refine lv_iload_n hx hb dX0_freezeWet_25 rfl (lv_at hl 2 rfl) ?_
          refine lv_iconst (v := 4) hx hb dX0_freezeWet_26 (by decide) ?_
          refine sn_ist (k := k) 3 0 hx hb hK hP hD hS rfl rfl (by omega) (by decide) rfl dX0_freezeWet_27 (fun H locs hP hD hS => ?_)
          have hP : va_P D vwCl ([(a 0, .inr (0, [.int ((sn_frF f k) 0), .int ((sn_frF f k) 1), .ref (a 1), .ref (a 2), .ref (a 3), .ref (a 4), .ref (a 5), .ref (a 6)])), (a 1, .inl (cI, 10, .inl (fun z_ => (sn_frF f k) (7 + 5 * z_)))), (a 2, .inl (cI, 10, .inl (fun z_ => (sn_frF f k) (8 + 5 * z_)))), (a 3, .inl (cI, 10, .inl (upd (fun z_ => (sn_frF f k) (9 + 5 * z_)) k 4))), (a 4, .inl (cI, 10, .inl (fun z_ => (sn_frF f k) (10 + 5 * z_)))), (a 5, .inl (cZ, 10, .inl (fun z_ => (sn_frF f k) (11 + 5 * z_)))), (a 6, .inl (cI, 5, .inl (fun z_ => (sn_frF f k) (2 + z_))))]) H := hP
          have hD : va_D A ([(a 0, .inr (0, [.int ((sn_frF f k) 0), .int ((sn_frF f k) 1), .ref (a 1), .ref (a 2), .ref (a 3), .ref (a 4), .ref (a 5), .ref (a 6)])), (a 1, .inl (cI, 10, .inl (fun z_ => (sn_frF f k) (7 + 5 * z_)))), (a 2, .inl (cI, 10, .inl (fun z_ => (sn_frF f k) (8 + 5 * z_)))), (a 3, .inl (cI, 10, .inl (upd (fun z_ => (sn_frF f k) (9 + 5 * z_)) k 4))), (a 4, .inl (cI, 10, .inl (fun z_ => (sn_frF f k) (10 + 5 * z_)))), (a 5, .inl (cZ, 10, .inl (fun z_ => (sn_frF f k) (11 + 5 * z_)))), (a 6, .inl (cI, 5, .inl (fun z_ => (sn_frF f k) (2 + z_))))]) := hD
          refine lv_aload_n hx hb dX0_freezeWet_28 rfl (lv_at hl 0 rfl) ?_
          refine va_get (D := D) (ci := 0) (v := .ref (a 4)) (C := RX0) (T := TX0) (N := 8) hx hb hts huX0 hown hK hP 0 rfl rfl 5 (by decide) (hts (.fieldLink RX0 28 "SnowSlabs$Cover" "hard" "[I") (by decide +kernel)) (fun _ h9 => h9) rfl dX0_freezeWet_29 ?_
          refine lv_iload_n hx hb dX0_freezeWet_32 rfl (lv_at hl 2 rfl) ?_
          refine lv_iconst (v := 5) hx hb dX0_freezeWet_33 (by decide) ?_
          refine sn_ist (k := k) 4 0 hx hb hK hP hD hS rfl rfl (by omega) (by decide) rfl dX0_freezeWet_34 (fun H locs hP hD hS => ?_)
          have hP : va_P D vwCl ([(a 0, .inr (0, [.int ((sn_frF f k) 0), .int ((sn_frF f k) 1), .ref (a 1), .ref (a 2), .ref (a 3), .ref (a 4), .ref (a 5), .ref (a 6)])), (a 1, .inl (cI, 10, .inl (fun z_ => (sn_frF f k) (7 + 5 * z_)))), (a 2, .inl (cI, 10, .inl (fun z_ => (sn_frF f k) (8 + 5 * z_)))), (a 3, .inl (cI, 10, .inl (upd (fun z_ => (sn_frF f k) (9 + 5 * z_)) k 4))), (a 4, .inl (cI, 10, .inl (upd (fun z_ => (sn_frF f k) (10 + 5 * z_)) k 5))), (a 5, .inl (cZ, 10, .inl (fun z_ => (sn_frF f k) (11 + 5 * z_)))), (a 6, .inl (cI, 5, .inl (fun z_ => (sn_frF f k) (2 + z_))))]) H := hP
          have hD : va_D A ([(a 0, .inr (0, [.int ((sn_frF f k) 0), .int ((sn_frF f k) 1), .ref (a 1), .ref (a 2), .ref (a 3), .ref (a 4), .ref (a 5), .ref (a 6)])), (a 1, .inl (cI, 10, .inl (fun z_ => (sn_frF f k) (7 + 5 * z_)))), (a 2, .inl (cI, 10, .inl (fun z_ => (sn_frF f k) (8 + 5 * z_)))), (a 3, .inl (cI, 10, .inl (upd (fun z_ => (sn_frF f k) (9 + 5 * z_)) k 4))), (a 4, .inl (cI, 10, .inl (upd (fun z_ => (sn_frF f k) (10 + 5 * z_)) k 5))), (a 5, .inl (cZ, 10, .inl (fun z_ => (sn_frF f k) (11 + 5 * z_)))), (a 6, .inl (cI, 5, .inl (fun z_ => (sn_frF f k) (2 + z_))))]) := hD
          refine lv_aload_n hx hb dX0_freezeWet_35 rfl (lv_at hl 0 rfl) ?_
          refine va_get (D := D) (ci := 0) (v := .ref (a 5)) (C := RX0) (T := TX0) (N := 8) hx hb hts huX0 hown hK hP 0 rfl rfl 6 (by decide) (hts (.fieldLink RX0 31 "SnowSlabs$Cover" "wet" "[Z") (by decide +kernel)) (fun _ h9 => h9) rfl dX0_freezeWet_36 ?_
          refine lv_iload_n hx hb dX0_freezeWet_39 rfl (lv_at hl 2 rfl) ?_
          refine lv_iconst (v := 0) hx hb dX0_freezeWet_40 (by decide) ?_
          refine sn_zst (k := k) 5 1 hx hb hK hP hD hS rfl rfl (by omega) (by decide) rfl (by decide) dX0_freezeWet_41 (fun H locs hP hD hS => ?_)
          have hP : va_P D vwCl ([(a 0, .inr (0, [.int ((sn_frF f k) 0), .int ((sn_frF f k) 1), .ref (a 1), .ref (a 2), .ref (a 3), .ref (a 4), .ref (a 5), .ref (a 6)])), (a 1, .inl (cI, 10, .inl (fun z_ => (sn_frF f k) (7 + 5 * z_)))), (a 2, .inl (cI, 10, .inl (fun z_ => (sn_frF f k) (8 + 5 * z_)))), (a 3, .inl (cI, 10, .inl (upd (fun z_ => (sn_frF f k) (9 + 5 * z_)) k 4))), (a 4, .inl (cI, 10, .inl (upd (fun z_ => (sn_frF f k) (10 + 5 * z_)) k 5))), (a 5, .inl (cZ, 10, .inl (upd (fun z_ => (sn_frF f k) (11 + 5 * z_)) k 0))), (a 6, .inl (cI, 5, .inl (fun z_ => (sn_frF f k) (2 + z_))))]) H := hP
          have hD : va_D A ([(a 0, .inr (0, [.int ((sn_frF f k) 0), .int ((sn_frF f k) 1), .ref (a 1), .ref (a 2), .ref (a 3), .ref (a 4), .ref (a 5), .ref (a 6)])), (a 1, .inl (cI, 10, .inl (fun z_ => (sn_frF f k) (7 + 5 * z_)))), (a 2, .inl (cI, 10, .inl (fun z_ => (sn_frF f k) (8 + 5 * z_)))), (a 3, .inl (cI, 10, .inl (upd (fun z_ => (sn_frF f k) (9 + 5 * z_)) k 4))), (a 4, .inl (cI, 10, .inl (upd (fun z_ => (sn_frF f k) (10 + 5 * z_)) k 5))), (a 5, .inl (cZ, 10, .inl (upd (fun z_ => (sn_frF f k) (11 + 5 * z_)) k 0))), (a 6, .inl (cI, 5, .inl (fun z_ => (sn_frF f k) (2 + z_))))]) := hD
          refine lv_iinc (v := nI (sn_frC f k + 1)) (lv' := [(1, .int (nI (sn_frC f k + 1))), (0, .ref (a 0)), (2, .int (nI k))]) hx hb dX0_freezeWet_42 hl (k := 1) rfl (sn_inc _) (by decide) rfl (fun ls hl => ?_)
          refine lv_iinc (v := nI (k + 1)) (lv' := [(2, .int (nI (k + 1))), (1, .int (nI (sn_frC f k + 1))), (0, .ref (a 0))]) hx hb dX0_freezeWet_45 hl (k := 2) rfl (sn_inc _) (by decide) rfl (fun ls hl => ?_)
          refine lv_goto (tgt := 4) hx hb dX0_freezeWet_48 (by decide) ?_
          have hv : sn_frC f k + 1 = sn_frC f (k + 1) := by show _ = sn_frC f k + _; rw [if_neg c_2]
          rw [hv] at hl
          have hE : sn_eW ([(a 0, .inr (0, [.int ((sn_frF f k) 0), .int ((sn_frF f k) 1), .ref (a 1), .ref (a 2), .ref (a 3), .ref (a 4), .ref (a 5), .ref (a 6)])), (a 1, .inl (cI, 10, .inl (fun z_ => (sn_frF f k) (7 + 5 * z_)))), (a 2, .inl (cI, 10, .inl (fun z_ => (sn_frF f k) (8 + 5 * z_)))), (a 3, .inl (cI, 10, .inl (upd (fun z_ => (sn_frF f k) (9 + 5 * z_)) k 4))), (a 4, .inl (cI, 10, .inl (upd (fun z_ => (sn_frF f k) (10 + 5 * z_)) k 5))), (a 5, .inl (cZ, 10, .inl (upd (fun z_ => (sn_frF f k) (11 + 5 * z_)) k 0))), (a 6, .inl (cI, 5, .inl (fun z_ => (sn_frF f k) (2 + z_))))]) ([(a 0, .inr (0, [.int ((sn_frF f (k + 1)) 0), .int ((sn_frF f (k + 1)) 1), .ref (a 1), .ref (a 2), .ref (a 3), .ref (a 4), .ref (a 5), .ref (a 6)])), (a 1, .inl (cI, 10, .inl (fun z_ => (sn_frF f (k + 1)) (7 + 5 * z_)))), (a 2, .inl (cI, 10, .inl (fun z_ => (sn_frF f (k + 1)) (8 + 5 * z_)))), (a 3, .inl (cI, 10, .inl (fun z_ => (sn_frF f (k + 1)) (9 + 5 * z_)))), (a 4, .inl (cI, 10, .inl (fun z_ => (sn_frF f (k + 1)) (10 + 5 * z_)))), (a 5, .inl (cZ, 10, .inl (fun z_ => (sn_frF f (k + 1)) (11 + 5 * z_)))), (a 6, .inl (cI, 5, .inl (fun z_ => (sn_frF f (k + 1)) (2 + z_))))]) := (by rw [show sn_frF f (k + 1) = sn_f2 (sn_frF f k) k from if_neg c_2]; exact sn_eC (sn_eOb (by (simp only [sn_f2, upd]) <;> (repeat' split) <;> first | rfl | omega | (simp_all; done) | (exfalso; simp_all; done)) (by (simp only [sn_f2, upd]) <;> (repeat' split) <;> first | rfl | omega | (simp_all; done) | (exfalso; simp_all; done))) (sn_eC (sn_eI (fun z_ hz => by (simp only [sn_f2, upd]) <;> (repeat' split) <;> first | rfl | omega | (simp_all; done) | (exfalso; simp_all; done))) (sn_eC (sn_eI (fun z_ hz => by (simp only [sn_f2, upd]) <;> (repeat' split) <;> first | rfl | omega | (simp_all; done) | (exfalso; simp_all; done))) (sn_eC (sn_eI (fun z_ hz => by (simp only [sn_f2, upd]) <;> (repeat' split) <;> first | rfl | omega | (simp_all; done) | (exfalso; simp_all; done))) (sn_eC (sn_eI (fun z_ hz => by (simp only [sn_f2, upd]) <;> (repeat' split) <;> first | rfl | omega | (simp_all; done) | (exfalso; simp_all; done))) (sn_eC (sn_eI (fun z_ hz => by (simp only [sn_f2, upd]) <;> (repeat' split) <;> first | rfl | omega | (simp_all; done) | (exfalso; simp_all; done))) (sn_eC (sn_eI (fun z_ hz => by (simp only [sn_f2, upd]) <;> (repeat' split) <;> first | rfl | omega | (simp_all; done) | (exfalso; simp_all; done))) (sn_eN))))))))
          exact ih_loop (k + 1) (by omega) (by omega) _ _ (hE.P hP) (hE.D hD) hS ls (lv_sub hl [2, 1, 0] rfl)
  exact loop ((n - 0) + 1) 0 (Nat.zero_le _) (by omega) _ _ hP hD hS ls (lv_sub hl [2, 1, 0] rfl)
end
section
/-! ===== what holds of the state goes on holding ===== -/
theorem sn_Ly_c {f g : Nat → Int32} {k : Nat} (h7 : g (7 + 5 * k) = f (7 + 5 * k)) (h8 : g (8 + 5 * k) = f (8 + 5 * k)) (h9 : g (9 + 5 * k) = f (9 + 5 * k)) (h10 : g (10 + 5 * k) = f (10 + 5 * k)) (h11 : g (11 + 5 * k) = f (11 + 5 * k)) (h : sn_Ly f k) : sn_Ly g k := by
  unfold sn_Ly
  rw [h7, h8, h9, h10, h11]
  exact h
theorem sn_toN {x : Int32} {b : Nat} (h0 : 0 ≤ x.toInt) (h1 : x.toInt ≤ b) (hb : b < 2147483648) : ∃ t : Nat, t ≤ b ∧ x = nI t :=
  ⟨x.toInt.toNat, by omega, by rw [sn_eq, nI_toInt (by omega)]; omega⟩
theorem sn_ofN {t b : Nat} (h : t ≤ b) (hb : b < 2147483648) : 0 ≤ (nI t).toInt ∧ (nI t).toInt ≤ b := by
  rw [nI_toInt (by omega)]; omega
theorem sn_mx1_N {q : Nat} (hq : q < 2147483648) : sn_mx1 (nI q) = nI (if q < 1 then 1 else q) := by
  unfold sn_mx1
  by_cases h : q < 1
  · rw [if_pos h, if_pos (show nI q < (1 : Int32) from nI_lt (b := 1) h (by decide))]; rfl
  · rw [if_neg h, if_neg (show ¬ nI q < (1 : Int32) from nI_nlt (b := 1) (by omega) hq)]
theorem sn_mn6_N {q : Nat} (hq : q < 2147483648) : sn_mn6 (nI q) = nI (if 600 < q then 600 else q) := by
  unfold sn_mn6
  by_cases h : 600 < q
  · rw [if_pos h, if_pos (show (600 : Int32) < nI q from nI_lt (a := 600) h hq)]; rfl
  · rw [if_neg h, if_neg (show ¬ (600 : Int32) < nI q from nI_nlt (a := 600) (by omega) (by decide))]
theorem sn_hd_b {h : Int32} (h0 : 0 ≤ h.toInt) (h5 : h.toInt ≤ 5) : 0 ≤ (sn_hd h).toInt ∧ (sn_hd h).toInt ≤ 5 := by
  rw [← sn_min5 h0 h5]
  have l1 : (1 : Int32).toInt = 1 := rfl
  have l5 : (5 : Int32).toInt = 5 := rfl
  have e : (h + 1).toInt = h.toInt + 1 := by rw [sn_add_toInt (by rw [l1]; omega) (by rw [l1]; omega), l1]
  by_cases c : h + 1 < (5 : Int32)
  · rw [if_pos c, e]; rw [sn_lt, e, l5] at c; omega
  · rw [if_neg c, l5]; omega
theorem sn_I_st {f : Nat → Int32} {n : Nat} (hI : sn_I f n) (hn : n < 10) {x y z u : Int32} (hx : 1 ≤ x ∧ x ≤ 200) (hy : 30 ≤ y ∧ y ≤ 600) (hz : 0 ≤ z ∧ z ≤ 4) (hu : 1 ≤ u ∧ u ≤ 5) : sn_I (sn_stF f n x y z u) (n + 1) := by
  obtain ⟨X, hX1, hX2, rfl⟩ := sn_rng (lo := 1) (hi := 200) hx (by decide)
  obtain ⟨Y, hY1, hY2, rfl⟩ := sn_rng (lo := 30) (hi := 600) hy (by decide)
  obtain ⟨Z, hZ1, hZ2, rfl⟩ := sn_rng (lo := 0) (hi := 4) hz (by decide)
  obtain ⟨V, hV1, hV2, rfl⟩ := sn_rng (lo := 1) (hi := 5) hu (by decide)
  refine ⟨pk_us, by omega, ?_, fun k hk => ?_⟩
  · have e : sn_stF f n (nI X) (nI Y) (nI Z) (nI V) 1 = f 1 := by
      unfold sn_stF
      rw [pk_un (by omega), pk_un (by omega), pk_un (by omega), pk_un (by omega), pk_un (by omega), pk_un (by omega)]
    rw [e]; exact hI.2.2.1
  · by_cases h : k = n
    · subst h
      have e7 : sn_stF f k (nI X) (nI Y) (nI Z) (nI V) (7 + 5 * k) = nI X := by
        unfold sn_stF
        rw [pk_un (by omega), pk_un (by omega), pk_un (by omega), pk_un (by omega), pk_un (by omega), pk_us]
      have e8 : sn_stF f k (nI X) (nI Y) (nI Z) (nI V) (8 + 5 * k) = nI Y := by
        unfold sn_stF
        rw [pk_un (by omega), pk_un (by omega), pk_un (by omega), pk_un (by omega), pk_us]
      have e9 : sn_stF f k (nI X) (nI Y) (nI Z) (nI V) (9 + 5 * k) = nI Z := by
        unfold sn_stF
        rw [pk_un (by omega), pk_un (by omega), pk_un (by omega), pk_us]
      have e10 : sn_stF f k (nI X) (nI Y) (nI Z) (nI V) (10 + 5 * k) = nI V := by
        unfold sn_stF
        rw [pk_un (by omega), pk_un (by omega), pk_us]
      have e11 : sn_stF f k (nI X) (nI Y) (nI Z) (nI V) (11 + 5 * k) = 0 := by
        unfold sn_stF
        rw [pk_un (by omega), pk_us]
      unfold sn_Ly
      rw [e7, e8, e9, e10, e11]
      exact ⟨sn_ofN hX2 (by decide), sn_ofN hY2 (by decide), vp_in_nI (by omega) (by decide), sn_ofN hV2 (by decide), Or.inl rfl⟩
    · refine sn_Ly_c ?_ ?_ ?_ ?_ ?_ (hI.2.2.2 k hk) <;>
        (unfold sn_stF
         rw [pk_un (by omega), pk_un (by omega), pk_un (by omega), pk_un (by omega), pk_un (by omega), pk_un (by omega)])
theorem sn_I_firm {f : Nat → Int32} {n i : Nat} (hI : sn_I f n) (hi : i < 5) (y : Int32) : sn_I (upd f (2 + i) y) n :=
  ⟨by rw [pk_un (by omega)]; exact hI.1, hI.2.1, by rw [pk_un (by omega)]; exact hI.2.2.1, fun k hk => sn_Ly_c (pk_un (by omega)) (pk_un (by omega)) (pk_un (by omega)) (pk_un (by omega)) (pk_un (by omega)) (hI.2.2.2 k hk)⟩
theorem sn_I_blow {f : Nat → Int32} {n : Nat} (hI : sn_I f n) {x : Int32} (hx : 1 ≤ x ∧ x ≤ 50) : sn_I (upd f 1 x) n := by
  refine ⟨by rw [pk_un (by omega)]; exact hI.1, hI.2.1, ?_, fun k hk => sn_Ly_c (pk_un (by omega)) (pk_un (by omega)) (pk_un (by omega)) (pk_un (by omega)) (pk_un (by omega)) (hI.2.2.2 k hk)⟩
  rw [pk_us]
  have h1 := hx.1
  have h2 := hx.2
  rw [sn_le] at h1 h2
  exact ⟨h1, h2⟩
theorem sn_I_size {f : Nat → Int32} {n k : Nat} (hI : sn_I f n) (hk : k ≤ 10) : sn_I (upd f 0 (nI k)) k :=
  ⟨pk_us, hk, by rw [pk_un (by omega)]; exact hI.2.2.1, fun j hj => sn_Ly_c (pk_un (by omega)) (pk_un (by omega)) (pk_un (by omega)) (pk_un (by omega)) (pk_un (by omega)) (hI.2.2.2 j hj)⟩
/-- three numbers of one layer are changed -/
theorem sn_I_three {f : Nat → Int32} {n i : Nat} (hI : sn_I f n) (hi : i < 10) {a b d : Int32} (ha : 0 ≤ a.toInt ∧ a.toInt ≤ 200) (hb : 0 ≤ b.toInt ∧ b.toInt ≤ 600) (hd : 0 ≤ d.toInt ∧ d.toInt ≤ 5) {g : Nat → Int32} (g7 : g (7 + 5 * i) = a) (g8 : g (8 + 5 * i) = b) (g10 : g (10 + 5 * i) = d) (go : ∀ j, j ≠ 7 + 5 * i → j ≠ 8 + 5 * i → j ≠ 10 + 5 * i → g j = f j) : sn_I g n := by
  refine ⟨by rw [go 0 (by omega) (by omega) (by omega)]; exact hI.1, hI.2.1, by rw [go 1 (by omega) (by omega) (by omega)]; exact hI.2.2.1, fun k hk => ?_⟩
  by_cases h : k = i
  · subst h
    have hL := hI.2.2.2 k hk
    unfold sn_Ly at hL ⊢
    rw [g7, g8, g10, go (9 + 5 * k) (by omega) (by omega) (by omega), go (11 + 5 * k) (by omega) (by omega) (by omega)]
    exact ⟨ha, hb, hL.2.2.1, hd, hL.2.2.2.2⟩
  · exact sn_Ly_c (go _ (by omega) (by omega) (by omega)) (go _ (by omega) (by omega) (by omega)) (go _ (by omega) (by omega) (by omega)) (go _ (by omega) (by omega) (by omega)) (go _ (by omega) (by omega) (by omega)) (hI.2.2.2 k hk)
theorem sn_I_pk {f : Nat → Int32} {n i : Nat} (hI : sn_I f n) (hi : i < 10) {x : Int32} (hx : 1 ≤ x ∧ x ≤ 200) : sn_I (sn_pkF f i x) n := by
  obtain ⟨X, hX1, hX2, rfl⟩ := sn_rng (lo := 1) (hi := 200) hx (by decide)
  obtain ⟨h7, h8, -, h10, -⟩ := hI.2.2.2 i hi
  obtain ⟨t, ht, et⟩ := sn_toN (b := 200) h7.1 h7.2 (by decide)
  obtain ⟨v, hv, ev⟩ := sn_toN (b := 600) h8.1 h8.2 (by decide)
  have e8 : sn_mn6 (f (8 + 5 * i) + nI X) = nI (if 600 < v + X then 600 else v + X) := by rw [ev, nI_add, sn_mn6_N (by omega)]
  generalize hd : (if 600 < v + X then 600 else v + X) = d at e8
  have hd1 : v ≤ d ∧ 0 < d ∧ d ≤ 600 := by rw [← hd]; split <;> omega
  have htv : t * v ≤ 200 * 600 := Nat.mul_le_mul ht hv
  have hq : t * v / d ≤ t := Nat.div_le_of_le_mul (by rw [Nat.mul_comm d t]; exact Nat.mul_le_mul (Nat.le_refl t) hd1.1)
  have e7 : sn_mx1 (f (7 + 5 * i) * f (8 + 5 * i) / sn_mn6 (f (8 + 5 * i) + nI X)) = nI (if t * v / d < 1 then 1 else t * v / d) := by
    rw [e8, et, ev, pk_mul, pk_div (by omega) hd1.2.1 (by omega), sn_mx1_N (by omega)]
  refine sn_I_three hI hi (a := sn_mx1 (f (7 + 5 * i) * f (8 + 5 * i) / sn_mn6 (f (8 + 5 * i) + nI X))) (b := sn_mn6 (f (8 + 5 * i) + nI X)) (d := sn_hd (f (10 + 5 * i))) ?_ ?_ (sn_hd_b h10.1 h10.2) ?_ ?_ ?_ ?_
  · rw [e7]; exact sn_ofN (by split <;> omega) (by decide)
  · rw [e8]; exact sn_ofN hd1.2.2 (by decide)
  · unfold sn_pkF; rw [pk_un (by omega), pk_us]
  · unfold sn_pkF; rw [pk_un (by omega), pk_un (by omega), pk_us]
  · unfold sn_pkF; rw [pk_us]
  · intro j h1 h2 h3; unfold sn_pkF; rw [pk_un h3, pk_un h1, pk_un h2]
theorem sn_I_s2 {f : Nat → Int32} {n i : Nat} (hI : sn_I f n) (hi : i < 10) {x : Int32} (hx : 1 ≤ x ∧ x ≤ 50) : sn_I (sn_s2 f i x) n := by
  obtain ⟨X, hX1, hX2, rfl⟩ := sn_rng (lo := 1) (hi := 50) hx (by decide)
  obtain ⟨h7, h8, -, h10, -⟩ := hI.2.2.2 i hi
  obtain ⟨t, ht, et⟩ := sn_toN (b := 200) h7.1 h7.2 (by decide)
  obtain ⟨v, hv, ev⟩ := sn_toN (b := 600) h8.1 h8.2 (by decide)
  have htv : t * v ≤ 200 * 600 := Nat.mul_le_mul ht hv
  have htx : t * (100 - X) ≤ t * 100 := Nat.mul_le_mul (Nat.le_refl t) (by omega)
  have hq : t * (100 - X) / 100 ≤ t := Nat.div_le_of_le_mul (by omega)
  have e7 : sn_sT f i (nI X) = nI (if t * (100 - X) / 100 < 1 then 1 else t * (100 - X) / 100) := by
    unfold sn_sT
    rw [et, show (100 : Int32) - nI X = nI (100 - X) from pk_sub (a := 100) (by omega), pk_mul, show (100 : Int32) = nI 100 from rfl, pk_div (by omega) (by decide) (by decide), sn_mx1_N (by omega)]
  generalize hT : (if t * (100 - X) / 100 < 1 then 1 else t * (100 - X) / 100) = T at e7
  have hT1 : 0 < T ∧ T ≤ 200 := by rw [← hT]; split <;> omega
  have hq2 : t * v / T ≤ t * v := Nat.div_le_self _ _
  have e8 : sn_mn6 (f (7 + 5 * i) * f (8 + 5 * i) / sn_sT f i (nI X)) = nI (if 600 < t * v / T then 600 else t * v / T) := by
    rw [e7, et, ev, pk_mul, pk_div (by omega) hT1.1 (by omega), sn_mn6_N (by omega)]
  refine sn_I_three hI hi (a := sn_sT f i (nI X)) (b := sn_mn6 (f (7 + 5 * i) * f (8 + 5 * i) / sn_sT f i (nI X))) (d := f (10 + 5 * i)) ?_ ?_ h10 ?_ ?_ ?_ ?_
  · rw [e7]; exact sn_ofN hT1.2 (by decide)
  · rw [e8]; exact sn_ofN (by split <;> omega) (by decide)
  · unfold sn_s2; rw [pk_un (by omega), pk_us]
  · unfold sn_s2; rw [pk_us]
  · unfold sn_s2; rw [pk_un (by omega), pk_un (by omega)]
  · intro j h1 h2 h3; unfold sn_s2; rw [pk_un h2, pk_un h1]
theorem sn_I_se {f : Nat → Int32} {n : Nat} (hI : sn_I f n) {x : Int32} (hx : 1 ≤ x ∧ x ≤ 50) : ∀ k, k ≤ 10 → sn_I (sn_seF f x k) n
  | 0, _ => hI
  | k + 1, h => by
    have ih := sn_I_se hI hx k (by omega)
    show sn_I (sn_s1 (sn_seF f x k) k x) n
    unfold sn_s1
    split
    · exact ih
    · exact sn_I_s2 ih (by omega) hx
theorem sn_I_f2 {f : Nat → Int32} {n i : Nat} (hI : sn_I f n) (hi : i < 10) : sn_I (sn_f2 f i) n := by
  have go : ∀ j, j ≠ 9 + 5 * i → j ≠ 10 + 5 * i → j ≠ 11 + 5 * i → sn_f2 f i j = f j := fun j h1 h2 h3 => by unfold sn_f2; rw [pk_un h3, pk_un h2, pk_un h1]
  refine ⟨by rw [go 0 (by omega) (by omega) (by omega)]; exact hI.1, hI.2.1, by rw [go 1 (by omega) (by omega) (by omega)]; exact hI.2.2.1, fun k hk => ?_⟩
  by_cases h : k = i
  · subst h
    have hL := hI.2.2.2 k hk
    have e9 : sn_f2 f k (9 + 5 * k) = 4 := by unfold sn_f2; rw [pk_un (by omega), pk_un (by omega), pk_us]
    have e10 : sn_f2 f k (10 + 5 * k) = 5 := by unfold sn_f2; rw [pk_un (by omega), pk_us]
    have e11 : sn_f2 f k (11 + 5 * k) = 0 := by unfold sn_f2; rw [pk_us]
    unfold sn_Ly at hL ⊢
    rw [e9, e10, e11, go (7 + 5 * k) (by omega) (by omega) (by omega), go (8 + 5 * k) (by omega) (by omega) (by omega)]
    exact ⟨hL.1, hL.2.1, vp_in_nI (n := 4) (by omega) (by decide), ⟨by decide, by decide⟩, Or.inl rfl⟩
  · exact sn_Ly_c (go _ (by omega) (by omega) (by omega)) (go _ (by omega) (by omega) (by omega)) (go _ (by omega) (by omega) (by omega)) (go _ (by omega) (by omega) (by omega)) (go _ (by omega) (by omega) (by omega)) (hI.2.2.2 k hk)
theorem sn_I_fr {f : Nat → Int32} {n : Nat} (hI : sn_I f n) : ∀ k, k ≤ 10 → sn_I (sn_frF f k) n
  | 0, _ => hI
  | k + 1, h => by
    have ih := sn_I_fr hI k (by omega)
    show sn_I (sn_f1 (sn_frF f k) k) n
    unfold sn_f1
    split
    · exact ih
    · exact sn_I_f2 ih (by omega)
theorem sn_I_wet {f : Nat → Int32} {n i : Nat} (hI : sn_I f n) (hi : i < 10) : sn_I (upd f (11 + 5 * i) 1) n := by
  have go : ∀ j, j ≠ 11 + 5 * i → upd f (11 + 5 * i) 1 j = f j := fun j h => pk_un h
  refine ⟨by rw [go 0 (by omega)]; exact hI.1, hI.2.1, by rw [go 1 (by omega)]; exact hI.2.2.1, fun k hk => ?_⟩
  by_cases h : k = i
  · subst h
    have hL := hI.2.2.2 k hk
    unfold sn_Ly at hL ⊢
    rw [pk_us, go (7 + 5 * k) (by omega), go (8 + 5 * k) (by omega), go (9 + 5 * k) (by omega), go (10 + 5 * k) (by omega)]
    exact ⟨hL.1, hL.2.1, hL.2.2.1, hL.2.2.2.1, Or.inr rfl⟩
  · exact sn_Ly_c (go _ (by omega)) (go _ (by omega)) (go _ (by omega)) (go _ (by omega)) (go _ (by omega)) (hI.2.2.2 k hk)
theorem sn_I_we {n : Nat} : ∀ (j : Nat) (g : Nat → Int32), j ≤ 10 → sn_I g n → sn_I (sn_weF g j) n
  | 0, g, _, hI => hI
  | j + 1, g, hj, hI => by
    show sn_I (if g (9 + 5 * j) = 4 then g else sn_weF (upd g (11 + 5 * j) 1) j) n
    split
    · exact hI
    · exact sn_I_we j _ (by omega) (sn_I_wet hI (by omega))
theorem sn_weF_0 : ∀ (j : Nat) (g : Nat → Int32), sn_weF g j 0 = g 0
  | 0, g => rfl
  | j + 1, g => by
    show (if g (9 + 5 * j) = 4 then g else sn_weF (upd g (11 + 5 * j) 1) j) 0 = g 0
    split
    · rfl
    · rw [sn_weF_0 j, pk_un (by omega)]
theorem sn_mlR_b {f : Nat → Int32} {n : Nat} (hI : sn_I f n) : ∀ (k : Nat) (r : Int32), k ≤ 10 → 0 ≤ r.toInt → 0 ≤ (sn_mlR f k r).toInt ∧ (0 < sn_mlN f k r → (sn_mlR f k r).toInt < (f (7 + 5 * (sn_mlN f k r - 1))).toInt)
  | 0, r, _, h => ⟨h, fun z => absurd z (by show ¬ 0 < 0; omega)⟩
  | k + 1, r, hk, h => by
    have h7 := (hI.2.2.2 k (by omega)).1
    by_cases c : f (7 + 5 * k) ≤ r
    · rw [show sn_mlR f (k + 1) r = sn_mlR f k (r - f (7 + 5 * k)) from if_pos c, show sn_mlN f (k + 1) r = sn_mlN f k (r - f (7 + 5 * k)) from if_pos c]
      refine sn_mlR_b hI k _ (by omega) ?_
      rw [sn_le] at c
      have hr := Int32.toInt_lt r
      rw [sn_sub_toInt (by omega) (by omega)]
      omega
    · rw [show sn_mlR f (k + 1) r = r from if_neg c, show sn_mlN f (k + 1) r = k + 1 from if_neg c]
      refine ⟨h, fun _ => ?_⟩
      rw [show k + 1 - 1 = k from rfl]
      rw [sn_le] at c
      omega
theorem sn_I_ml {f : Nat → Int32} {n : Nat} (hI : sn_I f n) {x : Int32} (hx : 1 ≤ x ∧ x ≤ 300) : sn_I (sn_mlF f n x) (sn_mlN f n x) := by
  have h1 := hx.1
  rw [sn_le, show (1 : Int32).toInt = 1 from rfl] at h1
  obtain ⟨b1, b2⟩ := sn_mlR_b hI n x hI.2.1 (by omega)
  have hle := sn_mlN_le f n x
  have hn := hI.2.1
  unfold sn_mlF sn_mlE
  split
  · rename_i e; rw [e]; exact sn_I_size hI (by omega)
  · rename_i e
    have hJ : sn_I (upd f 0 (nI (sn_mlN f n x))) (sn_mlN f n x) := sn_I_size hI (by omega)
    have h2 := b2 (by omega)
    obtain ⟨h7, h8, -, h10, -⟩ := hI.2.2.2 (sn_mlN f n x - 1) (by omega)
    refine sn_I_three hJ (i := sn_mlN f n x - 1) (by omega) (a := f (7 + 5 * (sn_mlN f n x - 1)) - sn_mlR f n x) (b := f (8 + 5 * (sn_mlN f n x - 1))) (d := f (10 + 5 * (sn_mlN f n x - 1))) ?_ h8 h10 pk_us ?_ ?_ ?_
    · rw [sn_sub_toInt (by omega) (by omega)]; omega
    · rw [pk_un (by omega), pk_un (by omega)]
    · rw [pk_un (by omega), pk_un (by omega)]
    · intro j g1 g2 g3; rw [pk_un g1]
theorem sn_mlF_0 {f : Nat → Int32} {n : Nat} (hI : sn_I f n) {x : Int32} (hx : 1 ≤ x ∧ x ≤ 300) : sn_mlF f n x 0 = nI (sn_mlN f n x) := (sn_I_ml hI hx).1
end
section
/-! ===== the calls that change the state: answers, and the state behind them ===== -/
abbrev sn_okS (x y z u : Int32) : Prop := ((1 ≤ x ∧ x ≤ 200) ∧ (30 ≤ y ∧ y ≤ 600)) ∧ ((0 ≤ z ∧ z ≤ 4) ∧ (1 ≤ u ∧ u ≤ 5))
def sn_Rstorm (n : Nat) (x y z u : Int32) : Int32 := if sn_okS x y z u then (if n = 10 then -4 else nI n) else -2
def sn_Fstorm (f : Nat → Int32) (n : Nat) (x y z u : Int32) : Nat → Int32 := if sn_okS x y z u then (if n = 10 then f else sn_stF f n x y z u) else f
theorem sn_Istorm {f : Nat → Int32} {n : Nat} (hI : sn_I f n) (x y z u : Int32) : ∃ n', sn_I (sn_Fstorm f n x y z u) n' := by
  unfold sn_Fstorm
  split
  · rename_i h
    split
    · exact ⟨n, hI⟩
    · exact ⟨n + 1, sn_I_st hI (by have := hI.2.1; omega) h.1.1 h.1.2 h.2.1 h.2.2⟩
  · exact ⟨n, hI⟩
def sn_Rfirm (f : Nat → Int32) (x y : Int32) : Int32 := if 0 ≤ x ∧ x ≤ 4 then (if 1 ≤ y ∧ y ≤ 99 then f (2 + x.toNatClampNeg) else -2) else -1
def sn_Ffirm (f : Nat → Int32) (x y : Int32) : Nat → Int32 := if 0 ≤ x ∧ x ≤ 4 then (if 1 ≤ y ∧ y ≤ 99 then upd f (2 + x.toNatClampNeg) y else f) else f
theorem sn_Ifirm {f : Nat → Int32} {n : Nat} (hI : sn_I f n) (x y : Int32) : ∃ n', sn_I (sn_Ffirm f x y) n' := by
  unfold sn_Ffirm
  split
  · rename_i h
    split
    · obtain ⟨i, h1, h2, rfl⟩ := sn_rng (lo := 0) (hi := 4) h (by decide)
      rw [nI_clamp (by omega)]
      exact ⟨n, sn_I_firm hI (by omega) y⟩
    · exact ⟨n, hI⟩
  · exact ⟨n, hI⟩
def sn_Rblow (f : Nat → Int32) (x : Int32) : Int32 := if 1 ≤ x ∧ x ≤ 50 then f 1 else -2
def sn_Fblow (f : Nat → Int32) (x : Int32) : Nat → Int32 := if 1 ≤ x ∧ x ≤ 50 then upd f 1 x else f
theorem sn_Iblow {f : Nat → Int32} {n : Nat} (hI : sn_I f n) (x : Int32) : ∃ n', sn_I (sn_Fblow f x) n' := by
  unfold sn_Fblow
  split
  · rename_i h; exact ⟨n, sn_I_blow hI h⟩
  · exact ⟨n, hI⟩
def sn_Rpack (f : Nat → Int32) (n : Nat) (x : Int32) : Int32 := if 1 ≤ x ∧ x ≤ 200 then (if n = 0 then -3 else sn_hd (f (10 + 5 * (n - 1)))) else -2
def sn_Fpack (f : Nat → Int32) (n : Nat) (x : Int32) : Nat → Int32 := if 1 ≤ x ∧ x ≤ 200 then (if n = 0 then f else sn_pkF f (n - 1) x) else f
theorem sn_Ipack {f : Nat → Int32} {n : Nat} (hI : sn_I f n) (x : Int32) : ∃ n', sn_I (sn_Fpack f n x) n' := by
  unfold sn_Fpack
  split
  · rename_i h
    split
    · exact ⟨n, hI⟩
    · exact ⟨n, sn_I_pk hI (by have := hI.2.1; omega) h⟩
  · exact ⟨n, hI⟩
def sn_Rset (f : Nat → Int32) (n : Nat) (x : Int32) : Int32 := if 1 ≤ x ∧ x ≤ 50 then (if n = 0 then -3 else sn_dep (sn_seF f x n) 0 n) else -2
def sn_Fset (f : Nat → Int32) (n : Nat) (x : Int32) : Nat → Int32 := if 1 ≤ x ∧ x ≤ 50 then (if n = 0 then f else sn_seF f x n) else f
theorem sn_Iset {f : Nat → Int32} {n : Nat} (hI : sn_I f n) (x : Int32) : ∃ n', sn_I (sn_Fset f n x) n' := by
  unfold sn_Fset
  split
  · rename_i h
    split
    · exact ⟨n, hI⟩
    · exact ⟨n, sn_I_se hI h n hI.2.1⟩
  · exact ⟨n, hI⟩
def sn_Rmelt (f : Nat → Int32) (n : Nat) (x : Int32) : Int32 := if 1 ≤ x ∧ x ≤ 300 then (if n = 0 then -3 else nI (sn_mlN f n x)) else -2
def sn_Fmelt (f : Nat → Int32) (n : Nat) (x : Int32) : Nat → Int32 := if 1 ≤ x ∧ x ≤ 300 then (if n = 0 then f else sn_weF (sn_mlF f n x) (sn_mlN f n x)) else f
theorem sn_Imelt {f : Nat → Int32} {n : Nat} (hI : sn_I f n) (x : Int32) : ∃ n', sn_I (sn_Fmelt f n x) n' := by
  unfold sn_Fmelt
  split
  · rename_i h
    split
    · exact ⟨n, hI⟩
    · exact ⟨_, sn_I_we _ _ (by have := hI.2.1; have := sn_mlN_le f n x; omega) (sn_I_ml hI h)⟩
  · exact ⟨n, hI⟩
theorem sn_Ifreeze {f : Nat → Int32} {n : Nat} (hI : sn_I f n) : ∃ n', sn_I (sn_frF f n) n' := ⟨n, sn_I_fr hI n hI.2.1⟩
def sn_Rslide (n : Nat) : Int32 := if n = 0 then -3 else nI (n - 1)
def sn_Fslide (f : Nat → Int32) (n : Nat) : Nat → Int32 := if n = 0 then f else upd f 0 (nI (n - 1))
theorem sn_Islide {f : Nat → Int32} {n : Nat} (hI : sn_I f n) : ∃ n', sn_I (sn_Fslide f n) n' := by
  unfold sn_Fslide
  split
  · exact ⟨n, hI⟩
  · exact ⟨n - 1, sn_I_size hI (by have := hI.2.1; omega)⟩
/-! ===== taps ===== -/
abbrev sn_wT (cI : ClassId) (bt : Nat → Nat) (nb : Int32) (tp ly : Nat → Int32) : va_W := [(bt 0, .inr (1, [.int nb, .ref (bt 1), .ref (bt 2)])), (bt 1, .inl (cI, 10, .inl tp)), (bt 2, .inl (cI, 10, .inl ly))]
/-- the rows hold the breaks -/
def sn_tH (f : Nat → Int32) (n : Nat) (v : Int32) (t : Nat) (tp ly : Nat → Int32) : Prop := ∀ i, i < sn_tC f n v t → tp i = sn_tT f n v t i ∧ ly i = sn_tL f n v t i
theorem sn_tH_0 (f : Nat → Int32) (n : Nat) (v : Int32) (tp ly : Nat → Int32) : sn_tH f n v 0 tp ly := fun i h => absurd h (Nat.not_lt_zero i)
theorem sn_tH_z {f : Nat → Int32} {n : Nat} {v : Int32} {t : Nat} {tp ly : Nat → Int32} (h : sn_tH f n v t tp ly) (c : sn_bk f (sn_tE f n v t) (sn_wt (t + 1) v) = 0) : sn_tH f n v (t + 1) tp ly := by
  intro i hi
  rw [sn_tC_z c] at hi
  rw [sn_tT_z c, sn_tL_z c]
  exact h i hi
theorem sn_tH_p {f : Nat → Int32} {n : Nat} {v : Int32} {t : Nat} {tp ly : Nat → Int32} (h : sn_tH f n v t tp ly) (c : ¬ sn_bk f (sn_tE f n v t) (sn_wt (t + 1) v) = 0) : sn_tH f n v (t + 1) (upd tp (sn_tC f n v t) (nI (t + 1))) (upd ly (sn_tC f n v t) (nI (sn_bk f (sn_tE f n v t) (sn_wt (t + 1) v) - 1))) := by
  intro i hi
  rw [sn_tC_p c] at hi
  rw [sn_tT_p c, sn_tL_p c]
  by_cases e : i = sn_tC f n v t
  · subst e
    rw [pk_us, pk_us, pk_us, pk_us]
    exact ⟨rfl, rfl⟩
  · rw [pk_un e, pk_un e, pk_un e, pk_un e]
    exact h i (by omega)
def sn_Rtaps (f : Nat → Int32) (n : Nat) (x y : Int32) : Int32 :=
  if 0 ≤ y ∧ y ≤ 2 then (if x = -1 then nI (sn_tC f n (f 1) 30) else if 0 ≤ x ∧ x ≤ nI (sn_tC f n (f 1) 30) - 1 then (if y = 0 then sn_tT f n (f 1) 30 x.toNatClampNeg else if y = 1 then sn_tL f n (f 1) 30 x.toNatClampNeg else sn_b (sn_cle f (sn_tL f n (f 1) 30 x.toNatClampNeg).toNatClampNeg)) else -6) else -2
/-- the difference of two hardnesses, its size -/
theorem sn_abs2 {d : Int32} (h0 : -10 ≤ d.toInt) (h1 : d.toInt ≤ 10) : (if 0 ≤ d then d else 0 - d) < 2 ↔ ¬ (2 ≤ d ∨ d ≤ -2) := by
  have l0 : (0 : Int32).toInt = 0 := rfl
  have l2 : (2 : Int32).toInt = 2 := rfl
  have l3 : (-2 : Int32).toInt = -2 := rfl
  by_cases c : 0 ≤ d
  · rw [if_pos c, sn_le 2 d, sn_le d (-2), sn_lt, l2, l3]; rw [sn_le, l0] at c; omega
  · rw [if_neg c, sn_le 2 d, sn_le d (-2), sn_lt, l2, l3, sn_sub_toInt (by rw [l0]; omega) (by rw [l0]; omega), l0]; rw [sn_le, l0] at c; omega
theorem sn_hdif {f : Nat → Int32} {n : Nat} (hI : sn_I f n) {i : Nat} (hi : i + 1 < 10) : -10 ≤ (f (10 + 5 * (i + 1)) - f (10 + 5 * i)).toInt ∧ (f (10 + 5 * (i + 1)) - f (10 + 5 * i)).toInt ≤ 10 := by
  have a := (hI.2.2.2 (i + 1) hi).2.2.2.1
  have b := (hI.2.2.2 i (by omega)).2.2.2.1
  rw [sn_sub_toInt (by omega) (by omega)]
  omega
/-! ===== the least blow: taps never get lighter ===== -/
theorem sn_mas_b {f : Nat → Int32} {n : Nat} (hI : sn_I f n) (i : Nat) : ∀ b, b ≤ 10 → ∃ M : Nat, M ≤ 120000 * b ∧ sn_mas f i b = nI M
  | 0, _ => ⟨0, by omega, rfl⟩
  | b + 1, h => by
    obtain ⟨M, hM, e⟩ := sn_mas_b hI i b (by omega)
    obtain ⟨h7, h8, -, -, -⟩ := hI.2.2.2 b (by omega)
    obtain ⟨t, ht, et⟩ := sn_toN (b := 200) h7.1 h7.2 (by decide)
    obtain ⟨v, hv, ev⟩ := sn_toN (b := 600) h8.1 h8.2 (by decide)
    have htv : t * v ≤ 200 * 600 := Nat.mul_le_mul ht hv
    by_cases hib : i ≤ b
    · exact ⟨M + t * v, by omega, by rw [← sn_mas_s hib, e, et, ev, pk_mul, nI_add]⟩
    · exact ⟨0, by omega, if_neg hib⟩
theorem sn_lod_b {f : Nat → Int32} {n : Nat} (hI : sn_I f n) (i b : Nat) (hb : b ≤ 10) : ∃ L : Nat, L ≤ 12000 ∧ sn_lod f i b = nI L := by
  obtain ⟨M, hM, e⟩ := sn_mas_b hI (i + 1) b hb
  refine ⟨M / 100, by omega, ?_⟩
  unfold sn_lod
  rw [e]
  exact pk_div (d := 100) (by omega) (by decide) (by decide)
theorem sn_prs_b {f : Nat → Int32} {n : Nat} (hI : sn_I f n) (i b : Nat) (hb : b ≤ 10) : ∃ P : Nat, 10 ≤ P ∧ ∀ V : Nat, V ≤ 200 → sn_prs f i b (nI V) = nI (100 * V / P) := by
  have h := sn_dep_b hI (i + 1) b hb
  obtain ⟨d, hd, e⟩ := sn_toN (b := 200 * b) h.1 (by omega) (by omega)
  refine ⟨d + 10, by omega, fun V hV => ?_⟩
  unfold sn_prs
  rw [e, show nI d + 10 = nI (d + 10) from nI_add d 10, show (100 : Int32) * nI V = nI (100 * V) from pk_mul 100 V]
  exact pk_div (by omega) (by omega) (by omega)
theorem sn_bkA_mono {f : Nat → Int32} {n : Nat} (hI : sn_I f n) (b : Nat) (hb : b ≤ 10) {V V2 : Nat} (h : V ≤ V2) (h2 : V2 ≤ 200) : ∀ j, sn_bkA f b (nI V2) j = 0 → sn_bkA f b (nI V) j = 0
  | 0, _ => rfl
  | j + 1, e => by
    have e0 : (if sn_str f j ≤ sn_lod f j b + sn_prs f j b (nI V2) then j + 1 else sn_bkA f b (nI V2) j) = 0 := e
    by_cases c : sn_str f j ≤ sn_lod f j b + sn_prs f j b (nI V2)
    · rw [if_pos c] at e0; exact absurd e0 (by omega)
    · rw [if_neg c] at e0
      obtain ⟨L, hL, eL⟩ := sn_lod_b hI j b hb
      obtain ⟨P, hP, eP⟩ := sn_prs_b hI j b hb
      have q1 : 100 * V / P ≤ 100 * V2 / P := Nat.div_le_div_right (by omega)
      have q2 : 100 * V2 / P ≤ 100 * V2 := Nat.div_le_self _ _
      rw [eL, eP V2 h2, nI_add, sn_le, nI_toInt (by omega)] at c
      have c2 : ¬ sn_str f j ≤ sn_lod f j b + sn_prs f j b (nI V) := by
        rw [eL, eP V (by omega), nI_add, sn_le, nI_toInt (by omega)]
        omega
      show (if sn_str f j ≤ sn_lod f j b + sn_prs f j b (nI V) then j + 1 else sn_bkA f b (nI V) j) = 0
      rw [if_neg c2]
      exact sn_bkA_mono hI b hb h h2 j e0
theorem sn_wt_N (t v : Nat) : sn_wt t (nI v) = nI (if t ≤ 10 then v else if t ≤ 20 then 2 * v else 4 * v) := by
  unfold sn_wt
  by_cases h : t ≤ 10
  · rw [if_pos h, if_pos h]
  · rw [if_neg h, if_neg h]
    by_cases h2 : t ≤ 20
    · rw [if_pos h2, if_pos h2]; exact pk_mul 2 v
    · rw [if_neg h2, if_neg h2]; exact pk_mul 4 v
theorem sn_bk_mono {f : Nat → Int32} {n : Nat} (hI : sn_I f n) {t t2 v : Nat} (h : t ≤ t2) (hv : v ≤ 50) (e : sn_bk f n (sn_wt t2 (nI v)) = 0) : sn_bk f n (sn_wt t (nI v)) = 0 := by
  rw [sn_wt_N] at e ⊢
  refine sn_bkA_mono hI n hI.2.1 ?_ ?_ (n - 1) e
  · split <;> split <;> (try split) <;> (try split) <;> omega
  · split <;> (try split) <;> omega
theorem sn_tC_none {f : Nat → Int32} {n : Nat} (hI : sn_I f n) {v : Nat} (hv : v ≤ 50) : ∀ t, sn_bk f n (sn_wt t (nI v)) = 0 ∨ t = 0 → sn_tC f n (nI v) t = 0 ∧ sn_tE f n (nI v) t = n
  | 0, _ => ⟨rfl, rfl⟩
  | t + 1, h => by
    have h1 : sn_bk f n (sn_wt (t + 1) (nI v)) = 0 := h.resolve_right (by omega)
    obtain ⟨i1, i2⟩ := sn_tC_none hI hv t (Or.inl (sn_bk_mono hI (Nat.le_succ t) hv h1))
    have h2 : sn_bk f (sn_tE f n (nI v) t) (sn_wt (t + 1) (nI v)) = 0 := by rw [i2]; exact h1
    rw [sn_tC_z h2, sn_tE_z h2]
    exact ⟨i1, i2⟩
theorem sn_tC_zE (f : Nat → Int32) (n : Nat) (v : Int32) : ∀ t, sn_tC f n v t = 0 → sn_tE f n v t = n
  | 0, _ => rfl
  | t + 1, h => by
    by_cases c : sn_bk f (sn_tE f n v t) (sn_wt (t + 1) v) = 0
    · rw [sn_tC_z c] at h; rw [sn_tE_z c]; exact sn_tC_zE f n v t h
    · rw [sn_tC_p c] at h; exact absurd h (by omega)
theorem sn_tC_iff {f : Nat → Int32} {n : Nat} (hI : sn_I f n) {v t : Nat} (hv : v ≤ 50) (ht : 1 ≤ t) : sn_tC f n (nI v) t = 0 ↔ sn_bk f n (sn_wt t (nI v)) = 0 := by
  refine ⟨fun h => ?_, fun h => (sn_tC_none hI hv t (Or.inl h)).1⟩
  obtain ⟨s, rfl⟩ : ∃ s, t = s + 1 := ⟨t - 1, by omega⟩
  by_cases c : sn_bk f (sn_tE f n (nI v) s) (sn_wt (s + 1) (nI v)) = 0
  · rw [sn_tC_z c] at h
    rw [sn_tC_zE f n _ s h] at c
    exact c
  · rw [sn_tC_p c] at h; exact absurd h (by omega)
end
