/-! ===== BEGIN words of one list among another's, by their places ===== -/
theorem goodIn_r {big : List Cond} (ws : List Cond) (ps : List Nat) (hp : ws = ps.filterMap (fun i => big[i]?)) (h : ws.all goodWord = true) : GoodIn big ws := by
  intro w hw
  have h1 := List.all_eq_true.mp h w hw
  rw [hp] at hw
  obtain ⟨i, -, hi⟩ := List.mem_filterMap.mp hw
  have hm : w ∈ big := by first | exact List.mem_of_getElem? hi | exact List.getElem?_mem hi
  exact ⟨hm, good_of_word h1⟩
theorem goodIn_app {big a b : List Cond} (ha : GoodIn big a) (hb : GoodIn big b) : GoodIn big (a ++ b) := fun w h => (List.mem_append.mp h).elim (ha w) (hb w)
theorem goodIn_ca {big a b : List Cond} {c : Cond} (ha : GoodIn big (c :: a)) (hb : GoodIn big b) : GoodIn big (c :: (a ++ b)) := fun w h => (List.mem_cons.mp h).elim (fun e => ha w (List.mem_cons.mpr (Or.inl e))) (fun h => (List.mem_append.mp h).elim (fun h => ha w (List.mem_cons.mpr (Or.inr h))) (hb w))
theorem goodIn_sub {big ws : List Cond} (hm : ∀ w ∈ ws, w ∈ big) (h : ws.all goodWord = true) : GoodIn big ws := fun w hw => ⟨hm w hw, good_of_word (List.all_eq_true.mp h w hw)⟩
/-! ===== END ===== -/

/-! ===== BEGIN printed: names, fields, word lists, decode rows ===== -/
def RX0 : String := "WagonSidings$Rake"
def TX0 : u_T := fun k => match k with
  | 0 => ("WagonSidings$Rake", "made", "Z", false)
  | 1 => ("WagonSidings$Rake", "kind", "I", false)
  | 2 => ("WagonSidings$Rake", "size", "I", false)
  | _ => ("WagonSidings$Rake", "row", "[LWagonSidings$Wagon;", true)
def tyX0 : Nat → FieldType := fun k => match k with
  | 0 => .boolean
  | 1 => .int
  | 2 => .int
  | _ => .array (.object "WagonSidings$Wagon")
abbrev wsX00 : List Cond := u_ws RX0 TX0 4
theorem nmX0 : ∀ a, a < 4 → ∀ b, b < 4 → a ≠ b → (TX0 a).2.1 ≠ (TX0 b).2.1 := by decide +kernel
theorem tyX0_ok : ∀ k, k < 4 → parseFieldDescriptor (TX0 k).2.2.1 = some (tyX0 k) := by decide +kernel
abbrev cX0_init : ByteArray := prog_2_method_1_code
def yX0_init : MethodName := ⟨RX0, "<init>", "()V"⟩
abbrev cX0_renew : ByteArray := prog_2_method_2_code
def yX0_renew : MethodName := ⟨RX0, "renew", "(II)V"⟩
abbrev cX0_hasPlace : ByteArray := prog_2_method_3_code
def yX0_hasPlace : MethodName := ⟨RX0, "hasPlace", "(I)Z"⟩
def RX1 : String := "WagonSidings$Table"
def TX1 : u_T := fun k => match k with
  | 0 => ("WagonSidings$Table", "made", "Z", false)
  | 1 => ("WagonSidings$Table", "rows", "I", false)
  | 2 => ("WagonSidings$Table", "columns", "I", false)
  | _ => ("WagonSidings$Table", "cells", "[I", true)
def tyX1 : Nat → FieldType := fun k => match k with
  | 0 => .boolean
  | 1 => .int
  | 2 => .int
  | _ => .array .int
abbrev wsX10 : List Cond := u_ws RX1 TX1 4
theorem nmX1 : ∀ a, a < 4 → ∀ b, b < 4 → a ≠ b → (TX1 a).2.1 ≠ (TX1 b).2.1 := by decide +kernel
theorem tyX1_ok : ∀ k, k < 4 → parseFieldDescriptor (TX1 k).2.2.1 = some (tyX1 k) := by decide +kernel
abbrev cX1_init : ByteArray := prog_3_method_1_code
def yX1_init : MethodName := ⟨RX1, "<init>", "()V"⟩
abbrev cX1_renew : ByteArray := prog_3_method_2_code
def yX1_renew : MethodName := ⟨RX1, "renew", "(II)V"⟩
abbrev cX1_hasPlace : ByteArray := prog_3_method_3_code
def yX1_hasPlace : MethodName := ⟨RX1, "hasPlace", "(II)Z"⟩
def RX2 : String := "WagonSidings$Track"
def TX2 : u_T := fun k => match k with
  | 0 => ("WagonSidings$Track", "first", "LWagonSidings$Wagon;", false)
  | _ => ("WagonSidings$Track", "hung", "I", false)
def tyX2 : Nat → FieldType := fun k => match k with
  | 0 => .object "WagonSidings$Wagon"
  | _ => .int
abbrev wsX20 : List Cond := u_ws RX2 TX2 2
theorem nmX2 : ∀ a, a < 2 → ∀ b, b < 2 → a ≠ b → (TX2 a).2.1 ≠ (TX2 b).2.1 := by decide +kernel
theorem tyX2_ok : ∀ k, k < 2 → parseFieldDescriptor (TX2 k).2.2.1 = some (tyX2 k) := by decide +kernel
abbrev cX2_init : ByteArray := prog_4_method_1_code
def yX2_init : MethodName := ⟨RX2, "<init>", "()V"⟩
abbrev cX2_nth : ByteArray := prog_4_method_2_code
def yX2_nth : MethodName := ⟨RX2, "nth", "(I)LWagonSidings$Wagon;"⟩
abbrev cX2_length : ByteArray := prog_4_method_3_code
def yX2_length : MethodName := ⟨RX2, "length", "()I"⟩
def RX3 : String := "WagonSidings$Wagon"
def TX3 : u_T := fun k => match k with
  | 0 => ("WagonSidings$Wagon", "number", "I", true)
  | 1 => ("WagonSidings$Wagon", "kind", "I", true)
  | 2 => ("WagonSidings$Wagon", "cargo", "I", false)
  | 3 => ("WagonSidings$Wagon", "behind", "LWagonSidings$Wagon;", false)
  | 4 => ("WagonSidings$Wagon", "hasOneAhead", "Z", false)
  | _ => ("WagonSidings$Wagon", "firstOn", "I", false)
def tyX3 : Nat → FieldType := fun k => match k with
  | 0 => .int
  | 1 => .int
  | 2 => .int
  | 3 => .object "WagonSidings$Wagon"
  | 4 => .boolean
  | _ => .int
abbrev wsX30 : List Cond := u_ws RX3 TX3 6
theorem nmX3 : ∀ a, a < 6 → ∀ b, b < 6 → a ≠ b → (TX3 a).2.1 ≠ (TX3 b).2.1 := by decide +kernel
theorem tyX3_ok : ∀ k, k < 6 → parseFieldDescriptor (TX3 k).2.2.1 = some (tyX3 k) := by decide +kernel
abbrev cX3_init : ByteArray := prog_5_method_1_code
def yX3_init : MethodName := ⟨RX3, "<init>", "(III)V"⟩
def RX4 : String := "WagonSidings"
def TX4 : u_T := fun k => match k with
  | 0 => ("WagonSidings", "wagons", "[LWagonSidings$Wagon;", true)
  | 1 => ("WagonSidings", "wagonCount", "I", false)
  | 2 => ("WagonSidings", "tracks", "[LWagonSidings$Track;", true)
  | 3 => ("WagonSidings", "rakes", "[LWagonSidings$Rake;", true)
  | 4 => ("WagonSidings", "tables", "[LWagonSidings$Table;", true)
  | 5 => ("WagonSidings", "toldFailure", "I", false)
  | 6 => ("WagonSidings", "toldCount", "I", false)
  | _ => ("WagonSidings", "toldSignal", "I", false)
def tyX4 : Nat → FieldType := fun k => match k with
  | 0 => .array (.object "WagonSidings$Wagon")
  | 1 => .int
  | 2 => .array (.object "WagonSidings$Track")
  | 3 => .array (.object "WagonSidings$Rake")
  | 4 => .array (.object "WagonSidings$Table")
  | 5 => .int
  | 6 => .int
  | _ => .int
abbrev wsX40 : List Cond := u_ws RX4 TX4 8
theorem nmX4 : ∀ a, a < 8 → ∀ b, b < 8 → a ≠ b → (TX4 a).2.1 ≠ (TX4 b).2.1 := by decide +kernel
theorem tyX4_ok : ∀ k, k < 8 → parseFieldDescriptor (TX4 k).2.2.1 = some (tyX4 k) := by decide +kernel
abbrev cX4_init : ByteArray := prog_1_method_1_code
def yX4_init : MethodName := ⟨RX4, "<init>", "()V"⟩
abbrev cX4_wagon : ByteArray := prog_1_method_2_code
def yX4_wagon : MethodName := ⟨RX4, "wagon", "(II)I"⟩
abbrev cX4_couple : ByteArray := prog_1_method_3_code
def yX4_couple : MethodName := ⟨RX4, "couple", "(II)I"⟩
abbrev cX4_stand : ByteArray := prog_1_method_4_code
def yX4_stand : MethodName := ⟨RX4, "stand", "(II)I"⟩
abbrev cX4_signal : ByteArray := prog_1_method_5_code
def yX4_signal : MethodName := ⟨RX4, "signal", "(II)I"⟩
abbrev cX4_wagonAt : ByteArray := prog_1_method_6_code
def yX4_wagonAt : MethodName := ⟨RX4, "wagonAt", "(II)I"⟩
abbrev cX4_load : ByteArray := prog_1_method_7_code
def yX4_load : MethodName := ⟨RX4, "load", "(III)I"⟩
abbrev cX4_cut : ByteArray := prog_1_method_8_code
def yX4_cut : MethodName := ⟨RX4, "cut", "(II)I"⟩
abbrev cX4_hoot : ByteArray := prog_1_method_9_code
def yX4_hoot : MethodName := ⟨RX4, "hoot", "(II)I"⟩
abbrev cX4_pull : ByteArray := prog_1_method_10_code
def yX4_pull : MethodName := ⟨RX4, "pull", "(II)I"⟩
abbrev cX4_loadAs : ByteArray := prog_1_method_11_code
def yX4_loadAs : MethodName := ⟨RX4, "loadAs", "(III)I"⟩
abbrev cX4_rake : ByteArray := prog_1_method_12_code
def yX4_rake : MethodName := ⟨RX4, "rake", "(III)I"⟩
abbrev cX4_drop : ByteArray := prog_1_method_13_code
def yX4_drop : MethodName := ⟨RX4, "drop", "(I)I"⟩
abbrev cX4_lay : ByteArray := prog_1_method_14_code
def yX4_lay : MethodName := ⟨RX4, "lay", "(II)I"⟩
abbrev cX4_places : ByteArray := prog_1_method_15_code
def yX4_places : MethodName := ⟨RX4, "places", "(I)I"⟩
abbrev cX4_loadOn : ByteArray := prog_1_method_16_code
def yX4_loadOn : MethodName := ⟨RX4, "loadOn", "(II)I"⟩
abbrev cX4_table : ByteArray := prog_1_method_17_code
def yX4_table : MethodName := ⟨RX4, "table", "(III)I"⟩
abbrev cX4_add : ByteArray := prog_1_method_18_code
def yX4_add : MethodName := ⟨RX4, "add", "(IIII)I"⟩
abbrev cX4_raise : ByteArray := prog_1_method_19_code
def yX4_raise : MethodName := ⟨RX4, "raise", "(I)I"⟩
abbrev cX4_told : ByteArray := prog_1_method_20_code
def yX4_told : MethodName := ⟨RX4, "told", "(I)I"⟩
abbrev cX4_about : ByteArray := prog_1_method_21_code
def yX4_about : MethodName := ⟨RX4, "about", "(II)I"⟩
abbrev cX4_onRake : ByteArray := prog_1_method_22_code
def yX4_onRake : MethodName := ⟨RX4, "onRake", "(II)I"⟩
abbrev cX4_findWagon : ByteArray := prog_1_method_23_code
def yX4_findWagon : MethodName := ⟨RX4, "findWagon", "(I)LWagonSidings$Wagon;"⟩
abbrev cX4_findTrack : ByteArray := prog_1_method_24_code
def yX4_findTrack : MethodName := ⟨RX4, "findTrack", "(I)LWagonSidings$Track;"⟩
abbrev cX4_findRake : ByteArray := prog_1_method_25_code
def yX4_findRake : MethodName := ⟨RX4, "findRake", "(I)LWagonSidings$Rake;"⟩
abbrev cX4_findTable : ByteArray := prog_1_method_26_code
def yX4_findTable : MethodName := ⟨RX4, "findTable", "(I)LWagonSidings$Table;"⟩
abbrev cX4_reach : ByteArray := prog_1_method_27_code
def yX4_reach : MethodName := ⟨RX4, "reach", "(II)LWagonSidings$Wagon;"⟩
abbrev cX4_answerUnreached : ByteArray := prog_1_method_28_code
def yX4_answerUnreached : MethodName := ⟨RX4, "answerUnreached", "(II)I"⟩
abbrev cX4_isOutsideTrack : ByteArray := prog_1_method_29_code
def yX4_isOutsideTrack : MethodName := ⟨RX4, "isOutsideTrack", "(I)Z"⟩
abbrev cX4_isKind : ByteArray := prog_1_method_30_code
def yX4_isKind : MethodName := ⟨RX4, "isKind", "(I)Z"⟩
abbrev cX4_isOf : ByteArray := prog_1_method_31_code
def yX4_isOf : MethodName := ⟨RX4, "isOf", "(II)Z"⟩
abbrev cX4_hootOf : ByteArray := prog_1_method_32_code
def yX4_hootOf : MethodName := ⟨RX4, "hootOf", "(LWagonSidings$Wagon;)I"⟩
abbrev cX4_pullOf : ByteArray := prog_1_method_33_code
def yX4_pullOf : MethodName := ⟨RX4, "pullOf", "(LWagonSidings$Wagon;)I"⟩
abbrev cX4_isAtOrBehind : ByteArray := prog_1_method_34_code
def yX4_isAtOrBehind : MethodName := ⟨RX4, "isAtOrBehind", "(LWagonSidings$Wagon;LWagonSidings$Wagon;)Z"⟩
abbrev cX4_numberOf : ByteArray := prog_1_method_35_code
def yX4_numberOf : MethodName := ⟨RX4, "numberOf", "(LWagonSidings$Wagon;)I"⟩
abbrev cX4_tell : ByteArray := prog_1_method_36_code
def yX4_tell : MethodName := ⟨RX4, "tell", "(II)V"⟩
abbrev cX4_succeed : ByteArray := prog_1_method_37_code
def yX4_succeed : MethodName := ⟨RX4, "succeed", "(II)I"⟩
abbrev cX4_fail : ByteArray := prog_1_method_38_code
def yX4_fail : MethodName := ⟨RX4, "fail", "(II)I"⟩
def RX5 : String := "WagonSidingsModel"
def TX5 : u_T := fun k => match k with
  | 0 => ("WagonSidingsModel", "wagons", "I", false)
  | 1 => ("WagonSidingsModel", "kind", "[I", true)
  | 2 => ("WagonSidingsModel", "load", "[I", true)
  | 3 => ("WagonSidingsModel", "behind", "[I", true)
  | 4 => ("WagonSidingsModel", "first", "[I", true)
  | 5 => ("WagonSidingsModel", "signal", "[I", true)
  | 6 => ("WagonSidingsModel", "rakeLong", "[I", true)
  | 7 => ("WagonSidingsModel", "rakeKind", "[I", true)
  | 8 => ("WagonSidingsModel", "rake", "[I", true)
  | 9 => ("WagonSidingsModel", "tableLong", "[I", true)
  | 10 => ("WagonSidingsModel", "tableWide", "[I", true)
  | 11 => ("WagonSidingsModel", "table", "[I", true)
  | 12 => ("WagonSidingsModel", "failure", "I", false)
  | 13 => ("WagonSidingsModel", "gone", "I", false)
  | _ => ("WagonSidingsModel", "raised", "I", false)
def tyX5 : Nat → FieldType := fun k => match k with
  | 0 => .int
  | 1 => .array .int
  | 2 => .array .int
  | 3 => .array .int
  | 4 => .array .int
  | 5 => .array .int
  | 6 => .array .int
  | 7 => .array .int
  | 8 => .array .int
  | 9 => .array .int
  | 10 => .array .int
  | 11 => .array .int
  | 12 => .int
  | 13 => .int
  | _ => .int
abbrev wsX50 : List Cond := u_ws RX5 TX5 15
theorem nmX5 : ∀ a, a < 15 → ∀ b, b < 15 → a ≠ b → (TX5 a).2.1 ≠ (TX5 b).2.1 := by decide +kernel
theorem tyX5_ok : ∀ k, k < 15 → parseFieldDescriptor (TX5 k).2.2.1 = some (tyX5 k) := by decide +kernel
abbrev cX5_init : ByteArray := prog_7_method_1_code
def yX5_init : MethodName := ⟨RX5, "<init>", "()V"⟩
abbrev cX5_in : ByteArray := prog_7_method_3_code
def yX5_in : MethodName := ⟨RX5, "in", "(III)Z"⟩
abbrev cX5_isWagon : ByteArray := prog_7_method_4_code
def yX5_isWagon : MethodName := ⟨RX5, "isWagon", "(I)Z"⟩
abbrev cX5_isTrack : ByteArray := prog_7_method_5_code
def yX5_isTrack : MethodName := ⟨RX5, "isTrack", "(I)Z"⟩
abbrev cX5_isRake : ByteArray := prog_7_method_6_code
def yX5_isRake : MethodName := ⟨RX5, "isRake", "(I)Z"⟩
abbrev cX5_isKind : ByteArray := prog_7_method_7_code
def yX5_isKind : MethodName := ⟨RX5, "isKind", "(I)Z"⟩
abbrev cX5_isOf : ByteArray := prog_7_method_8_code
def yX5_isOf : MethodName := ⟨RX5, "isOf", "(II)Z"⟩
abbrev cX5_wagon : ByteArray := prog_7_method_9_code
def yX5_wagon : MethodName := ⟨RX5, "wagon", "(II)I"⟩
abbrev cX5_hasAhead : ByteArray := prog_7_method_10_code
def yX5_hasAhead : MethodName := ⟨RX5, "hasAhead", "(I)Z"⟩
abbrev cX5_trackOf : ByteArray := prog_7_method_11_code
def yX5_trackOf : MethodName := ⟨RX5, "trackOf", "(I)I"⟩
abbrev cX5_couple : ByteArray := prog_7_method_12_code
def yX5_couple : MethodName := ⟨RX5, "couple", "(II)I"⟩
abbrev cX5_stand : ByteArray := prog_7_method_13_code
def yX5_stand : MethodName := ⟨RX5, "stand", "(II)I"⟩
abbrev cX5_signal : ByteArray := prog_7_method_14_code
def yX5_signal : MethodName := ⟨RX5, "signal", "(II)I"⟩
abbrev cX5_ends : ByteArray := prog_7_method_15_code
def yX5_ends : MethodName := ⟨RX5, "ends", "(II)I"⟩
abbrev cX5_well : ByteArray := prog_7_method_16_code
def yX5_well : MethodName := ⟨RX5, "well", "(II)I"⟩
abbrev cX5_refused : ByteArray := prog_7_method_17_code
def yX5_refused : MethodName := ⟨RX5, "refused", "(II)I"⟩
abbrev cX5_nth : ByteArray := prog_7_method_18_code
def yX5_nth : MethodName := ⟨RX5, "nth", "(II)I"⟩
abbrev cX5_wagonAt : ByteArray := prog_7_method_19_code
def yX5_wagonAt : MethodName := ⟨RX5, "wagonAt", "(II)I"⟩
abbrev cX5_load : ByteArray := prog_7_method_20_code
def yX5_load : MethodName := ⟨RX5, "load", "(III)I"⟩
abbrev cX5_cut : ByteArray := prog_7_method_21_code
def yX5_cut : MethodName := ⟨RX5, "cut", "(II)I"⟩
abbrev cX5_hoot : ByteArray := prog_7_method_22_code
def yX5_hoot : MethodName := ⟨RX5, "hoot", "(II)I"⟩
abbrev cX5_pull : ByteArray := prog_7_method_23_code
def yX5_pull : MethodName := ⟨RX5, "pull", "(II)I"⟩
abbrev cX5_loadAs : ByteArray := prog_7_method_24_code
def yX5_loadAs : MethodName := ⟨RX5, "loadAs", "(III)I"⟩
abbrev cX5_rake : ByteArray := prog_7_method_25_code
def yX5_rake : MethodName := ⟨RX5, "rake", "(III)I"⟩
abbrev cX5_drop : ByteArray := prog_7_method_26_code
def yX5_drop : MethodName := ⟨RX5, "drop", "(I)I"⟩
abbrev cX5_lay : ByteArray := prog_7_method_27_code
def yX5_lay : MethodName := ⟨RX5, "lay", "(II)I"⟩
abbrev cX5_places : ByteArray := prog_7_method_28_code
def yX5_places : MethodName := ⟨RX5, "places", "(I)I"⟩
abbrev cX5_loadOn : ByteArray := prog_7_method_29_code
def yX5_loadOn : MethodName := ⟨RX5, "loadOn", "(II)I"⟩
abbrev cX5_table : ByteArray := prog_7_method_30_code
def yX5_table : MethodName := ⟨RX5, "table", "(III)I"⟩
abbrev cX5_add : ByteArray := prog_7_method_31_code
def yX5_add : MethodName := ⟨RX5, "add", "(IIII)I"⟩
abbrev cX5_raise : ByteArray := prog_7_method_32_code
def yX5_raise : MethodName := ⟨RX5, "raise", "(I)I"⟩
abbrev cX5_told : ByteArray := prog_7_method_33_code
def yX5_told : MethodName := ⟨RX5, "told", "(I)I"⟩
abbrev cX5_about : ByteArray := prog_7_method_34_code
def yX5_about : MethodName := ⟨RX5, "about", "(II)I"⟩
abbrev cX5_onRake : ByteArray := prog_7_method_35_code
def yX5_onRake : MethodName := ⟨RX5, "onRake", "(II)I"⟩
def RL : String := "WagonSidingsLaw"
abbrev cL_law : ByteArray := code
def yL_law : MethodName := ⟨RL, "law", "([I)Z"⟩
def wsX0_init : List Cond := .code yX0_init cX0_init 1 none :: ([.methodLink RX0 3 objectInit, .instanceMethod objectInit, .code objectInit ⟨#[0xb1]⟩ 1 none, .classLink RX0 9 RX3, .fieldLink RX0 11 "WagonSidings$Rake" "row" "[LWagonSidings$Wagon;"] ++ wsX00)
def wsX0_renew : List Cond := .code yX0_renew cX0_renew 4 none :: ([.fieldLink RX0 17 "WagonSidings$Rake" "made" "Z", .fieldLink RX0 21 "WagonSidings$Rake" "kind" "I", .fieldLink RX0 25 "WagonSidings$Rake" "size" "I", .fieldLink RX0 11 "WagonSidings$Rake" "row" "[LWagonSidings$Wagon;"] ++ wsX00)
def wsX0_hasPlace : List Cond := .code yX0_hasPlace cX0_hasPlace 2 (some .boolean) :: ([.fieldLink RX0 17 "WagonSidings$Rake" "made" "Z", .fieldLink RX0 25 "WagonSidings$Rake" "size" "I", .fieldLink RX0 11 "WagonSidings$Rake" "row" "[LWagonSidings$Wagon;"] ++ wsX00)
def wsX1_init : List Cond := .code yX1_init cX1_init 1 none :: ([.methodLink RX1 3 objectInit, .instanceMethod objectInit, .code objectInit ⟨#[0xb1]⟩ 1 none, .arrayClass .int, .fieldLink RX1 9 "WagonSidings$Table" "cells" "[I"] ++ wsX10)
def wsX1_renew : List Cond := .code yX1_renew cX1_renew 4 none :: ([.fieldLink RX1 15 "WagonSidings$Table" "made" "Z", .fieldLink RX1 19 "WagonSidings$Table" "rows" "I", .fieldLink RX1 23 "WagonSidings$Table" "columns" "I", .fieldLink RX1 9 "WagonSidings$Table" "cells" "[I"] ++ wsX10)
def wsX1_hasPlace : List Cond := .code yX1_hasPlace cX1_hasPlace 3 (some .boolean) :: ([.fieldLink RX1 19 "WagonSidings$Table" "rows" "I", .fieldLink RX1 23 "WagonSidings$Table" "columns" "I"] ++ wsX10)
def wsX2_init : List Cond := .code yX2_init cX2_init 1 none :: ([.methodLink RX2 3 objectInit, .instanceMethod objectInit, .code objectInit ⟨#[0xb1]⟩ 1 none, .fieldLink RX2 9 "WagonSidings$Track" "hung" "I"] ++ wsX20)
def wsX2_nth : List Cond := .code yX2_nth cX2_nth 4 (some (.object "WagonSidings$Wagon")) :: ([.fieldLink RX2 15 "WagonSidings$Track" "first" "LWagonSidings$Wagon;", .fieldLink RX2 19 "WagonSidings$Wagon" "behind" "LWagonSidings$Wagon;"] ++ wsX20 ++ wsX30)
def wsX2_length : List Cond := .code yX2_length cX2_length 3 (some .int) :: ([.fieldLink RX2 15 "WagonSidings$Track" "first" "LWagonSidings$Wagon;", .fieldLink RX2 19 "WagonSidings$Wagon" "behind" "LWagonSidings$Wagon;"] ++ wsX20 ++ wsX30)
def wsX3_init : List Cond := .code yX3_init cX3_init 4 none :: ([.methodLink RX3 3 objectInit, .instanceMethod objectInit, .code objectInit ⟨#[0xb1]⟩ 1 none, .fieldLink RX3 9 "WagonSidings$Wagon" "firstOn" "I", .fieldLink RX3 15 "WagonSidings$Wagon" "number" "I", .fieldLink RX3 18 "WagonSidings$Wagon" "kind" "I", .fieldLink RX3 21 "WagonSidings$Wagon" "cargo" "I"] ++ wsX30)
def wsX4_init_r1 : List Cond := [Cond.methodLink RX4 1 objectInit, Cond.instanceMethod objectInit, Cond.code objectInit ⟨#[0xb1]⟩ 1 none, Cond.classLink RX4 9 RX3, Cond.fieldLink RX4 11 "WagonSidings" "wagons" "[LWagonSidings$Wagon;", Cond.classLink RX4 15 RX2, Cond.fieldLink RX4 17 "WagonSidings" "tracks" "[LWagonSidings$Track;", Cond.classLink RX4 21 RX0, Cond.fieldLink RX4 23 "WagonSidings" "rakes" "[LWagonSidings$Rake;", Cond.classLink RX4 27 RX1, Cond.fieldLink RX4 29 "WagonSidings" "tables" "[LWagonSidings$Table;", Cond.instantiable RX2 2, Cond.initialized RX2, Cond.instantiable RX0 4, Cond.initialized RX0, Cond.instantiable RX1 4, Cond.initialized RX1, Cond.instanceMethod yX2_init, Cond.code yX2_init cX2_init 1 none, Cond.methodLink RX2 3 objectInit, Cond.fieldLink RX2 9 "WagonSidings$Track" "hung" "I", Cond.instanceMethod yX0_init, Cond.code yX0_init cX0_init 1 none, Cond.methodLink RX0 3 objectInit]
def wsX4_init_r2 : List Cond := [Cond.classLink RX0 9 RX3, Cond.fieldLink RX0 11 "WagonSidings$Rake" "row" "[LWagonSidings$Wagon;", Cond.instanceMethod yX1_init, Cond.code yX1_init cX1_init 1 none, Cond.methodLink RX1 3 objectInit, Cond.arrayClass .int, Cond.fieldLink RX1 9 "WagonSidings$Table" "cells" "[I"]
def wsX4_init : List Cond := .code yX4_init cX4_init 2 none :: ((wsX4_init_r1 ++ wsX4_init_r2) ++ wsX40 ++ wsX20 ++ wsX00 ++ wsX10)
def wsX4_isKind : List Cond := .code yX4_isKind cX4_isKind 1 (some .boolean) :: ([])
def wsX4_wagon : List Cond := .code yX4_wagon cX4_wagon 4 (some .int) :: ([.fieldLink RX4 40 "WagonSidings" "wagonCount" "I", .fieldLink RX4 11 "WagonSidings" "wagons" "[LWagonSidings$Wagon;", .classLink RX4 9 RX3, .instantiable RX3 6, .initialized RX3, .methodLink RX4 36 yX4_isKind, .static yX4_isKind, .initialized RX4, .code yX4_isKind cX4_isKind 1 (some .boolean), .methodLink RX4 44 yX3_init, .instanceMethod yX3_init, .code yX3_init cX3_init 4 none, .methodLink RX3 3 objectInit, .instanceMethod objectInit, .code objectInit ⟨#[0xb1]⟩ 1 none, .fieldLink RX3 9 "WagonSidings$Wagon" "firstOn" "I", .fieldLink RX3 15 "WagonSidings$Wagon" "number" "I", .fieldLink RX3 18 "WagonSidings$Wagon" "kind" "I", .fieldLink RX3 21 "WagonSidings$Wagon" "cargo" "I"] ++ wsX40 ++ wsX30)
def wsX4_findWagon : List Cond := .code yX4_findWagon cX4_findWagon 2 (some (.object "WagonSidings$Wagon")) :: ([.fieldLink RX4 11 "WagonSidings" "wagons" "[LWagonSidings$Wagon;"] ++ wsX40)
def wsX4_isAtOrBehind : List Cond := .code yX4_isAtOrBehind cX4_isAtOrBehind 3 (some .boolean) :: ([.fieldLink RX4 51 "WagonSidings$Wagon" "behind" "LWagonSidings$Wagon;"] ++ wsX30)
def wsX4_couple : List Cond := .code yX4_couple cX4_couple 5 (some .int) :: ([.fieldLink RX4 51 "WagonSidings$Wagon" "behind" "LWagonSidings$Wagon;", .fieldLink RX4 55 "WagonSidings$Wagon" "hasOneAhead" "Z", .fieldLink RX4 59 "WagonSidings$Wagon" "firstOn" "I", .methodLink RX4 47 yX4_findWagon, .instanceMethod yX4_findWagon, .selects RX4 yX4_findWagon yX4_findWagon, .initialized RX4, .code yX4_findWagon cX4_findWagon 2 (some (.object "WagonSidings$Wagon")), .fieldLink RX4 11 "WagonSidings" "wagons" "[LWagonSidings$Wagon;", .methodLink RX4 62 yX4_isAtOrBehind, .static yX4_isAtOrBehind, .code yX4_isAtOrBehind cX4_isAtOrBehind 3 (some .boolean)] ++ wsX30 ++ wsX40)
def wsX4_findTrack : List Cond := .code yX4_findTrack cX4_findTrack 2 (some (.object "WagonSidings$Track")) :: ([.fieldLink RX4 17 "WagonSidings" "tracks" "[LWagonSidings$Track;"] ++ wsX40)
def wsX4_numberOf : List Cond := .code yX4_numberOf cX4_numberOf 1 (some .int) :: ([.fieldLink RX4 88 "WagonSidings$Wagon" "number" "I"] ++ wsX30)
def wsX4_stand : List Cond := .code yX4_stand cX4_stand 6 (some .int) :: ([.fieldLink RX4 55 "WagonSidings$Wagon" "hasOneAhead" "Z", .fieldLink RX4 59 "WagonSidings$Wagon" "firstOn" "I", .fieldLink RX4 70 "WagonSidings$Track" "first" "LWagonSidings$Wagon;", .methodLink RX4 66 yX4_findTrack, .instanceMethod yX4_findTrack, .selects RX4 yX4_findTrack yX4_findTrack, .initialized RX4, .code yX4_findTrack cX4_findTrack 2 (some (.object "WagonSidings$Track")), .fieldLink RX4 17 "WagonSidings" "tracks" "[LWagonSidings$Track;", .methodLink RX4 47 yX4_findWagon, .instanceMethod yX4_findWagon, .selects RX4 yX4_findWagon yX4_findWagon, .code yX4_findWagon cX4_findWagon 2 (some (.object "WagonSidings$Wagon")), .fieldLink RX4 11 "WagonSidings" "wagons" "[LWagonSidings$Wagon;", .methodLink RX4 73 yX4_numberOf, .static yX4_numberOf, .code yX4_numberOf cX4_numberOf 1 (some .int), .fieldLink RX4 88 "WagonSidings$Wagon" "number" "I"] ++ wsX30 ++ wsX20 ++ wsX40)
def wsX4_signal : List Cond := .code yX4_signal cX4_signal 5 (some .int) :: ([.fieldLink RX4 77 "WagonSidings$Track" "hung" "I", .methodLink RX4 66 yX4_findTrack, .instanceMethod yX4_findTrack, .selects RX4 yX4_findTrack yX4_findTrack, .initialized RX4, .code yX4_findTrack cX4_findTrack 2 (some (.object "WagonSidings$Track")), .fieldLink RX4 17 "WagonSidings" "tracks" "[LWagonSidings$Track;"] ++ wsX20 ++ wsX40)
def wsX4_isOutsideTrack : List Cond := .code yX4_isOutsideTrack cX4_isOutsideTrack 1 (some .boolean) :: ([])
def wsX4_tell : List Cond := .code yX4_tell cX4_tell 3 none :: ([.fieldLink RX4 149 "WagonSidings" "toldFailure" "I", .fieldLink RX4 152 "WagonSidings" "toldCount" "I", .fieldLink RX4 146 "WagonSidings" "toldSignal" "I"] ++ wsX40)
def wsX4_reach : List Cond := .code yX4_reach cX4_reach 5 (some (.object "WagonSidings$Wagon")) :: ([.methodLink RX4 66 yX4_findTrack, .instanceMethod yX4_findTrack, .selects RX4 yX4_findTrack yX4_findTrack, .initialized RX4, .code yX4_findTrack cX4_findTrack 2 (some (.object "WagonSidings$Track")), .fieldLink RX4 17 "WagonSidings" "tracks" "[LWagonSidings$Track;", .methodLink RX4 155 yX4_isOutsideTrack, .static yX4_isOutsideTrack, .code yX4_isOutsideTrack cX4_isOutsideTrack 1 (some .boolean), .methodLink RX4 158 yX2_nth, .instanceMethod yX2_nth, .selects RX2 yX2_nth yX2_nth, .initialized RX2, .code yX2_nth cX2_nth 4 (some (.object "WagonSidings$Wagon")), .fieldLink RX2 15 "WagonSidings$Track" "first" "LWagonSidings$Wagon;", .fieldLink RX2 19 "WagonSidings$Wagon" "behind" "LWagonSidings$Wagon;", .methodLink RX4 161 yX4_tell, .instanceMethod yX4_tell, .selects RX4 yX4_tell yX4_tell, .code yX4_tell cX4_tell 3 none, .fieldLink RX4 149 "WagonSidings" "toldFailure" "I", .fieldLink RX4 152 "WagonSidings" "toldCount" "I", .fieldLink RX4 146 "WagonSidings" "toldSignal" "I"] ++ wsX40 ++ wsX20 ++ wsX30)
def wsX4_fail : List Cond := .code yX4_fail cX4_fail 3 (some .int) :: ([.methodLink RX4 161 yX4_tell, .instanceMethod yX4_tell, .selects RX4 yX4_tell yX4_tell, .initialized RX4, .code yX4_tell cX4_tell 3 none, .fieldLink RX4 149 "WagonSidings" "toldFailure" "I", .fieldLink RX4 152 "WagonSidings" "toldCount" "I", .fieldLink RX4 146 "WagonSidings" "toldSignal" "I"] ++ wsX40)
def wsX4_answerUnreached_r1 : List Cond := [Cond.methodLink RX4 66 yX4_findTrack, Cond.instanceMethod yX4_findTrack, Cond.selects RX4 yX4_findTrack yX4_findTrack, Cond.initialized RX4, Cond.code yX4_findTrack cX4_findTrack 2 (some (.object "WagonSidings$Track")), Cond.fieldLink RX4 17 "WagonSidings" "tracks" "[LWagonSidings$Track;", Cond.methodLink RX4 155 yX4_isOutsideTrack, Cond.static yX4_isOutsideTrack, Cond.code yX4_isOutsideTrack cX4_isOutsideTrack 1 (some .boolean), Cond.methodLink RX4 164 yX2_length, Cond.instanceMethod yX2_length, Cond.selects RX2 yX2_length yX2_length, Cond.initialized RX2, Cond.code yX2_length cX2_length 3 (some .int), Cond.fieldLink RX2 15 "WagonSidings$Track" "first" "LWagonSidings$Wagon;", Cond.fieldLink RX2 19 "WagonSidings$Wagon" "behind" "LWagonSidings$Wagon;", Cond.methodLink RX4 107 yX4_fail, Cond.instanceMethod yX4_fail, Cond.selects RX4 yX4_fail yX4_fail, Cond.code yX4_fail cX4_fail 3 (some .int), Cond.methodLink RX4 161 yX4_tell, Cond.instanceMethod yX4_tell, Cond.selects RX4 yX4_tell yX4_tell, Cond.code yX4_tell cX4_tell 3 none]
def wsX4_answerUnreached_r2 : List Cond := [Cond.fieldLink RX4 149 "WagonSidings" "toldFailure" "I", Cond.fieldLink RX4 152 "WagonSidings" "toldCount" "I", Cond.fieldLink RX4 146 "WagonSidings" "toldSignal" "I"]
def wsX4_answerUnreached : List Cond := .code yX4_answerUnreached cX4_answerUnreached 4 (some .int) :: ((wsX4_answerUnreached_r1 ++ wsX4_answerUnreached_r2) ++ wsX40 ++ wsX20 ++ wsX30)
def wsX4_wagonAt_r1 : List Cond := [Cond.fieldLink RX4 88 "WagonSidings$Wagon" "number" "I", Cond.methodLink RX4 80 yX4_reach, Cond.instanceMethod yX4_reach, Cond.selects RX4 yX4_reach yX4_reach, Cond.initialized RX4, Cond.code yX4_reach cX4_reach 5 (some (.object "WagonSidings$Wagon")), Cond.methodLink RX4 66 yX4_findTrack, Cond.instanceMethod yX4_findTrack, Cond.selects RX4 yX4_findTrack yX4_findTrack, Cond.code yX4_findTrack cX4_findTrack 2 (some (.object "WagonSidings$Track")), Cond.fieldLink RX4 17 "WagonSidings" "tracks" "[LWagonSidings$Track;", Cond.methodLink RX4 155 yX4_isOutsideTrack, Cond.static yX4_isOutsideTrack, Cond.code yX4_isOutsideTrack cX4_isOutsideTrack 1 (some .boolean), Cond.methodLink RX4 158 yX2_nth, Cond.instanceMethod yX2_nth, Cond.selects RX2 yX2_nth yX2_nth, Cond.initialized RX2, Cond.code yX2_nth cX2_nth 4 (some (.object "WagonSidings$Wagon")), Cond.fieldLink RX2 15 "WagonSidings$Track" "first" "LWagonSidings$Wagon;", Cond.fieldLink RX2 19 "WagonSidings$Wagon" "behind" "LWagonSidings$Wagon;", Cond.methodLink RX4 161 yX4_tell, Cond.instanceMethod yX4_tell, Cond.selects RX4 yX4_tell yX4_tell]
def wsX4_wagonAt_r2 : List Cond := [Cond.code yX4_tell cX4_tell 3 none, Cond.fieldLink RX4 149 "WagonSidings" "toldFailure" "I", Cond.fieldLink RX4 152 "WagonSidings" "toldCount" "I", Cond.fieldLink RX4 146 "WagonSidings" "toldSignal" "I", Cond.methodLink RX4 84 yX4_answerUnreached, Cond.instanceMethod yX4_answerUnreached, Cond.selects RX4 yX4_answerUnreached yX4_answerUnreached, Cond.code yX4_answerUnreached cX4_answerUnreached 4 (some .int), Cond.methodLink RX4 164 yX2_length, Cond.instanceMethod yX2_length, Cond.selects RX2 yX2_length yX2_length, Cond.code yX2_length cX2_length 3 (some .int), Cond.methodLink RX4 107 yX4_fail, Cond.instanceMethod yX4_fail, Cond.selects RX4 yX4_fail yX4_fail, Cond.code yX4_fail cX4_fail 3 (some .int)]
def wsX4_wagonAt : List Cond := .code yX4_wagonAt cX4_wagonAt 4 (some .int) :: ((wsX4_wagonAt_r1 ++ wsX4_wagonAt_r2) ++ wsX30 ++ wsX40 ++ wsX20)
def wsX4_load_r1 : List Cond := [Cond.fieldLink RX4 91 "WagonSidings$Wagon" "cargo" "I", Cond.methodLink RX4 80 yX4_reach, Cond.instanceMethod yX4_reach, Cond.selects RX4 yX4_reach yX4_reach, Cond.initialized RX4, Cond.code yX4_reach cX4_reach 5 (some (.object "WagonSidings$Wagon")), Cond.methodLink RX4 66 yX4_findTrack, Cond.instanceMethod yX4_findTrack, Cond.selects RX4 yX4_findTrack yX4_findTrack, Cond.code yX4_findTrack cX4_findTrack 2 (some (.object "WagonSidings$Track")), Cond.fieldLink RX4 17 "WagonSidings" "tracks" "[LWagonSidings$Track;", Cond.methodLink RX4 155 yX4_isOutsideTrack, Cond.static yX4_isOutsideTrack, Cond.code yX4_isOutsideTrack cX4_isOutsideTrack 1 (some .boolean), Cond.methodLink RX4 158 yX2_nth, Cond.instanceMethod yX2_nth, Cond.selects RX2 yX2_nth yX2_nth, Cond.initialized RX2, Cond.code yX2_nth cX2_nth 4 (some (.object "WagonSidings$Wagon")), Cond.fieldLink RX2 15 "WagonSidings$Track" "first" "LWagonSidings$Wagon;", Cond.fieldLink RX2 19 "WagonSidings$Wagon" "behind" "LWagonSidings$Wagon;", Cond.methodLink RX4 161 yX4_tell, Cond.instanceMethod yX4_tell, Cond.selects RX4 yX4_tell yX4_tell]
def wsX4_load_r2 : List Cond := [Cond.code yX4_tell cX4_tell 3 none, Cond.fieldLink RX4 149 "WagonSidings" "toldFailure" "I", Cond.fieldLink RX4 152 "WagonSidings" "toldCount" "I", Cond.fieldLink RX4 146 "WagonSidings" "toldSignal" "I", Cond.methodLink RX4 84 yX4_answerUnreached, Cond.instanceMethod yX4_answerUnreached, Cond.selects RX4 yX4_answerUnreached yX4_answerUnreached, Cond.code yX4_answerUnreached cX4_answerUnreached 4 (some .int), Cond.methodLink RX4 164 yX2_length, Cond.instanceMethod yX2_length, Cond.selects RX2 yX2_length yX2_length, Cond.code yX2_length cX2_length 3 (some .int), Cond.methodLink RX4 107 yX4_fail, Cond.instanceMethod yX4_fail, Cond.selects RX4 yX4_fail yX4_fail, Cond.code yX4_fail cX4_fail 3 (some .int)]
def wsX4_load : List Cond := .code yX4_load cX4_load 5 (some .int) :: ((wsX4_load_r1 ++ wsX4_load_r2) ++ wsX30 ++ wsX40 ++ wsX20)
def wsX4_cut_r1 : List Cond := [Cond.fieldLink RX4 51 "WagonSidings$Wagon" "behind" "LWagonSidings$Wagon;", Cond.fieldLink RX4 55 "WagonSidings$Wagon" "hasOneAhead" "Z", Cond.methodLink RX4 80 yX4_reach, Cond.instanceMethod yX4_reach, Cond.selects RX4 yX4_reach yX4_reach, Cond.initialized RX4, Cond.code yX4_reach cX4_reach 5 (some (.object "WagonSidings$Wagon")), Cond.methodLink RX4 66 yX4_findTrack, Cond.instanceMethod yX4_findTrack, Cond.selects RX4 yX4_findTrack yX4_findTrack, Cond.code yX4_findTrack cX4_findTrack 2 (some (.object "WagonSidings$Track")), Cond.fieldLink RX4 17 "WagonSidings" "tracks" "[LWagonSidings$Track;", Cond.methodLink RX4 155 yX4_isOutsideTrack, Cond.static yX4_isOutsideTrack, Cond.code yX4_isOutsideTrack cX4_isOutsideTrack 1 (some .boolean), Cond.methodLink RX4 158 yX2_nth, Cond.instanceMethod yX2_nth, Cond.selects RX2 yX2_nth yX2_nth, Cond.initialized RX2, Cond.code yX2_nth cX2_nth 4 (some (.object "WagonSidings$Wagon")), Cond.fieldLink RX2 15 "WagonSidings$Track" "first" "LWagonSidings$Wagon;", Cond.fieldLink RX2 19 "WagonSidings$Wagon" "behind" "LWagonSidings$Wagon;", Cond.methodLink RX4 161 yX4_tell, Cond.instanceMethod yX4_tell]
def wsX4_cut_r2 : List Cond := [Cond.selects RX4 yX4_tell yX4_tell, Cond.code yX4_tell cX4_tell 3 none, Cond.fieldLink RX4 149 "WagonSidings" "toldFailure" "I", Cond.fieldLink RX4 152 "WagonSidings" "toldCount" "I", Cond.fieldLink RX4 146 "WagonSidings" "toldSignal" "I", Cond.methodLink RX4 84 yX4_answerUnreached, Cond.instanceMethod yX4_answerUnreached, Cond.selects RX4 yX4_answerUnreached yX4_answerUnreached, Cond.code yX4_answerUnreached cX4_answerUnreached 4 (some .int), Cond.methodLink RX4 164 yX2_length, Cond.instanceMethod yX2_length, Cond.selects RX2 yX2_length yX2_length, Cond.code yX2_length cX2_length 3 (some .int), Cond.methodLink RX4 107 yX4_fail, Cond.instanceMethod yX4_fail, Cond.selects RX4 yX4_fail yX4_fail, Cond.code yX4_fail cX4_fail 3 (some .int)]
def wsX4_cut : List Cond := .code yX4_cut cX4_cut 4 (some .int) :: ((wsX4_cut_r1 ++ wsX4_cut_r2) ++ wsX30 ++ wsX40 ++ wsX20)
def wsX4_hootOf : List Cond := .code yX4_hootOf cX4_hootOf 1 (some .int) :: ([.fieldLink RX4 97 "WagonSidings$Wagon" "kind" "I", .fieldLink RX4 91 "WagonSidings$Wagon" "cargo" "I"] ++ wsX30)
def wsX4_hoot_r1 : List Cond := [Cond.methodLink RX4 80 yX4_reach, Cond.instanceMethod yX4_reach, Cond.selects RX4 yX4_reach yX4_reach, Cond.initialized RX4, Cond.code yX4_reach cX4_reach 5 (some (.object "WagonSidings$Wagon")), Cond.methodLink RX4 66 yX4_findTrack, Cond.instanceMethod yX4_findTrack, Cond.selects RX4 yX4_findTrack yX4_findTrack, Cond.code yX4_findTrack cX4_findTrack 2 (some (.object "WagonSidings$Track")), Cond.fieldLink RX4 17 "WagonSidings" "tracks" "[LWagonSidings$Track;", Cond.methodLink RX4 155 yX4_isOutsideTrack, Cond.static yX4_isOutsideTrack, Cond.code yX4_isOutsideTrack cX4_isOutsideTrack 1 (some .boolean), Cond.methodLink RX4 158 yX2_nth, Cond.instanceMethod yX2_nth, Cond.selects RX2 yX2_nth yX2_nth, Cond.initialized RX2, Cond.code yX2_nth cX2_nth 4 (some (.object "WagonSidings$Wagon")), Cond.fieldLink RX2 15 "WagonSidings$Track" "first" "LWagonSidings$Wagon;", Cond.fieldLink RX2 19 "WagonSidings$Wagon" "behind" "LWagonSidings$Wagon;", Cond.methodLink RX4 161 yX4_tell, Cond.instanceMethod yX4_tell, Cond.selects RX4 yX4_tell yX4_tell, Cond.code yX4_tell cX4_tell 3 none]
def wsX4_hoot_r2 : List Cond := [Cond.fieldLink RX4 149 "WagonSidings" "toldFailure" "I", Cond.fieldLink RX4 152 "WagonSidings" "toldCount" "I", Cond.fieldLink RX4 146 "WagonSidings" "toldSignal" "I", Cond.methodLink RX4 84 yX4_answerUnreached, Cond.instanceMethod yX4_answerUnreached, Cond.selects RX4 yX4_answerUnreached yX4_answerUnreached, Cond.code yX4_answerUnreached cX4_answerUnreached 4 (some .int), Cond.methodLink RX4 164 yX2_length, Cond.instanceMethod yX2_length, Cond.selects RX2 yX2_length yX2_length, Cond.code yX2_length cX2_length 3 (some .int), Cond.methodLink RX4 107 yX4_fail, Cond.instanceMethod yX4_fail, Cond.selects RX4 yX4_fail yX4_fail, Cond.code yX4_fail cX4_fail 3 (some .int), Cond.methodLink RX4 94 yX4_hootOf, Cond.static yX4_hootOf, Cond.code yX4_hootOf cX4_hootOf 1 (some .int), Cond.fieldLink RX4 97 "WagonSidings$Wagon" "kind" "I", Cond.fieldLink RX4 91 "WagonSidings$Wagon" "cargo" "I"]
def wsX4_hoot : List Cond := .code yX4_hoot cX4_hoot 4 (some .int) :: ((wsX4_hoot_r1 ++ wsX4_hoot_r2) ++ wsX40 ++ wsX20 ++ wsX30)
def wsX4_isOf : List Cond := .code yX4_isOf cX4_isOf 2 (some .boolean) :: ([])
def wsX4_pullOf : List Cond := .code yX4_pullOf cX4_pullOf 3 (some .int) :: ([.fieldLink RX4 51 "WagonSidings$Wagon" "behind" "LWagonSidings$Wagon;", .fieldLink RX4 91 "WagonSidings$Wagon" "cargo" "I", .fieldLink RX4 97 "WagonSidings$Wagon" "kind" "I"] ++ wsX30)
def wsX4_pull_r1 : List Cond := [Cond.fieldLink RX4 97 "WagonSidings$Wagon" "kind" "I", Cond.methodLink RX4 80 yX4_reach, Cond.instanceMethod yX4_reach, Cond.selects RX4 yX4_reach yX4_reach, Cond.initialized RX4, Cond.code yX4_reach cX4_reach 5 (some (.object "WagonSidings$Wagon")), Cond.methodLink RX4 66 yX4_findTrack, Cond.instanceMethod yX4_findTrack, Cond.selects RX4 yX4_findTrack yX4_findTrack, Cond.code yX4_findTrack cX4_findTrack 2 (some (.object "WagonSidings$Track")), Cond.fieldLink RX4 17 "WagonSidings" "tracks" "[LWagonSidings$Track;", Cond.methodLink RX4 155 yX4_isOutsideTrack, Cond.static yX4_isOutsideTrack, Cond.code yX4_isOutsideTrack cX4_isOutsideTrack 1 (some .boolean), Cond.methodLink RX4 158 yX2_nth, Cond.instanceMethod yX2_nth, Cond.selects RX2 yX2_nth yX2_nth, Cond.initialized RX2, Cond.code yX2_nth cX2_nth 4 (some (.object "WagonSidings$Wagon")), Cond.fieldLink RX2 15 "WagonSidings$Track" "first" "LWagonSidings$Wagon;", Cond.fieldLink RX2 19 "WagonSidings$Wagon" "behind" "LWagonSidings$Wagon;", Cond.methodLink RX4 161 yX4_tell, Cond.instanceMethod yX4_tell, Cond.selects RX4 yX4_tell yX4_tell]
def wsX4_pull_r2 : List Cond := [Cond.code yX4_tell cX4_tell 3 none, Cond.fieldLink RX4 149 "WagonSidings" "toldFailure" "I", Cond.fieldLink RX4 152 "WagonSidings" "toldCount" "I", Cond.fieldLink RX4 146 "WagonSidings" "toldSignal" "I", Cond.methodLink RX4 84 yX4_answerUnreached, Cond.instanceMethod yX4_answerUnreached, Cond.selects RX4 yX4_answerUnreached yX4_answerUnreached, Cond.code yX4_answerUnreached cX4_answerUnreached 4 (some .int), Cond.methodLink RX4 164 yX2_length, Cond.instanceMethod yX2_length, Cond.selects RX2 yX2_length yX2_length, Cond.code yX2_length cX2_length 3 (some .int), Cond.methodLink RX4 107 yX4_fail, Cond.instanceMethod yX4_fail, Cond.selects RX4 yX4_fail yX4_fail, Cond.code yX4_fail cX4_fail 3 (some .int), Cond.methodLink RX4 100 yX4_isOf, Cond.static yX4_isOf, Cond.code yX4_isOf cX4_isOf 2 (some .boolean), Cond.methodLink RX4 104 yX4_pullOf, Cond.static yX4_pullOf, Cond.code yX4_pullOf cX4_pullOf 3 (some .int), Cond.fieldLink RX4 51 "WagonSidings$Wagon" "behind" "LWagonSidings$Wagon;", Cond.fieldLink RX4 91 "WagonSidings$Wagon" "cargo" "I"]
def wsX4_pull : List Cond := .code yX4_pull cX4_pull 4 (some .int) :: ((wsX4_pull_r1 ++ wsX4_pull_r2) ++ wsX30 ++ wsX40 ++ wsX20)
def wsX4_loadAs_r1 : List Cond := [Cond.fieldLink RX4 97 "WagonSidings$Wagon" "kind" "I", Cond.fieldLink RX4 91 "WagonSidings$Wagon" "cargo" "I", Cond.methodLink RX4 36 yX4_isKind, Cond.static yX4_isKind, Cond.initialized RX4, Cond.code yX4_isKind cX4_isKind 1 (some .boolean), Cond.methodLink RX4 66 yX4_findTrack, Cond.instanceMethod yX4_findTrack, Cond.selects RX4 yX4_findTrack yX4_findTrack, Cond.code yX4_findTrack cX4_findTrack 2 (some (.object "WagonSidings$Track")), Cond.fieldLink RX4 17 "WagonSidings" "tracks" "[LWagonSidings$Track;", Cond.methodLink RX4 80 yX4_reach, Cond.instanceMethod yX4_reach, Cond.selects RX4 yX4_reach yX4_reach, Cond.code yX4_reach cX4_reach 5 (some (.object "WagonSidings$Wagon")), Cond.methodLink RX4 155 yX4_isOutsideTrack, Cond.static yX4_isOutsideTrack, Cond.code yX4_isOutsideTrack cX4_isOutsideTrack 1 (some .boolean), Cond.methodLink RX4 158 yX2_nth, Cond.instanceMethod yX2_nth, Cond.selects RX2 yX2_nth yX2_nth, Cond.initialized RX2, Cond.code yX2_nth cX2_nth 4 (some (.object "WagonSidings$Wagon")), Cond.fieldLink RX2 15 "WagonSidings$Track" "first" "LWagonSidings$Wagon;"]
def wsX4_loadAs_r2 : List Cond := [Cond.fieldLink RX2 19 "WagonSidings$Wagon" "behind" "LWagonSidings$Wagon;", Cond.methodLink RX4 161 yX4_tell, Cond.instanceMethod yX4_tell, Cond.selects RX4 yX4_tell yX4_tell, Cond.code yX4_tell cX4_tell 3 none, Cond.fieldLink RX4 149 "WagonSidings" "toldFailure" "I", Cond.fieldLink RX4 152 "WagonSidings" "toldCount" "I", Cond.fieldLink RX4 146 "WagonSidings" "toldSignal" "I", Cond.methodLink RX4 84 yX4_answerUnreached, Cond.instanceMethod yX4_answerUnreached, Cond.selects RX4 yX4_answerUnreached yX4_answerUnreached, Cond.code yX4_answerUnreached cX4_answerUnreached 4 (some .int), Cond.methodLink RX4 164 yX2_length, Cond.instanceMethod yX2_length, Cond.selects RX2 yX2_length yX2_length, Cond.code yX2_length cX2_length 3 (some .int), Cond.methodLink RX4 107 yX4_fail, Cond.instanceMethod yX4_fail, Cond.selects RX4 yX4_fail yX4_fail, Cond.code yX4_fail cX4_fail 3 (some .int), Cond.methodLink RX4 100 yX4_isOf, Cond.static yX4_isOf, Cond.code yX4_isOf cX4_isOf 2 (some .boolean)]
def wsX4_loadAs : List Cond := .code yX4_loadAs cX4_loadAs 5 (some .int) :: ((wsX4_loadAs_r1 ++ wsX4_loadAs_r2) ++ wsX30 ++ wsX40 ++ wsX20)
def wsX4_findRake : List Cond := .code yX4_findRake cX4_findRake 2 (some (.object "WagonSidings$Rake")) :: ([.fieldLink RX4 23 "WagonSidings" "rakes" "[LWagonSidings$Rake;"] ++ wsX40)
def wsX4_succeed : List Cond := .code yX4_succeed cX4_succeed 3 (some .int) :: ([.methodLink RX4 161 yX4_tell, .instanceMethod yX4_tell, .selects RX4 yX4_tell yX4_tell, .initialized RX4, .code yX4_tell cX4_tell 3 none, .fieldLink RX4 149 "WagonSidings" "toldFailure" "I", .fieldLink RX4 152 "WagonSidings" "toldCount" "I", .fieldLink RX4 146 "WagonSidings" "toldSignal" "I"] ++ wsX40)
def wsX4_rake_r1 : List Cond := [Cond.methodLink RX4 110 yX4_findRake, Cond.instanceMethod yX4_findRake, Cond.selects RX4 yX4_findRake yX4_findRake, Cond.initialized RX4, Cond.code yX4_findRake cX4_findRake 2 (some (.object "WagonSidings$Rake")), Cond.fieldLink RX4 23 "WagonSidings" "rakes" "[LWagonSidings$Rake;", Cond.methodLink RX4 36 yX4_isKind, Cond.static yX4_isKind, Cond.code yX4_isKind cX4_isKind 1 (some .boolean), Cond.methodLink RX4 107 yX4_fail, Cond.instanceMethod yX4_fail, Cond.selects RX4 yX4_fail yX4_fail, Cond.code yX4_fail cX4_fail 3 (some .int), Cond.methodLink RX4 161 yX4_tell, Cond.instanceMethod yX4_tell, Cond.selects RX4 yX4_tell yX4_tell, Cond.code yX4_tell cX4_tell 3 none, Cond.fieldLink RX4 149 "WagonSidings" "toldFailure" "I", Cond.fieldLink RX4 152 "WagonSidings" "toldCount" "I", Cond.fieldLink RX4 146 "WagonSidings" "toldSignal" "I", Cond.methodLink RX4 114 yX0_renew, Cond.instanceMethod yX0_renew, Cond.selects RX0 yX0_renew yX0_renew, Cond.initialized RX0]
def wsX4_rake_r2 : List Cond := [Cond.code yX0_renew cX0_renew 4 none, Cond.fieldLink RX0 17 "WagonSidings$Rake" "made" "Z", Cond.fieldLink RX0 21 "WagonSidings$Rake" "kind" "I", Cond.fieldLink RX0 25 "WagonSidings$Rake" "size" "I", Cond.fieldLink RX0 11 "WagonSidings$Rake" "row" "[LWagonSidings$Wagon;", Cond.methodLink RX4 118 yX4_succeed, Cond.instanceMethod yX4_succeed, Cond.selects RX4 yX4_succeed yX4_succeed, Cond.code yX4_succeed cX4_succeed 3 (some .int)]
def wsX4_rake : List Cond := .code yX4_rake cX4_rake 5 (some .int) :: ((wsX4_rake_r1 ++ wsX4_rake_r2) ++ wsX40 ++ wsX00)
def wsX4_drop : List Cond := .code yX4_drop cX4_drop 3 (some .int) :: ([.fieldLink RX4 121 "WagonSidings$Rake" "made" "Z", .methodLink RX4 110 yX4_findRake, .instanceMethod yX4_findRake, .selects RX4 yX4_findRake yX4_findRake, .initialized RX4, .code yX4_findRake cX4_findRake 2 (some (.object "WagonSidings$Rake")), .fieldLink RX4 23 "WagonSidings" "rakes" "[LWagonSidings$Rake;"] ++ wsX00 ++ wsX40)
def wsX4_lay_r1 : List Cond := [Cond.fieldLink RX4 121 "WagonSidings$Rake" "made" "Z", Cond.fieldLink RX4 70 "WagonSidings$Track" "first" "LWagonSidings$Wagon;", Cond.fieldLink RX4 97 "WagonSidings$Wagon" "kind" "I", Cond.fieldLink RX4 127 "WagonSidings$Rake" "kind" "I", Cond.fieldLink RX4 128 "WagonSidings$Rake" "row" "[LWagonSidings$Wagon;", Cond.fieldLink RX4 51 "WagonSidings$Wagon" "behind" "LWagonSidings$Wagon;", Cond.methodLink RX4 110 yX4_findRake, Cond.instanceMethod yX4_findRake, Cond.selects RX4 yX4_findRake yX4_findRake, Cond.initialized RX4, Cond.code yX4_findRake cX4_findRake 2 (some (.object "WagonSidings$Rake")), Cond.fieldLink RX4 23 "WagonSidings" "rakes" "[LWagonSidings$Rake;", Cond.methodLink RX4 66 yX4_findTrack, Cond.instanceMethod yX4_findTrack, Cond.selects RX4 yX4_findTrack yX4_findTrack, Cond.code yX4_findTrack cX4_findTrack 2 (some (.object "WagonSidings$Track")), Cond.fieldLink RX4 17 "WagonSidings" "tracks" "[LWagonSidings$Track;", Cond.methodLink RX4 107 yX4_fail, Cond.instanceMethod yX4_fail, Cond.selects RX4 yX4_fail yX4_fail, Cond.code yX4_fail cX4_fail 3 (some .int), Cond.methodLink RX4 161 yX4_tell, Cond.instanceMethod yX4_tell, Cond.selects RX4 yX4_tell yX4_tell]
def wsX4_lay_r2 : List Cond := [Cond.code yX4_tell cX4_tell 3 none, Cond.fieldLink RX4 149 "WagonSidings" "toldFailure" "I", Cond.fieldLink RX4 152 "WagonSidings" "toldCount" "I", Cond.fieldLink RX4 146 "WagonSidings" "toldSignal" "I", Cond.methodLink RX4 124 yX0_hasPlace, Cond.instanceMethod yX0_hasPlace, Cond.selects RX0 yX0_hasPlace yX0_hasPlace, Cond.initialized RX0, Cond.code yX0_hasPlace cX0_hasPlace 2 (some .boolean), Cond.fieldLink RX0 17 "WagonSidings$Rake" "made" "Z", Cond.fieldLink RX0 25 "WagonSidings$Rake" "size" "I", Cond.fieldLink RX0 11 "WagonSidings$Rake" "row" "[LWagonSidings$Wagon;", Cond.methodLink RX4 100 yX4_isOf, Cond.static yX4_isOf, Cond.code yX4_isOf cX4_isOf 2 (some .boolean), Cond.methodLink RX4 118 yX4_succeed, Cond.instanceMethod yX4_succeed, Cond.selects RX4 yX4_succeed yX4_succeed, Cond.code yX4_succeed cX4_succeed 3 (some .int)]
def wsX4_lay : List Cond := .code yX4_lay cX4_lay 7 (some .int) :: ((wsX4_lay_r1 ++ wsX4_lay_r2) ++ wsX00 ++ wsX20 ++ wsX30 ++ wsX40)
def wsX4_places : List Cond := .code yX4_places cX4_places 3 (some .int) :: ([.fieldLink RX4 121 "WagonSidings$Rake" "made" "Z", .fieldLink RX4 131 "WagonSidings$Rake" "size" "I", .methodLink RX4 110 yX4_findRake, .instanceMethod yX4_findRake, .selects RX4 yX4_findRake yX4_findRake, .initialized RX4, .code yX4_findRake cX4_findRake 2 (some (.object "WagonSidings$Rake")), .fieldLink RX4 23 "WagonSidings" "rakes" "[LWagonSidings$Rake;", .methodLink RX4 118 yX4_succeed, .instanceMethod yX4_succeed, .selects RX4 yX4_succeed yX4_succeed, .code yX4_succeed cX4_succeed 3 (some .int), .methodLink RX4 161 yX4_tell, .instanceMethod yX4_tell, .selects RX4 yX4_tell yX4_tell, .code yX4_tell cX4_tell 3 none, .fieldLink RX4 149 "WagonSidings" "toldFailure" "I", .fieldLink RX4 152 "WagonSidings" "toldCount" "I", .fieldLink RX4 146 "WagonSidings" "toldSignal" "I", .methodLink RX4 107 yX4_fail, .instanceMethod yX4_fail, .selects RX4 yX4_fail yX4_fail, .code yX4_fail cX4_fail 3 (some .int)] ++ wsX00 ++ wsX40)
def wsX4_loadOn_r1 : List Cond := [Cond.fieldLink RX4 121 "WagonSidings$Rake" "made" "Z", Cond.fieldLink RX4 128 "WagonSidings$Rake" "row" "[LWagonSidings$Wagon;", Cond.fieldLink RX4 91 "WagonSidings$Wagon" "cargo" "I", Cond.methodLink RX4 110 yX4_findRake, Cond.instanceMethod yX4_findRake, Cond.selects RX4 yX4_findRake yX4_findRake, Cond.initialized RX4, Cond.code yX4_findRake cX4_findRake 2 (some (.object "WagonSidings$Rake")), Cond.fieldLink RX4 23 "WagonSidings" "rakes" "[LWagonSidings$Rake;", Cond.methodLink RX4 107 yX4_fail, Cond.instanceMethod yX4_fail, Cond.selects RX4 yX4_fail yX4_fail, Cond.code yX4_fail cX4_fail 3 (some .int), Cond.methodLink RX4 161 yX4_tell, Cond.instanceMethod yX4_tell, Cond.selects RX4 yX4_tell yX4_tell, Cond.code yX4_tell cX4_tell 3 none, Cond.fieldLink RX4 149 "WagonSidings" "toldFailure" "I", Cond.fieldLink RX4 152 "WagonSidings" "toldCount" "I", Cond.fieldLink RX4 146 "WagonSidings" "toldSignal" "I", Cond.methodLink RX4 124 yX0_hasPlace, Cond.instanceMethod yX0_hasPlace, Cond.selects RX0 yX0_hasPlace yX0_hasPlace, Cond.initialized RX0]
def wsX4_loadOn_r2 : List Cond := [Cond.code yX0_hasPlace cX0_hasPlace 2 (some .boolean), Cond.fieldLink RX0 17 "WagonSidings$Rake" "made" "Z", Cond.fieldLink RX0 25 "WagonSidings$Rake" "size" "I", Cond.fieldLink RX0 11 "WagonSidings$Rake" "row" "[LWagonSidings$Wagon;", Cond.methodLink RX4 118 yX4_succeed, Cond.instanceMethod yX4_succeed, Cond.selects RX4 yX4_succeed yX4_succeed, Cond.code yX4_succeed cX4_succeed 3 (some .int)]
def wsX4_loadOn : List Cond := .code yX4_loadOn cX4_loadOn 5 (some .int) :: ((wsX4_loadOn_r1 ++ wsX4_loadOn_r2) ++ wsX00 ++ wsX30 ++ wsX40)
def wsX4_findTable : List Cond := .code yX4_findTable cX4_findTable 2 (some (.object "WagonSidings$Table")) :: ([.fieldLink RX4 29 "WagonSidings" "tables" "[LWagonSidings$Table;"] ++ wsX40)
def wsX4_table_r1 : List Cond := [Cond.methodLink RX4 134 yX4_findTable, Cond.instanceMethod yX4_findTable, Cond.selects RX4 yX4_findTable yX4_findTable, Cond.initialized RX4, Cond.code yX4_findTable cX4_findTable 2 (some (.object "WagonSidings$Table")), Cond.fieldLink RX4 29 "WagonSidings" "tables" "[LWagonSidings$Table;", Cond.methodLink RX4 107 yX4_fail, Cond.instanceMethod yX4_fail, Cond.selects RX4 yX4_fail yX4_fail, Cond.code yX4_fail cX4_fail 3 (some .int), Cond.methodLink RX4 161 yX4_tell, Cond.instanceMethod yX4_tell, Cond.selects RX4 yX4_tell yX4_tell, Cond.code yX4_tell cX4_tell 3 none, Cond.fieldLink RX4 149 "WagonSidings" "toldFailure" "I", Cond.fieldLink RX4 152 "WagonSidings" "toldCount" "I", Cond.fieldLink RX4 146 "WagonSidings" "toldSignal" "I", Cond.methodLink RX4 138 yX1_renew, Cond.instanceMethod yX1_renew, Cond.selects RX1 yX1_renew yX1_renew, Cond.initialized RX1, Cond.code yX1_renew cX1_renew 4 none, Cond.fieldLink RX1 15 "WagonSidings$Table" "made" "Z", Cond.fieldLink RX1 19 "WagonSidings$Table" "rows" "I"]
def wsX4_table_r2 : List Cond := [Cond.fieldLink RX1 23 "WagonSidings$Table" "columns" "I", Cond.fieldLink RX1 9 "WagonSidings$Table" "cells" "[I", Cond.methodLink RX4 118 yX4_succeed, Cond.instanceMethod yX4_succeed, Cond.selects RX4 yX4_succeed yX4_succeed, Cond.code yX4_succeed cX4_succeed 3 (some .int)]
def wsX4_table : List Cond := .code yX4_table cX4_table 5 (some .int) :: ((wsX4_table_r1 ++ wsX4_table_r2) ++ wsX40 ++ wsX10)
def wsX4_add_r1 : List Cond := [Cond.fieldLink RX4 139 "WagonSidings$Table" "made" "Z", Cond.fieldLink RX4 142 "WagonSidings$Table" "cells" "[I", Cond.methodLink RX4 134 yX4_findTable, Cond.instanceMethod yX4_findTable, Cond.selects RX4 yX4_findTable yX4_findTable, Cond.initialized RX4, Cond.code yX4_findTable cX4_findTable 2 (some (.object "WagonSidings$Table")), Cond.fieldLink RX4 29 "WagonSidings" "tables" "[LWagonSidings$Table;", Cond.methodLink RX4 107 yX4_fail, Cond.instanceMethod yX4_fail, Cond.selects RX4 yX4_fail yX4_fail, Cond.code yX4_fail cX4_fail 3 (some .int), Cond.methodLink RX4 161 yX4_tell, Cond.instanceMethod yX4_tell, Cond.selects RX4 yX4_tell yX4_tell, Cond.code yX4_tell cX4_tell 3 none, Cond.fieldLink RX4 149 "WagonSidings" "toldFailure" "I", Cond.fieldLink RX4 152 "WagonSidings" "toldCount" "I", Cond.fieldLink RX4 146 "WagonSidings" "toldSignal" "I", Cond.methodLink RX4 140 yX1_hasPlace, Cond.instanceMethod yX1_hasPlace, Cond.selects RX1 yX1_hasPlace yX1_hasPlace, Cond.initialized RX1, Cond.code yX1_hasPlace cX1_hasPlace 3 (some .boolean)]
def wsX4_add_r2 : List Cond := [Cond.fieldLink RX1 19 "WagonSidings$Table" "rows" "I", Cond.fieldLink RX1 23 "WagonSidings$Table" "columns" "I", Cond.methodLink RX4 118 yX4_succeed, Cond.instanceMethod yX4_succeed, Cond.selects RX4 yX4_succeed yX4_succeed, Cond.code yX4_succeed cX4_succeed 3 (some .int)]
def wsX4_add : List Cond := .code yX4_add cX4_add 7 (some .int) :: ((wsX4_add_r1 ++ wsX4_add_r2) ++ wsX10 ++ wsX40)
def wsX4_raise : List Cond := .code yX4_raise cX4_raise 4 (some .int) :: ([.fieldLink RX4 77 "WagonSidings$Track" "hung" "I", .fieldLink RX4 146 "WagonSidings" "toldSignal" "I", .methodLink RX4 66 yX4_findTrack, .instanceMethod yX4_findTrack, .selects RX4 yX4_findTrack yX4_findTrack, .initialized RX4, .code yX4_findTrack cX4_findTrack 2 (some (.object "WagonSidings$Track")), .fieldLink RX4 17 "WagonSidings" "tracks" "[LWagonSidings$Track;", .methodLink RX4 107 yX4_fail, .instanceMethod yX4_fail, .selects RX4 yX4_fail yX4_fail, .code yX4_fail cX4_fail 3 (some .int), .methodLink RX4 161 yX4_tell, .instanceMethod yX4_tell, .selects RX4 yX4_tell yX4_tell, .code yX4_tell cX4_tell 3 none, .fieldLink RX4 149 "WagonSidings" "toldFailure" "I", .fieldLink RX4 152 "WagonSidings" "toldCount" "I"] ++ wsX20 ++ wsX40)
def wsX4_told : List Cond := .code yX4_told cX4_told 2 (some .int) :: ([.fieldLink RX4 149 "WagonSidings" "toldFailure" "I", .fieldLink RX4 152 "WagonSidings" "toldCount" "I", .fieldLink RX4 146 "WagonSidings" "toldSignal" "I"] ++ wsX40)
def wsX4_about : List Cond := .code yX4_about cX4_about 4 (some .int) :: ([.fieldLink RX4 97 "WagonSidings$Wagon" "kind" "I", .fieldLink RX4 91 "WagonSidings$Wagon" "cargo" "I", .fieldLink RX4 51 "WagonSidings$Wagon" "behind" "LWagonSidings$Wagon;", .fieldLink RX4 59 "WagonSidings$Wagon" "firstOn" "I", .methodLink RX4 47 yX4_findWagon, .instanceMethod yX4_findWagon, .selects RX4 yX4_findWagon yX4_findWagon, .initialized RX4, .code yX4_findWagon cX4_findWagon 2 (some (.object "WagonSidings$Wagon")), .fieldLink RX4 11 "WagonSidings" "wagons" "[LWagonSidings$Wagon;", .methodLink RX4 73 yX4_numberOf, .static yX4_numberOf, .code yX4_numberOf cX4_numberOf 1 (some .int), .fieldLink RX4 88 "WagonSidings$Wagon" "number" "I"] ++ wsX30 ++ wsX40)
def wsX4_onRake : List Cond := .code yX4_onRake cX4_onRake 4 (some .int) :: ([.fieldLink RX4 128 "WagonSidings$Rake" "row" "[LWagonSidings$Wagon;", .methodLink RX4 110 yX4_findRake, .instanceMethod yX4_findRake, .selects RX4 yX4_findRake yX4_findRake, .initialized RX4, .code yX4_findRake cX4_findRake 2 (some (.object "WagonSidings$Rake")), .fieldLink RX4 23 "WagonSidings" "rakes" "[LWagonSidings$Rake;", .methodLink RX4 124 yX0_hasPlace, .instanceMethod yX0_hasPlace, .selects RX0 yX0_hasPlace yX0_hasPlace, .initialized RX0, .code yX0_hasPlace cX0_hasPlace 2 (some .boolean), .fieldLink RX0 17 "WagonSidings$Rake" "made" "Z", .fieldLink RX0 25 "WagonSidings$Rake" "size" "I", .fieldLink RX0 11 "WagonSidings$Rake" "row" "[LWagonSidings$Wagon;", .methodLink RX4 73 yX4_numberOf, .static yX4_numberOf, .code yX4_numberOf cX4_numberOf 1 (some .int), .fieldLink RX4 88 "WagonSidings$Wagon" "number" "I"] ++ wsX00 ++ wsX40 ++ wsX30)
def wsX5_init : List Cond := .code yX5_init cX5_init 2 none :: ([.methodLink RX5 1 objectInit, .instanceMethod objectInit, .code objectInit ⟨#[0xb1]⟩ 1 none, .arrayClass .int, .fieldLink RX5 7 "WagonSidingsModel" "kind" "[I", .fieldLink RX5 13 "WagonSidingsModel" "load" "[I", .fieldLink RX5 16 "WagonSidingsModel" "behind" "[I", .fieldLink RX5 19 "WagonSidingsModel" "first" "[I", .fieldLink RX5 22 "WagonSidingsModel" "signal" "[I", .fieldLink RX5 25 "WagonSidingsModel" "rakeLong" "[I", .fieldLink RX5 28 "WagonSidingsModel" "rakeKind" "[I", .fieldLink RX5 31 "WagonSidingsModel" "rake" "[I", .fieldLink RX5 34 "WagonSidingsModel" "tableLong" "[I", .fieldLink RX5 37 "WagonSidingsModel" "tableWide" "[I", .fieldLink RX5 40 "WagonSidingsModel" "table" "[I"] ++ wsX50)
def wsX5_in : List Cond := .code yX5_in cX5_in 3 (some .boolean) :: ([])
def wsX5_isWagon : List Cond := .code yX5_isWagon cX5_isWagon 2 (some .boolean) :: ([.fieldLink RX5 43 "WagonSidingsModel" "wagons" "I", .methodLink RX5 47 yX5_in, .static yX5_in, .initialized RX5, .code yX5_in cX5_in 3 (some .boolean)] ++ wsX50)
def wsX5_isTrack : List Cond := .code yX5_isTrack cX5_isTrack 1 (some .boolean) :: ([.methodLink RX5 47 yX5_in, .static yX5_in, .initialized RX5, .code yX5_in cX5_in 3 (some .boolean)])
def wsX5_isRake : List Cond := .code yX5_isRake cX5_isRake 1 (some .boolean) :: ([.methodLink RX5 47 yX5_in, .static yX5_in, .initialized RX5, .code yX5_in cX5_in 3 (some .boolean)])
def wsX5_isKind : List Cond := .code yX5_isKind cX5_isKind 1 (some .boolean) :: ([.methodLink RX5 47 yX5_in, .static yX5_in, .initialized RX5, .code yX5_in cX5_in 3 (some .boolean)])
def wsX5_isOf : List Cond := .code yX5_isOf cX5_isOf 2 (some .boolean) :: ([])
def wsX5_wagon : List Cond := .code yX5_wagon cX5_wagon 3 (some .int) :: ([.fieldLink RX5 43 "WagonSidingsModel" "wagons" "I", .fieldLink RX5 7 "WagonSidingsModel" "kind" "[I", .fieldLink RX5 13 "WagonSidingsModel" "load" "[I", .fieldLink RX5 16 "WagonSidingsModel" "behind" "[I", .methodLink RX5 51 yX5_isKind, .static yX5_isKind, .initialized RX5, .code yX5_isKind cX5_isKind 1 (some .boolean), .methodLink RX5 47 yX5_in, .static yX5_in, .code yX5_in cX5_in 3 (some .boolean)] ++ wsX50)
def wsX5_hasAhead : List Cond := .code yX5_hasAhead cX5_hasAhead 4 (some .boolean) :: ([.fieldLink RX5 43 "WagonSidingsModel" "wagons" "I", .fieldLink RX5 16 "WagonSidingsModel" "behind" "[I"] ++ wsX50)
def wsX5_trackOf : List Cond := .code yX5_trackOf cX5_trackOf 4 (some .int) :: ([.fieldLink RX5 19 "WagonSidingsModel" "first" "[I"] ++ wsX50)
def wsX5_couple : List Cond := .code yX5_couple cX5_couple 4 (some .int) :: ([.fieldLink RX5 16 "WagonSidingsModel" "behind" "[I", .methodLink RX5 55 yX5_isWagon, .instanceMethod yX5_isWagon, .selects RX5 yX5_isWagon yX5_isWagon, .initialized RX5, .code yX5_isWagon cX5_isWagon 2 (some .boolean), .fieldLink RX5 43 "WagonSidingsModel" "wagons" "I", .methodLink RX5 47 yX5_in, .static yX5_in, .code yX5_in cX5_in 3 (some .boolean), .methodLink RX5 58 yX5_hasAhead, .instanceMethod yX5_hasAhead, .selects RX5 yX5_hasAhead yX5_hasAhead, .code yX5_hasAhead cX5_hasAhead 4 (some .boolean), .methodLink RX5 61 yX5_trackOf, .instanceMethod yX5_trackOf, .selects RX5 yX5_trackOf yX5_trackOf, .code yX5_trackOf cX5_trackOf 4 (some .int), .fieldLink RX5 19 "WagonSidingsModel" "first" "[I"] ++ wsX50)
def wsX5_stand : List Cond := .code yX5_stand cX5_stand 4 (some .int) :: ([.fieldLink RX5 19 "WagonSidingsModel" "first" "[I", .methodLink RX5 65 yX5_isTrack, .static yX5_isTrack, .initialized RX5, .code yX5_isTrack cX5_isTrack 1 (some .boolean), .methodLink RX5 47 yX5_in, .static yX5_in, .code yX5_in cX5_in 3 (some .boolean), .methodLink RX5 55 yX5_isWagon, .instanceMethod yX5_isWagon, .selects RX5 yX5_isWagon yX5_isWagon, .code yX5_isWagon cX5_isWagon 2 (some .boolean), .fieldLink RX5 43 "WagonSidingsModel" "wagons" "I", .methodLink RX5 58 yX5_hasAhead, .instanceMethod yX5_hasAhead, .selects RX5 yX5_hasAhead yX5_hasAhead, .code yX5_hasAhead cX5_hasAhead 4 (some .boolean), .fieldLink RX5 16 "WagonSidingsModel" "behind" "[I", .methodLink RX5 61 yX5_trackOf, .instanceMethod yX5_trackOf, .selects RX5 yX5_trackOf yX5_trackOf, .code yX5_trackOf cX5_trackOf 4 (some .int)] ++ wsX50)
def wsX5_signal : List Cond := .code yX5_signal cX5_signal 4 (some .int) :: ([.fieldLink RX5 22 "WagonSidingsModel" "signal" "[I", .methodLink RX5 65 yX5_isTrack, .static yX5_isTrack, .initialized RX5, .code yX5_isTrack cX5_isTrack 1 (some .boolean), .methodLink RX5 47 yX5_in, .static yX5_in, .code yX5_in cX5_in 3 (some .boolean)] ++ wsX50)
def wsX5_ends : List Cond := .code yX5_ends cX5_ends 3 (some .int) :: ([.fieldLink RX5 68 "WagonSidingsModel" "failure" "I", .fieldLink RX5 71 "WagonSidingsModel" "gone" "I", .fieldLink RX5 74 "WagonSidingsModel" "raised" "I"] ++ wsX50)
def wsX5_well : List Cond := .code yX5_well cX5_well 3 (some .int) :: ([.methodLink RX5 77 yX5_ends, .instanceMethod yX5_ends, .selects RX5 yX5_ends yX5_ends, .initialized RX5, .code yX5_ends cX5_ends 3 (some .int), .fieldLink RX5 68 "WagonSidingsModel" "failure" "I", .fieldLink RX5 71 "WagonSidingsModel" "gone" "I", .fieldLink RX5 74 "WagonSidingsModel" "raised" "I"] ++ wsX50)
def wsX5_refused : List Cond := .code yX5_refused cX5_refused 2 (some .int) :: ([.methodLink RX5 65 yX5_isTrack, .static yX5_isTrack, .initialized RX5, .code yX5_isTrack cX5_isTrack 1 (some .boolean), .methodLink RX5 47 yX5_in, .static yX5_in, .code yX5_in cX5_in 3 (some .boolean)])
def wsX5_nth : List Cond := .code yX5_nth cX5_nth 5 (some .int) :: ([.fieldLink RX5 19 "WagonSidingsModel" "first" "[I", .fieldLink RX5 16 "WagonSidingsModel" "behind" "[I", .methodLink RX5 77 yX5_ends, .instanceMethod yX5_ends, .selects RX5 yX5_ends yX5_ends, .initialized RX5, .code yX5_ends cX5_ends 3 (some .int), .fieldLink RX5 68 "WagonSidingsModel" "failure" "I", .fieldLink RX5 71 "WagonSidingsModel" "gone" "I", .fieldLink RX5 74 "WagonSidingsModel" "raised" "I"] ++ wsX50)
def wsX5_wagonAt_r1 : List Cond := [Cond.methodLink RX5 81 yX5_refused, Cond.static yX5_refused, Cond.initialized RX5, Cond.code yX5_refused cX5_refused 2 (some .int), Cond.methodLink RX5 65 yX5_isTrack, Cond.static yX5_isTrack, Cond.code yX5_isTrack cX5_isTrack 1 (some .boolean), Cond.methodLink RX5 47 yX5_in, Cond.static yX5_in, Cond.code yX5_in cX5_in 3 (some .boolean), Cond.methodLink RX5 84 yX5_nth, Cond.instanceMethod yX5_nth, Cond.selects RX5 yX5_nth yX5_nth, Cond.code yX5_nth cX5_nth 5 (some .int), Cond.fieldLink RX5 19 "WagonSidingsModel" "first" "[I", Cond.fieldLink RX5 16 "WagonSidingsModel" "behind" "[I", Cond.methodLink RX5 77 yX5_ends, Cond.instanceMethod yX5_ends, Cond.selects RX5 yX5_ends yX5_ends, Cond.code yX5_ends cX5_ends 3 (some .int), Cond.fieldLink RX5 68 "WagonSidingsModel" "failure" "I", Cond.fieldLink RX5 71 "WagonSidingsModel" "gone" "I", Cond.fieldLink RX5 74 "WagonSidingsModel" "raised" "I", Cond.methodLink RX5 87 yX5_well]
def wsX5_wagonAt_r2 : List Cond := [Cond.instanceMethod yX5_well, Cond.selects RX5 yX5_well yX5_well, Cond.code yX5_well cX5_well 3 (some .int)]
def wsX5_wagonAt : List Cond := .code yX5_wagonAt cX5_wagonAt 5 (some .int) :: ((wsX5_wagonAt_r1 ++ wsX5_wagonAt_r2) ++ wsX50)
def wsX5_load_r1 : List Cond := [Cond.fieldLink RX5 13 "WagonSidingsModel" "load" "[I", Cond.methodLink RX5 81 yX5_refused, Cond.static yX5_refused, Cond.initialized RX5, Cond.code yX5_refused cX5_refused 2 (some .int), Cond.methodLink RX5 65 yX5_isTrack, Cond.static yX5_isTrack, Cond.code yX5_isTrack cX5_isTrack 1 (some .boolean), Cond.methodLink RX5 47 yX5_in, Cond.static yX5_in, Cond.code yX5_in cX5_in 3 (some .boolean), Cond.methodLink RX5 84 yX5_nth, Cond.instanceMethod yX5_nth, Cond.selects RX5 yX5_nth yX5_nth, Cond.code yX5_nth cX5_nth 5 (some .int), Cond.fieldLink RX5 19 "WagonSidingsModel" "first" "[I", Cond.fieldLink RX5 16 "WagonSidingsModel" "behind" "[I", Cond.methodLink RX5 77 yX5_ends, Cond.instanceMethod yX5_ends, Cond.selects RX5 yX5_ends yX5_ends, Cond.code yX5_ends cX5_ends 3 (some .int), Cond.fieldLink RX5 68 "WagonSidingsModel" "failure" "I", Cond.fieldLink RX5 71 "WagonSidingsModel" "gone" "I", Cond.fieldLink RX5 74 "WagonSidingsModel" "raised" "I"]
def wsX5_load_r2 : List Cond := [Cond.methodLink RX5 87 yX5_well, Cond.instanceMethod yX5_well, Cond.selects RX5 yX5_well yX5_well, Cond.code yX5_well cX5_well 3 (some .int)]
def wsX5_load : List Cond := .code yX5_load cX5_load 6 (some .int) :: ((wsX5_load_r1 ++ wsX5_load_r2) ++ wsX50)
def wsX5_cut_r1 : List Cond := [Cond.fieldLink RX5 16 "WagonSidingsModel" "behind" "[I", Cond.methodLink RX5 81 yX5_refused, Cond.static yX5_refused, Cond.initialized RX5, Cond.code yX5_refused cX5_refused 2 (some .int), Cond.methodLink RX5 65 yX5_isTrack, Cond.static yX5_isTrack, Cond.code yX5_isTrack cX5_isTrack 1 (some .boolean), Cond.methodLink RX5 47 yX5_in, Cond.static yX5_in, Cond.code yX5_in cX5_in 3 (some .boolean), Cond.methodLink RX5 84 yX5_nth, Cond.instanceMethod yX5_nth, Cond.selects RX5 yX5_nth yX5_nth, Cond.code yX5_nth cX5_nth 5 (some .int), Cond.fieldLink RX5 19 "WagonSidingsModel" "first" "[I", Cond.methodLink RX5 77 yX5_ends, Cond.instanceMethod yX5_ends, Cond.selects RX5 yX5_ends yX5_ends, Cond.code yX5_ends cX5_ends 3 (some .int), Cond.fieldLink RX5 68 "WagonSidingsModel" "failure" "I", Cond.fieldLink RX5 71 "WagonSidingsModel" "gone" "I", Cond.fieldLink RX5 74 "WagonSidingsModel" "raised" "I", Cond.methodLink RX5 87 yX5_well]
def wsX5_cut_r2 : List Cond := [Cond.instanceMethod yX5_well, Cond.selects RX5 yX5_well yX5_well, Cond.code yX5_well cX5_well 3 (some .int)]
def wsX5_cut : List Cond := .code yX5_cut cX5_cut 5 (some .int) :: ((wsX5_cut_r1 ++ wsX5_cut_r2) ++ wsX50)
def wsX5_hoot_r1 : List Cond := [Cond.fieldLink RX5 7 "WagonSidingsModel" "kind" "[I", Cond.fieldLink RX5 13 "WagonSidingsModel" "load" "[I", Cond.methodLink RX5 81 yX5_refused, Cond.static yX5_refused, Cond.initialized RX5, Cond.code yX5_refused cX5_refused 2 (some .int), Cond.methodLink RX5 65 yX5_isTrack, Cond.static yX5_isTrack, Cond.code yX5_isTrack cX5_isTrack 1 (some .boolean), Cond.methodLink RX5 47 yX5_in, Cond.static yX5_in, Cond.code yX5_in cX5_in 3 (some .boolean), Cond.methodLink RX5 84 yX5_nth, Cond.instanceMethod yX5_nth, Cond.selects RX5 yX5_nth yX5_nth, Cond.code yX5_nth cX5_nth 5 (some .int), Cond.fieldLink RX5 19 "WagonSidingsModel" "first" "[I", Cond.fieldLink RX5 16 "WagonSidingsModel" "behind" "[I", Cond.methodLink RX5 77 yX5_ends, Cond.instanceMethod yX5_ends, Cond.selects RX5 yX5_ends yX5_ends, Cond.code yX5_ends cX5_ends 3 (some .int), Cond.fieldLink RX5 68 "WagonSidingsModel" "failure" "I", Cond.fieldLink RX5 71 "WagonSidingsModel" "gone" "I"]
def wsX5_hoot_r2 : List Cond := [Cond.fieldLink RX5 74 "WagonSidingsModel" "raised" "I", Cond.methodLink RX5 87 yX5_well, Cond.instanceMethod yX5_well, Cond.selects RX5 yX5_well yX5_well, Cond.code yX5_well cX5_well 3 (some .int)]
def wsX5_hoot : List Cond := .code yX5_hoot cX5_hoot 7 (some .int) :: ((wsX5_hoot_r1 ++ wsX5_hoot_r2) ++ wsX50)
def wsX5_pull_r1 : List Cond := [Cond.fieldLink RX5 7 "WagonSidingsModel" "kind" "[I", Cond.fieldLink RX5 13 "WagonSidingsModel" "load" "[I", Cond.fieldLink RX5 16 "WagonSidingsModel" "behind" "[I", Cond.methodLink RX5 81 yX5_refused, Cond.static yX5_refused, Cond.initialized RX5, Cond.code yX5_refused cX5_refused 2 (some .int), Cond.methodLink RX5 65 yX5_isTrack, Cond.static yX5_isTrack, Cond.code yX5_isTrack cX5_isTrack 1 (some .boolean), Cond.methodLink RX5 47 yX5_in, Cond.static yX5_in, Cond.code yX5_in cX5_in 3 (some .boolean), Cond.methodLink RX5 84 yX5_nth, Cond.instanceMethod yX5_nth, Cond.selects RX5 yX5_nth yX5_nth, Cond.code yX5_nth cX5_nth 5 (some .int), Cond.fieldLink RX5 19 "WagonSidingsModel" "first" "[I", Cond.methodLink RX5 77 yX5_ends, Cond.instanceMethod yX5_ends, Cond.selects RX5 yX5_ends yX5_ends, Cond.code yX5_ends cX5_ends 3 (some .int), Cond.fieldLink RX5 68 "WagonSidingsModel" "failure" "I", Cond.fieldLink RX5 71 "WagonSidingsModel" "gone" "I"]
def wsX5_pull_r2 : List Cond := [Cond.fieldLink RX5 74 "WagonSidingsModel" "raised" "I", Cond.methodLink RX5 87 yX5_well, Cond.instanceMethod yX5_well, Cond.selects RX5 yX5_well yX5_well, Cond.code yX5_well cX5_well 3 (some .int)]
def wsX5_pull : List Cond := .code yX5_pull cX5_pull 7 (some .int) :: ((wsX5_pull_r1 ++ wsX5_pull_r2) ++ wsX50)
def wsX5_loadAs_r1 : List Cond := [Cond.fieldLink RX5 7 "WagonSidingsModel" "kind" "[I", Cond.fieldLink RX5 13 "WagonSidingsModel" "load" "[I", Cond.methodLink RX5 81 yX5_refused, Cond.static yX5_refused, Cond.initialized RX5, Cond.code yX5_refused cX5_refused 2 (some .int), Cond.methodLink RX5 65 yX5_isTrack, Cond.static yX5_isTrack, Cond.code yX5_isTrack cX5_isTrack 1 (some .boolean), Cond.methodLink RX5 47 yX5_in, Cond.static yX5_in, Cond.code yX5_in cX5_in 3 (some .boolean), Cond.methodLink RX5 51 yX5_isKind, Cond.static yX5_isKind, Cond.code yX5_isKind cX5_isKind 1 (some .boolean), Cond.methodLink RX5 84 yX5_nth, Cond.instanceMethod yX5_nth, Cond.selects RX5 yX5_nth yX5_nth, Cond.code yX5_nth cX5_nth 5 (some .int), Cond.fieldLink RX5 19 "WagonSidingsModel" "first" "[I", Cond.fieldLink RX5 16 "WagonSidingsModel" "behind" "[I", Cond.methodLink RX5 77 yX5_ends, Cond.instanceMethod yX5_ends, Cond.selects RX5 yX5_ends yX5_ends]
def wsX5_loadAs_r2 : List Cond := [Cond.code yX5_ends cX5_ends 3 (some .int), Cond.fieldLink RX5 68 "WagonSidingsModel" "failure" "I", Cond.fieldLink RX5 71 "WagonSidingsModel" "gone" "I", Cond.fieldLink RX5 74 "WagonSidingsModel" "raised" "I", Cond.methodLink RX5 90 yX5_isOf, Cond.static yX5_isOf, Cond.code yX5_isOf cX5_isOf 2 (some .boolean), Cond.methodLink RX5 87 yX5_well, Cond.instanceMethod yX5_well, Cond.selects RX5 yX5_well yX5_well, Cond.code yX5_well cX5_well 3 (some .int)]
def wsX5_loadAs : List Cond := .code yX5_loadAs cX5_loadAs 6 (some .int) :: ((wsX5_loadAs_r1 ++ wsX5_loadAs_r2) ++ wsX50)
def wsX5_rake : List Cond := .code yX5_rake cX5_rake 5 (some .int) :: ([.fieldLink RX5 25 "WagonSidingsModel" "rakeLong" "[I", .fieldLink RX5 28 "WagonSidingsModel" "rakeKind" "[I", .fieldLink RX5 31 "WagonSidingsModel" "rake" "[I", .methodLink RX5 94 yX5_isRake, .static yX5_isRake, .initialized RX5, .code yX5_isRake cX5_isRake 1 (some .boolean), .methodLink RX5 47 yX5_in, .static yX5_in, .code yX5_in cX5_in 3 (some .boolean), .methodLink RX5 51 yX5_isKind, .static yX5_isKind, .code yX5_isKind cX5_isKind 1 (some .boolean), .methodLink RX5 77 yX5_ends, .instanceMethod yX5_ends, .selects RX5 yX5_ends yX5_ends, .code yX5_ends cX5_ends 3 (some .int), .fieldLink RX5 68 "WagonSidingsModel" "failure" "I", .fieldLink RX5 71 "WagonSidingsModel" "gone" "I", .fieldLink RX5 74 "WagonSidingsModel" "raised" "I", .methodLink RX5 87 yX5_well, .instanceMethod yX5_well, .selects RX5 yX5_well yX5_well, .code yX5_well cX5_well 3 (some .int)] ++ wsX50)
def wsX5_drop : List Cond := .code yX5_drop cX5_drop 2 (some .int) :: ([.fieldLink RX5 25 "WagonSidingsModel" "rakeLong" "[I", .methodLink RX5 94 yX5_isRake, .static yX5_isRake, .initialized RX5, .code yX5_isRake cX5_isRake 1 (some .boolean), .methodLink RX5 47 yX5_in, .static yX5_in, .code yX5_in cX5_in 3 (some .boolean)] ++ wsX50)
def wsX5_lay_r1 : List Cond := [Cond.fieldLink RX5 19 "WagonSidingsModel" "first" "[I", Cond.fieldLink RX5 25 "WagonSidingsModel" "rakeLong" "[I", Cond.fieldLink RX5 7 "WagonSidingsModel" "kind" "[I", Cond.fieldLink RX5 28 "WagonSidingsModel" "rakeKind" "[I", Cond.fieldLink RX5 31 "WagonSidingsModel" "rake" "[I", Cond.fieldLink RX5 16 "WagonSidingsModel" "behind" "[I", Cond.methodLink RX5 94 yX5_isRake, Cond.static yX5_isRake, Cond.initialized RX5, Cond.code yX5_isRake cX5_isRake 1 (some .boolean), Cond.methodLink RX5 47 yX5_in, Cond.static yX5_in, Cond.code yX5_in cX5_in 3 (some .boolean), Cond.methodLink RX5 65 yX5_isTrack, Cond.static yX5_isTrack, Cond.code yX5_isTrack cX5_isTrack 1 (some .boolean), Cond.methodLink RX5 77 yX5_ends, Cond.instanceMethod yX5_ends, Cond.selects RX5 yX5_ends yX5_ends, Cond.code yX5_ends cX5_ends 3 (some .int), Cond.fieldLink RX5 68 "WagonSidingsModel" "failure" "I", Cond.fieldLink RX5 71 "WagonSidingsModel" "gone" "I", Cond.fieldLink RX5 74 "WagonSidingsModel" "raised" "I", Cond.methodLink RX5 90 yX5_isOf]
def wsX5_lay_r2 : List Cond := [Cond.static yX5_isOf, Cond.code yX5_isOf cX5_isOf 2 (some .boolean), Cond.methodLink RX5 87 yX5_well, Cond.instanceMethod yX5_well, Cond.selects RX5 yX5_well yX5_well, Cond.code yX5_well cX5_well 3 (some .int)]
def wsX5_lay : List Cond := .code yX5_lay cX5_lay 5 (some .int) :: ((wsX5_lay_r1 ++ wsX5_lay_r2) ++ wsX50)
def wsX5_places : List Cond := .code yX5_places cX5_places 2 (some .int) :: ([.fieldLink RX5 25 "WagonSidingsModel" "rakeLong" "[I", .methodLink RX5 94 yX5_isRake, .static yX5_isRake, .initialized RX5, .code yX5_isRake cX5_isRake 1 (some .boolean), .methodLink RX5 47 yX5_in, .static yX5_in, .code yX5_in cX5_in 3 (some .boolean), .methodLink RX5 77 yX5_ends, .instanceMethod yX5_ends, .selects RX5 yX5_ends yX5_ends, .code yX5_ends cX5_ends 3 (some .int), .fieldLink RX5 68 "WagonSidingsModel" "failure" "I", .fieldLink RX5 71 "WagonSidingsModel" "gone" "I", .fieldLink RX5 74 "WagonSidingsModel" "raised" "I", .methodLink RX5 87 yX5_well, .instanceMethod yX5_well, .selects RX5 yX5_well yX5_well, .code yX5_well cX5_well 3 (some .int)] ++ wsX50)
def wsX5_loadOn : List Cond := .code yX5_loadOn cX5_loadOn 4 (some .int) :: ([.fieldLink RX5 25 "WagonSidingsModel" "rakeLong" "[I", .fieldLink RX5 31 "WagonSidingsModel" "rake" "[I", .fieldLink RX5 13 "WagonSidingsModel" "load" "[I", .methodLink RX5 94 yX5_isRake, .static yX5_isRake, .initialized RX5, .code yX5_isRake cX5_isRake 1 (some .boolean), .methodLink RX5 47 yX5_in, .static yX5_in, .code yX5_in cX5_in 3 (some .boolean), .methodLink RX5 77 yX5_ends, .instanceMethod yX5_ends, .selects RX5 yX5_ends yX5_ends, .code yX5_ends cX5_ends 3 (some .int), .fieldLink RX5 68 "WagonSidingsModel" "failure" "I", .fieldLink RX5 71 "WagonSidingsModel" "gone" "I", .fieldLink RX5 74 "WagonSidingsModel" "raised" "I", .methodLink RX5 87 yX5_well, .instanceMethod yX5_well, .selects RX5 yX5_well yX5_well, .code yX5_well cX5_well 3 (some .int)] ++ wsX50)
def wsX5_table : List Cond := .code yX5_table cX5_table 5 (some .int) :: ([.fieldLink RX5 34 "WagonSidingsModel" "tableLong" "[I", .fieldLink RX5 37 "WagonSidingsModel" "tableWide" "[I", .fieldLink RX5 40 "WagonSidingsModel" "table" "[I", .methodLink RX5 47 yX5_in, .static yX5_in, .initialized RX5, .code yX5_in cX5_in 3 (some .boolean), .methodLink RX5 77 yX5_ends, .instanceMethod yX5_ends, .selects RX5 yX5_ends yX5_ends, .code yX5_ends cX5_ends 3 (some .int), .fieldLink RX5 68 "WagonSidingsModel" "failure" "I", .fieldLink RX5 71 "WagonSidingsModel" "gone" "I", .fieldLink RX5 74 "WagonSidingsModel" "raised" "I", .methodLink RX5 87 yX5_well, .instanceMethod yX5_well, .selects RX5 yX5_well yX5_well, .code yX5_well cX5_well 3 (some .int)] ++ wsX50)
def wsX5_add : List Cond := .code yX5_add cX5_add 6 (some .int) :: ([.fieldLink RX5 34 "WagonSidingsModel" "tableLong" "[I", .fieldLink RX5 37 "WagonSidingsModel" "tableWide" "[I", .fieldLink RX5 40 "WagonSidingsModel" "table" "[I", .methodLink RX5 47 yX5_in, .static yX5_in, .initialized RX5, .code yX5_in cX5_in 3 (some .boolean), .methodLink RX5 77 yX5_ends, .instanceMethod yX5_ends, .selects RX5 yX5_ends yX5_ends, .code yX5_ends cX5_ends 3 (some .int), .fieldLink RX5 68 "WagonSidingsModel" "failure" "I", .fieldLink RX5 71 "WagonSidingsModel" "gone" "I", .fieldLink RX5 74 "WagonSidingsModel" "raised" "I", .methodLink RX5 87 yX5_well, .instanceMethod yX5_well, .selects RX5 yX5_well yX5_well, .code yX5_well cX5_well 3 (some .int)] ++ wsX50)
def wsX5_raise : List Cond := .code yX5_raise cX5_raise 3 (some .int) :: ([.fieldLink RX5 22 "WagonSidingsModel" "signal" "[I", .fieldLink RX5 74 "WagonSidingsModel" "raised" "I", .methodLink RX5 65 yX5_isTrack, .static yX5_isTrack, .initialized RX5, .code yX5_isTrack cX5_isTrack 1 (some .boolean), .methodLink RX5 47 yX5_in, .static yX5_in, .code yX5_in cX5_in 3 (some .boolean), .methodLink RX5 77 yX5_ends, .instanceMethod yX5_ends, .selects RX5 yX5_ends yX5_ends, .code yX5_ends cX5_ends 3 (some .int), .fieldLink RX5 68 "WagonSidingsModel" "failure" "I", .fieldLink RX5 71 "WagonSidingsModel" "gone" "I"] ++ wsX50)
def wsX5_told : List Cond := .code yX5_told cX5_told 2 (some .int) :: ([.fieldLink RX5 68 "WagonSidingsModel" "failure" "I", .fieldLink RX5 71 "WagonSidingsModel" "gone" "I", .fieldLink RX5 74 "WagonSidingsModel" "raised" "I"] ++ wsX50)
def wsX5_about : List Cond := .code yX5_about cX5_about 3 (some .int) :: ([.fieldLink RX5 7 "WagonSidingsModel" "kind" "[I", .fieldLink RX5 13 "WagonSidingsModel" "load" "[I", .fieldLink RX5 16 "WagonSidingsModel" "behind" "[I", .methodLink RX5 55 yX5_isWagon, .instanceMethod yX5_isWagon, .selects RX5 yX5_isWagon yX5_isWagon, .initialized RX5, .code yX5_isWagon cX5_isWagon 2 (some .boolean), .fieldLink RX5 43 "WagonSidingsModel" "wagons" "I", .methodLink RX5 47 yX5_in, .static yX5_in, .code yX5_in cX5_in 3 (some .boolean), .methodLink RX5 61 yX5_trackOf, .instanceMethod yX5_trackOf, .selects RX5 yX5_trackOf yX5_trackOf, .code yX5_trackOf cX5_trackOf 4 (some .int), .fieldLink RX5 19 "WagonSidingsModel" "first" "[I"] ++ wsX50)
def wsX5_onRake : List Cond := .code yX5_onRake cX5_onRake 3 (some .int) :: ([.fieldLink RX5 25 "WagonSidingsModel" "rakeLong" "[I", .fieldLink RX5 31 "WagonSidingsModel" "rake" "[I", .methodLink RX5 94 yX5_isRake, .static yX5_isRake, .initialized RX5, .code yX5_isRake cX5_isRake 1 (some .boolean), .methodLink RX5 47 yX5_in, .static yX5_in, .code yX5_in cX5_in 3 (some .boolean)] ++ wsX50)
def wsL_law_r1 : List Cond := [Cond.classLink RL 7 RX4, Cond.instantiable RX4 8, Cond.initialized RX4, Cond.classLink RL 10 RX5, Cond.instantiable RX5 15, Cond.initialized RX5, Cond.methodLink RL 9 yX4_init, Cond.instanceMethod yX4_init, Cond.code yX4_init cX4_init 2 none, Cond.methodLink RX4 1 objectInit, Cond.instanceMethod objectInit, Cond.code objectInit ⟨#[0xb1]⟩ 1 none, Cond.classLink RX4 9 RX3, Cond.fieldLink RX4 11 "WagonSidings" "wagons" "[LWagonSidings$Wagon;", Cond.classLink RX4 15 RX2, Cond.fieldLink RX4 17 "WagonSidings" "tracks" "[LWagonSidings$Track;", Cond.classLink RX4 21 RX0, Cond.fieldLink RX4 23 "WagonSidings" "rakes" "[LWagonSidings$Rake;", Cond.classLink RX4 27 RX1, Cond.fieldLink RX4 29 "WagonSidings" "tables" "[LWagonSidings$Table;", Cond.instantiable RX2 2, Cond.initialized RX2, Cond.instantiable RX0 4, Cond.initialized RX0]
def wsL_law_r2 : List Cond := [Cond.instantiable RX1 4, Cond.initialized RX1, Cond.instanceMethod yX2_init, Cond.code yX2_init cX2_init 1 none, Cond.methodLink RX2 3 objectInit, Cond.fieldLink RX2 9 "WagonSidings$Track" "hung" "I", Cond.instanceMethod yX0_init, Cond.code yX0_init cX0_init 1 none, Cond.methodLink RX0 3 objectInit, Cond.classLink RX0 9 RX3, Cond.fieldLink RX0 11 "WagonSidings$Rake" "row" "[LWagonSidings$Wagon;", Cond.instanceMethod yX1_init, Cond.code yX1_init cX1_init 1 none, Cond.methodLink RX1 3 objectInit, Cond.arrayClass .int, Cond.fieldLink RX1 9 "WagonSidings$Table" "cells" "[I", Cond.methodLink RL 12 yX5_init, Cond.instanceMethod yX5_init, Cond.code yX5_init cX5_init 2 none, Cond.methodLink RX5 1 objectInit, Cond.fieldLink RX5 7 "WagonSidingsModel" "kind" "[I", Cond.fieldLink RX5 13 "WagonSidingsModel" "load" "[I", Cond.fieldLink RX5 16 "WagonSidingsModel" "behind" "[I", Cond.fieldLink RX5 19 "WagonSidingsModel" "first" "[I"]
def wsL_law_r3 : List Cond := [Cond.fieldLink RX5 22 "WagonSidingsModel" "signal" "[I", Cond.fieldLink RX5 25 "WagonSidingsModel" "rakeLong" "[I", Cond.fieldLink RX5 28 "WagonSidingsModel" "rakeKind" "[I", Cond.fieldLink RX5 31 "WagonSidingsModel" "rake" "[I", Cond.fieldLink RX5 34 "WagonSidingsModel" "tableLong" "[I", Cond.fieldLink RX5 37 "WagonSidingsModel" "tableWide" "[I", Cond.fieldLink RX5 40 "WagonSidingsModel" "table" "[I", Cond.methodLink RL 13 yX4_wagon, Cond.instanceMethod yX4_wagon, Cond.selects RX4 yX4_wagon yX4_wagon, Cond.code yX4_wagon cX4_wagon 4 (some .int), Cond.fieldLink RX4 40 "WagonSidings" "wagonCount" "I", Cond.instantiable RX3 6, Cond.initialized RX3, Cond.methodLink RX4 36 yX4_isKind, Cond.static yX4_isKind, Cond.code yX4_isKind cX4_isKind 1 (some .boolean), Cond.methodLink RX4 44 yX3_init, Cond.instanceMethod yX3_init, Cond.code yX3_init cX3_init 4 none, Cond.methodLink RX3 3 objectInit, Cond.fieldLink RX3 9 "WagonSidings$Wagon" "firstOn" "I", Cond.fieldLink RX3 15 "WagonSidings$Wagon" "number" "I", Cond.fieldLink RX3 18 "WagonSidings$Wagon" "kind" "I"]
def wsL_law_r4 : List Cond := [Cond.fieldLink RX3 21 "WagonSidings$Wagon" "cargo" "I", Cond.methodLink RL 17 yX5_wagon, Cond.instanceMethod yX5_wagon, Cond.selects RX5 yX5_wagon yX5_wagon, Cond.code yX5_wagon cX5_wagon 3 (some .int), Cond.fieldLink RX5 43 "WagonSidingsModel" "wagons" "I", Cond.methodLink RX5 51 yX5_isKind, Cond.static yX5_isKind, Cond.code yX5_isKind cX5_isKind 1 (some .boolean), Cond.methodLink RX5 47 yX5_in, Cond.static yX5_in, Cond.code yX5_in cX5_in 3 (some .boolean), Cond.methodLink RL 18 yX4_couple, Cond.instanceMethod yX4_couple, Cond.selects RX4 yX4_couple yX4_couple, Cond.code yX4_couple cX4_couple 5 (some .int), Cond.fieldLink RX4 51 "WagonSidings$Wagon" "behind" "LWagonSidings$Wagon;", Cond.fieldLink RX4 55 "WagonSidings$Wagon" "hasOneAhead" "Z", Cond.fieldLink RX4 59 "WagonSidings$Wagon" "firstOn" "I", Cond.methodLink RX4 47 yX4_findWagon, Cond.instanceMethod yX4_findWagon, Cond.selects RX4 yX4_findWagon yX4_findWagon, Cond.code yX4_findWagon cX4_findWagon 2 (some (.object "WagonSidings$Wagon")), Cond.methodLink RX4 62 yX4_isAtOrBehind]
def wsL_law_r5 : List Cond := [Cond.static yX4_isAtOrBehind, Cond.code yX4_isAtOrBehind cX4_isAtOrBehind 3 (some .boolean), Cond.methodLink RL 21 yX5_couple, Cond.instanceMethod yX5_couple, Cond.selects RX5 yX5_couple yX5_couple, Cond.code yX5_couple cX5_couple 4 (some .int), Cond.methodLink RX5 55 yX5_isWagon, Cond.instanceMethod yX5_isWagon, Cond.selects RX5 yX5_isWagon yX5_isWagon, Cond.code yX5_isWagon cX5_isWagon 2 (some .boolean), Cond.methodLink RX5 58 yX5_hasAhead, Cond.instanceMethod yX5_hasAhead, Cond.selects RX5 yX5_hasAhead yX5_hasAhead, Cond.code yX5_hasAhead cX5_hasAhead 4 (some .boolean), Cond.methodLink RX5 61 yX5_trackOf, Cond.instanceMethod yX5_trackOf, Cond.selects RX5 yX5_trackOf yX5_trackOf, Cond.code yX5_trackOf cX5_trackOf 4 (some .int), Cond.methodLink RL 22 yX4_stand, Cond.instanceMethod yX4_stand, Cond.selects RX4 yX4_stand yX4_stand, Cond.code yX4_stand cX4_stand 6 (some .int), Cond.fieldLink RX4 70 "WagonSidings$Track" "first" "LWagonSidings$Wagon;", Cond.methodLink RX4 66 yX4_findTrack]
def wsL_law_r6 : List Cond := [Cond.instanceMethod yX4_findTrack, Cond.selects RX4 yX4_findTrack yX4_findTrack, Cond.code yX4_findTrack cX4_findTrack 2 (some (.object "WagonSidings$Track")), Cond.methodLink RX4 73 yX4_numberOf, Cond.static yX4_numberOf, Cond.code yX4_numberOf cX4_numberOf 1 (some .int), Cond.fieldLink RX4 88 "WagonSidings$Wagon" "number" "I", Cond.methodLink RL 25 yX5_stand, Cond.instanceMethod yX5_stand, Cond.selects RX5 yX5_stand yX5_stand, Cond.code yX5_stand cX5_stand 4 (some .int), Cond.methodLink RX5 65 yX5_isTrack, Cond.static yX5_isTrack, Cond.code yX5_isTrack cX5_isTrack 1 (some .boolean), Cond.methodLink RL 26 yX4_signal, Cond.instanceMethod yX4_signal, Cond.selects RX4 yX4_signal yX4_signal, Cond.code yX4_signal cX4_signal 5 (some .int), Cond.fieldLink RX4 77 "WagonSidings$Track" "hung" "I", Cond.methodLink RL 29 yX5_signal, Cond.instanceMethod yX5_signal, Cond.selects RX5 yX5_signal yX5_signal, Cond.code yX5_signal cX5_signal 4 (some .int), Cond.methodLink RL 30 yX4_wagonAt]
def wsL_law_r7 : List Cond := [Cond.instanceMethod yX4_wagonAt, Cond.selects RX4 yX4_wagonAt yX4_wagonAt, Cond.code yX4_wagonAt cX4_wagonAt 4 (some .int), Cond.methodLink RX4 80 yX4_reach, Cond.instanceMethod yX4_reach, Cond.selects RX4 yX4_reach yX4_reach, Cond.code yX4_reach cX4_reach 5 (some (.object "WagonSidings$Wagon")), Cond.methodLink RX4 155 yX4_isOutsideTrack, Cond.static yX4_isOutsideTrack, Cond.code yX4_isOutsideTrack cX4_isOutsideTrack 1 (some .boolean), Cond.methodLink RX4 158 yX2_nth, Cond.instanceMethod yX2_nth, Cond.selects RX2 yX2_nth yX2_nth, Cond.code yX2_nth cX2_nth 4 (some (.object "WagonSidings$Wagon")), Cond.fieldLink RX2 15 "WagonSidings$Track" "first" "LWagonSidings$Wagon;", Cond.fieldLink RX2 19 "WagonSidings$Wagon" "behind" "LWagonSidings$Wagon;", Cond.methodLink RX4 161 yX4_tell, Cond.instanceMethod yX4_tell, Cond.selects RX4 yX4_tell yX4_tell, Cond.code yX4_tell cX4_tell 3 none, Cond.fieldLink RX4 149 "WagonSidings" "toldFailure" "I", Cond.fieldLink RX4 152 "WagonSidings" "toldCount" "I", Cond.fieldLink RX4 146 "WagonSidings" "toldSignal" "I", Cond.methodLink RX4 84 yX4_answerUnreached]
def wsL_law_r8 : List Cond := [Cond.instanceMethod yX4_answerUnreached, Cond.selects RX4 yX4_answerUnreached yX4_answerUnreached, Cond.code yX4_answerUnreached cX4_answerUnreached 4 (some .int), Cond.methodLink RX4 164 yX2_length, Cond.instanceMethod yX2_length, Cond.selects RX2 yX2_length yX2_length, Cond.code yX2_length cX2_length 3 (some .int), Cond.methodLink RX4 107 yX4_fail, Cond.instanceMethod yX4_fail, Cond.selects RX4 yX4_fail yX4_fail, Cond.code yX4_fail cX4_fail 3 (some .int), Cond.methodLink RL 33 yX5_wagonAt, Cond.instanceMethod yX5_wagonAt, Cond.selects RX5 yX5_wagonAt yX5_wagonAt, Cond.code yX5_wagonAt cX5_wagonAt 5 (some .int), Cond.methodLink RX5 81 yX5_refused, Cond.static yX5_refused, Cond.code yX5_refused cX5_refused 2 (some .int), Cond.methodLink RX5 84 yX5_nth, Cond.instanceMethod yX5_nth, Cond.selects RX5 yX5_nth yX5_nth, Cond.code yX5_nth cX5_nth 5 (some .int), Cond.methodLink RX5 77 yX5_ends, Cond.instanceMethod yX5_ends]
def wsL_law_r9 : List Cond := [Cond.selects RX5 yX5_ends yX5_ends, Cond.code yX5_ends cX5_ends 3 (some .int), Cond.fieldLink RX5 68 "WagonSidingsModel" "failure" "I", Cond.fieldLink RX5 71 "WagonSidingsModel" "gone" "I", Cond.fieldLink RX5 74 "WagonSidingsModel" "raised" "I", Cond.methodLink RX5 87 yX5_well, Cond.instanceMethod yX5_well, Cond.selects RX5 yX5_well yX5_well, Cond.code yX5_well cX5_well 3 (some .int), Cond.methodLink RL 34 yX4_load, Cond.instanceMethod yX4_load, Cond.selects RX4 yX4_load yX4_load, Cond.code yX4_load cX4_load 5 (some .int), Cond.fieldLink RX4 91 "WagonSidings$Wagon" "cargo" "I", Cond.methodLink RL 38 yX5_load, Cond.instanceMethod yX5_load, Cond.selects RX5 yX5_load yX5_load, Cond.code yX5_load cX5_load 6 (some .int), Cond.methodLink RL 39 yX4_cut, Cond.instanceMethod yX4_cut, Cond.selects RX4 yX4_cut yX4_cut, Cond.code yX4_cut cX4_cut 4 (some .int), Cond.methodLink RL 42 yX5_cut, Cond.instanceMethod yX5_cut]
def wsL_law_r10 : List Cond := [Cond.selects RX5 yX5_cut yX5_cut, Cond.code yX5_cut cX5_cut 5 (some .int), Cond.methodLink RL 43 yX4_hoot, Cond.instanceMethod yX4_hoot, Cond.selects RX4 yX4_hoot yX4_hoot, Cond.code yX4_hoot cX4_hoot 4 (some .int), Cond.methodLink RX4 94 yX4_hootOf, Cond.static yX4_hootOf, Cond.code yX4_hootOf cX4_hootOf 1 (some .int), Cond.fieldLink RX4 97 "WagonSidings$Wagon" "kind" "I", Cond.methodLink RL 46 yX5_hoot, Cond.instanceMethod yX5_hoot, Cond.selects RX5 yX5_hoot yX5_hoot, Cond.code yX5_hoot cX5_hoot 7 (some .int), Cond.methodLink RL 47 yX4_pull, Cond.instanceMethod yX4_pull, Cond.selects RX4 yX4_pull yX4_pull, Cond.code yX4_pull cX4_pull 4 (some .int), Cond.methodLink RX4 100 yX4_isOf, Cond.static yX4_isOf, Cond.code yX4_isOf cX4_isOf 2 (some .boolean), Cond.methodLink RX4 104 yX4_pullOf, Cond.static yX4_pullOf, Cond.code yX4_pullOf cX4_pullOf 3 (some .int)]
def wsL_law_r11 : List Cond := [Cond.methodLink RL 50 yX5_pull, Cond.instanceMethod yX5_pull, Cond.selects RX5 yX5_pull yX5_pull, Cond.code yX5_pull cX5_pull 7 (some .int), Cond.methodLink RL 51 yX4_loadAs, Cond.instanceMethod yX4_loadAs, Cond.selects RX4 yX4_loadAs yX4_loadAs, Cond.code yX4_loadAs cX4_loadAs 5 (some .int), Cond.methodLink RL 54 yX5_loadAs, Cond.instanceMethod yX5_loadAs, Cond.selects RX5 yX5_loadAs yX5_loadAs, Cond.code yX5_loadAs cX5_loadAs 6 (some .int), Cond.methodLink RX5 90 yX5_isOf, Cond.static yX5_isOf, Cond.code yX5_isOf cX5_isOf 2 (some .boolean), Cond.methodLink RL 55 yX4_rake, Cond.instanceMethod yX4_rake, Cond.selects RX4 yX4_rake yX4_rake, Cond.code yX4_rake cX4_rake 5 (some .int), Cond.methodLink RX4 110 yX4_findRake, Cond.instanceMethod yX4_findRake, Cond.selects RX4 yX4_findRake yX4_findRake, Cond.code yX4_findRake cX4_findRake 2 (some (.object "WagonSidings$Rake")), Cond.methodLink RX4 114 yX0_renew]
def wsL_law_r12 : List Cond := [Cond.instanceMethod yX0_renew, Cond.selects RX0 yX0_renew yX0_renew, Cond.code yX0_renew cX0_renew 4 none, Cond.fieldLink RX0 17 "WagonSidings$Rake" "made" "Z", Cond.fieldLink RX0 21 "WagonSidings$Rake" "kind" "I", Cond.fieldLink RX0 25 "WagonSidings$Rake" "size" "I", Cond.methodLink RX4 118 yX4_succeed, Cond.instanceMethod yX4_succeed, Cond.selects RX4 yX4_succeed yX4_succeed, Cond.code yX4_succeed cX4_succeed 3 (some .int), Cond.methodLink RL 58 yX5_rake, Cond.instanceMethod yX5_rake, Cond.selects RX5 yX5_rake yX5_rake, Cond.code yX5_rake cX5_rake 5 (some .int), Cond.methodLink RX5 94 yX5_isRake, Cond.static yX5_isRake, Cond.code yX5_isRake cX5_isRake 1 (some .boolean), Cond.methodLink RL 59 yX4_drop, Cond.instanceMethod yX4_drop, Cond.selects RX4 yX4_drop yX4_drop, Cond.code yX4_drop cX4_drop 3 (some .int), Cond.fieldLink RX4 121 "WagonSidings$Rake" "made" "Z", Cond.methodLink RL 63 yX5_drop, Cond.instanceMethod yX5_drop]
def wsL_law_r13 : List Cond := [Cond.selects RX5 yX5_drop yX5_drop, Cond.code yX5_drop cX5_drop 2 (some .int), Cond.methodLink RL 64 yX4_lay, Cond.instanceMethod yX4_lay, Cond.selects RX4 yX4_lay yX4_lay, Cond.code yX4_lay cX4_lay 7 (some .int), Cond.fieldLink RX4 127 "WagonSidings$Rake" "kind" "I", Cond.fieldLink RX4 128 "WagonSidings$Rake" "row" "[LWagonSidings$Wagon;", Cond.methodLink RX4 124 yX0_hasPlace, Cond.instanceMethod yX0_hasPlace, Cond.selects RX0 yX0_hasPlace yX0_hasPlace, Cond.code yX0_hasPlace cX0_hasPlace 2 (some .boolean), Cond.methodLink RL 67 yX5_lay, Cond.instanceMethod yX5_lay, Cond.selects RX5 yX5_lay yX5_lay, Cond.code yX5_lay cX5_lay 5 (some .int), Cond.methodLink RL 68 yX4_places, Cond.instanceMethod yX4_places, Cond.selects RX4 yX4_places yX4_places, Cond.code yX4_places cX4_places 3 (some .int), Cond.fieldLink RX4 131 "WagonSidings$Rake" "size" "I", Cond.methodLink RL 71 yX5_places, Cond.instanceMethod yX5_places, Cond.selects RX5 yX5_places yX5_places]
def wsL_law_r14 : List Cond := [Cond.code yX5_places cX5_places 2 (some .int), Cond.methodLink RL 72 yX4_loadOn, Cond.instanceMethod yX4_loadOn, Cond.selects RX4 yX4_loadOn yX4_loadOn, Cond.code yX4_loadOn cX4_loadOn 5 (some .int), Cond.methodLink RL 75 yX5_loadOn, Cond.instanceMethod yX5_loadOn, Cond.selects RX5 yX5_loadOn yX5_loadOn, Cond.code yX5_loadOn cX5_loadOn 4 (some .int), Cond.methodLink RL 76 yX4_table, Cond.instanceMethod yX4_table, Cond.selects RX4 yX4_table yX4_table, Cond.code yX4_table cX4_table 5 (some .int), Cond.methodLink RX4 134 yX4_findTable, Cond.instanceMethod yX4_findTable, Cond.selects RX4 yX4_findTable yX4_findTable, Cond.code yX4_findTable cX4_findTable 2 (some (.object "WagonSidings$Table")), Cond.methodLink RX4 138 yX1_renew, Cond.instanceMethod yX1_renew, Cond.selects RX1 yX1_renew yX1_renew, Cond.code yX1_renew cX1_renew 4 none, Cond.fieldLink RX1 15 "WagonSidings$Table" "made" "Z", Cond.fieldLink RX1 19 "WagonSidings$Table" "rows" "I", Cond.fieldLink RX1 23 "WagonSidings$Table" "columns" "I"]
def wsL_law_r15 : List Cond := [Cond.methodLink RL 79 yX5_table, Cond.instanceMethod yX5_table, Cond.selects RX5 yX5_table yX5_table, Cond.code yX5_table cX5_table 5 (some .int), Cond.methodLink RL 80 yX4_add, Cond.instanceMethod yX4_add, Cond.selects RX4 yX4_add yX4_add, Cond.code yX4_add cX4_add 7 (some .int), Cond.fieldLink RX4 139 "WagonSidings$Table" "made" "Z", Cond.fieldLink RX4 142 "WagonSidings$Table" "cells" "[I", Cond.methodLink RX4 140 yX1_hasPlace, Cond.instanceMethod yX1_hasPlace, Cond.selects RX1 yX1_hasPlace yX1_hasPlace, Cond.code yX1_hasPlace cX1_hasPlace 3 (some .boolean), Cond.methodLink RL 84 yX5_add, Cond.instanceMethod yX5_add, Cond.selects RX5 yX5_add yX5_add, Cond.code yX5_add cX5_add 6 (some .int), Cond.methodLink RL 85 yX4_raise, Cond.instanceMethod yX4_raise, Cond.selects RX4 yX4_raise yX4_raise, Cond.code yX4_raise cX4_raise 4 (some .int), Cond.methodLink RL 88 yX5_raise, Cond.instanceMethod yX5_raise]
def wsL_law_r16 : List Cond := [Cond.selects RX5 yX5_raise yX5_raise, Cond.code yX5_raise cX5_raise 3 (some .int), Cond.methodLink RL 89 yX4_told, Cond.instanceMethod yX4_told, Cond.selects RX4 yX4_told yX4_told, Cond.code yX4_told cX4_told 2 (some .int), Cond.methodLink RL 92 yX5_told, Cond.instanceMethod yX5_told, Cond.selects RX5 yX5_told yX5_told, Cond.code yX5_told cX5_told 2 (some .int), Cond.methodLink RL 93 yX4_about, Cond.instanceMethod yX4_about, Cond.selects RX4 yX4_about yX4_about, Cond.code yX4_about cX4_about 4 (some .int), Cond.methodLink RL 96 yX5_about, Cond.instanceMethod yX5_about, Cond.selects RX5 yX5_about yX5_about, Cond.code yX5_about cX5_about 3 (some .int), Cond.methodLink RL 97 yX4_onRake, Cond.instanceMethod yX4_onRake, Cond.selects RX4 yX4_onRake yX4_onRake, Cond.code yX4_onRake cX4_onRake 4 (some .int), Cond.methodLink RL 100 yX5_onRake, Cond.instanceMethod yX5_onRake]
def wsL_law_r17 : List Cond := [Cond.selects RX5 yX5_onRake yX5_onRake, Cond.code yX5_onRake cX5_onRake 3 (some .int)]
def wsL_law : List Cond := (wsL_law_r1 ++ (wsL_law_r2 ++ (wsL_law_r3 ++ (wsL_law_r4 ++ (wsL_law_r5 ++ (wsL_law_r6 ++ (wsL_law_r7 ++ (wsL_law_r8 ++ (wsL_law_r9 ++ (wsL_law_r10 ++ (wsL_law_r11 ++ (wsL_law_r12 ++ (wsL_law_r13 ++ (wsL_law_r14 ++ (wsL_law_r15 ++ (wsL_law_r16 ++ wsL_law_r17)))))))))))))))) ++ wsX40 ++ wsX50 ++ wsX20 ++ wsX00 ++ wsX10 ++ wsX30 ++ ([] : List Cond)
set_option maxRecDepth 20000 in
theorem wsL_law_in : ∀ w ∈ wsL_law, w ∈ lw_tbl := fun w h => (goodIn_p wsL_law [26, 29, 41, 55, 78, 319, 124, 127, 131, 370, 373, 376, 160, 164, 167, 380, 384, 388, 392, 171, 175, 178, 396, 399, 182, 403, 186, 190, 193, 197, 201, 205, 209, 213, 407, 410, 414, 418, 422, 217, 426, 221, 430, 225, 228, 434, 232, 235, 238, 438, 242, 442, 445, 246, 250, 254, 258, 449, 452, 262, 456, 266, 270, 460, 274, 464, 278, 468, 282, 286, 290, 472, 294, 298, 476, 302, 480, 306, 484, 310, 488, 314, 492] (by decide +kernel) (by decide +kernel) w h).1
theorem inlX0 : ∀ w ∈ wsX00, w ∈ wsL_law := fun _ h => List.mem_append_left _ (List.mem_append_left _ (List.mem_append_left _ (List.mem_append_right _ h)))
theorem inX0 : ∀ w ∈ wsX00, w ∈ lw_tbl := fun w h => wsL_law_in w (inlX0 w h)
theorem inlX1 : ∀ w ∈ wsX10, w ∈ wsL_law := fun _ h => List.mem_append_left _ (List.mem_append_left _ (List.mem_append_right _ h))
theorem inX1 : ∀ w ∈ wsX10, w ∈ lw_tbl := fun w h => wsL_law_in w (inlX1 w h)
theorem inlX2 : ∀ w ∈ wsX20, w ∈ wsL_law := fun _ h => List.mem_append_left _ (List.mem_append_left _ (List.mem_append_left _ (List.mem_append_left _ (List.mem_append_right _ h))))
theorem inX2 : ∀ w ∈ wsX20, w ∈ lw_tbl := fun w h => wsL_law_in w (inlX2 w h)
theorem inlX3 : ∀ w ∈ wsX30, w ∈ wsL_law := fun _ h => List.mem_append_left _ (List.mem_append_right _ h)
theorem inX3 : ∀ w ∈ wsX30, w ∈ lw_tbl := fun w h => wsL_law_in w (inlX3 w h)
theorem inlX4 : ∀ w ∈ wsX40, w ∈ wsL_law := fun _ h => List.mem_append_left _ (List.mem_append_left _ (List.mem_append_left _ (List.mem_append_left _ (List.mem_append_left _ (List.mem_append_left _ (List.mem_append_right _ h))))))
theorem inX4 : ∀ w ∈ wsX40, w ∈ lw_tbl := fun w h => wsL_law_in w (inlX4 w h)
theorem inlX5 : ∀ w ∈ wsX50, w ∈ wsL_law := fun _ h => List.mem_append_left _ (List.mem_append_left _ (List.mem_append_left _ (List.mem_append_left _ (List.mem_append_left _ (List.mem_append_right _ h)))))
theorem inX5 : ∀ w ∈ wsX50, w ∈ lw_tbl := fun w h => wsL_law_in w (inlX5 w h)
theorem dX0_init_0 : decode cX0_init 0 = .ok (.aload_n 0, 1) := by decide +kernel
theorem dX0_init_1 : decode cX0_init 1 = .ok (.invokespecial 3, 3) := by decide +kernel
theorem dX0_init_4 : decode cX0_init 4 = .ok (.aload_n 0, 1) := by decide +kernel
theorem dX0_init_5 : decode cX0_init 5 = .ok (.bipush 12, 2) := by decide +kernel
theorem dX0_init_7 : decode cX0_init 7 = .ok (.anewarray 9, 3) := by decide +kernel
theorem dX0_init_10 : decode cX0_init 10 = .ok (.putfield 11, 3) := by decide +kernel
theorem dX0_init_13 : decode cX0_init 13 = .ok (.return_, 1) := by decide +kernel
theorem dX0_renew_0 : decode cX0_renew 0 = .ok (.aload_n 0, 1) := by decide +kernel
theorem dX0_renew_1 : decode cX0_renew 1 = .ok (.iconst 1, 1) := by decide +kernel
theorem dX0_renew_2 : decode cX0_renew 2 = .ok (.putfield 17, 3) := by decide +kernel
theorem dX0_renew_5 : decode cX0_renew 5 = .ok (.aload_n 0, 1) := by decide +kernel
theorem dX0_renew_6 : decode cX0_renew 6 = .ok (.iload_n 1, 1) := by decide +kernel
theorem dX0_renew_7 : decode cX0_renew 7 = .ok (.putfield 21, 3) := by decide +kernel
theorem dX0_renew_10 : decode cX0_renew 10 = .ok (.aload_n 0, 1) := by decide +kernel
theorem dX0_renew_11 : decode cX0_renew 11 = .ok (.iload_n 2, 1) := by decide +kernel
theorem dX0_renew_12 : decode cX0_renew 12 = .ok (.putfield 25, 3) := by decide +kernel
theorem dX0_renew_15 : decode cX0_renew 15 = .ok (.iconst 0, 1) := by decide +kernel
theorem dX0_renew_16 : decode cX0_renew 16 = .ok (.istore_n 3, 1) := by decide +kernel
theorem dX0_renew_17 : decode cX0_renew 17 = .ok (.iload_n 3, 1) := by decide +kernel
theorem dX0_renew_18 : decode cX0_renew 18 = .ok (.aload_n 0, 1) := by decide +kernel
theorem dX0_renew_19 : decode cX0_renew 19 = .ok (.getfield 11, 3) := by decide +kernel
theorem dX0_renew_22 : decode cX0_renew 22 = .ok (.arraylength, 1) := by decide +kernel
theorem dX0_renew_23 : decode cX0_renew 23 = .ok (.if_icmp .ge 16, 3) := by decide +kernel
theorem dX0_renew_26 : decode cX0_renew 26 = .ok (.aload_n 0, 1) := by decide +kernel
theorem dX0_renew_27 : decode cX0_renew 27 = .ok (.getfield 11, 3) := by decide +kernel
theorem dX0_renew_30 : decode cX0_renew 30 = .ok (.iload_n 3, 1) := by decide +kernel
theorem dX0_renew_31 : decode cX0_renew 31 = .ok (.aconst_null, 1) := by decide +kernel
theorem dX0_renew_32 : decode cX0_renew 32 = .ok (.aastore, 1) := by decide +kernel
theorem dX0_renew_33 : decode cX0_renew 33 = .ok (.iinc 3 1, 3) := by decide +kernel
theorem dX0_renew_36 : decode cX0_renew 36 = .ok (.goto (-19), 3) := by decide +kernel
theorem dX0_renew_39 : decode cX0_renew 39 = .ok (.return_, 1) := by decide +kernel
theorem dX0_hasPlace_0 : decode cX0_hasPlace 0 = .ok (.aload_n 0, 1) := by decide +kernel
theorem dX0_hasPlace_1 : decode cX0_hasPlace 1 = .ok (.getfield 17, 3) := by decide +kernel
theorem dX0_hasPlace_4 : decode cX0_hasPlace 4 = .ok (.ifCond .eq 28, 3) := by decide +kernel
theorem dX0_hasPlace_7 : decode cX0_hasPlace 7 = .ok (.iload_n 1, 1) := by decide +kernel
theorem dX0_hasPlace_8 : decode cX0_hasPlace 8 = .ok (.ifCond .lt 24, 3) := by decide +kernel
theorem dX0_hasPlace_11 : decode cX0_hasPlace 11 = .ok (.iload_n 1, 1) := by decide +kernel
theorem dX0_hasPlace_12 : decode cX0_hasPlace 12 = .ok (.aload_n 0, 1) := by decide +kernel
theorem dX0_hasPlace_13 : decode cX0_hasPlace 13 = .ok (.getfield 25, 3) := by decide +kernel
theorem dX0_hasPlace_16 : decode cX0_hasPlace 16 = .ok (.if_icmp .ge 16, 3) := by decide +kernel
theorem dX0_hasPlace_19 : decode cX0_hasPlace 19 = .ok (.iload_n 1, 1) := by decide +kernel
theorem dX0_hasPlace_20 : decode cX0_hasPlace 20 = .ok (.aload_n 0, 1) := by decide +kernel
theorem dX0_hasPlace_21 : decode cX0_hasPlace 21 = .ok (.getfield 11, 3) := by decide +kernel
theorem dX0_hasPlace_24 : decode cX0_hasPlace 24 = .ok (.arraylength, 1) := by decide +kernel
theorem dX0_hasPlace_25 : decode cX0_hasPlace 25 = .ok (.if_icmp .ge 7, 3) := by decide +kernel
theorem dX0_hasPlace_28 : decode cX0_hasPlace 28 = .ok (.iconst 1, 1) := by decide +kernel
theorem dX0_hasPlace_29 : decode cX0_hasPlace 29 = .ok (.goto 4, 3) := by decide +kernel
theorem dX0_hasPlace_32 : decode cX0_hasPlace 32 = .ok (.iconst 0, 1) := by decide +kernel
theorem dX0_hasPlace_33 : decode cX0_hasPlace 33 = .ok (.ireturn, 1) := by decide +kernel
theorem dX1_init_0 : decode cX1_init 0 = .ok (.aload_n 0, 1) := by decide +kernel
theorem dX1_init_1 : decode cX1_init 1 = .ok (.invokespecial 3, 3) := by decide +kernel
theorem dX1_init_4 : decode cX1_init 4 = .ok (.aload_n 0, 1) := by decide +kernel
theorem dX1_init_5 : decode cX1_init 5 = .ok (.bipush 72, 2) := by decide +kernel
theorem dX1_init_7 : decode cX1_init 7 = .ok (.newarray .int, 2) := by decide +kernel
theorem dX1_init_9 : decode cX1_init 9 = .ok (.putfield 9, 3) := by decide +kernel
theorem dX1_init_12 : decode cX1_init 12 = .ok (.return_, 1) := by decide +kernel
theorem dX1_renew_0 : decode cX1_renew 0 = .ok (.aload_n 0, 1) := by decide +kernel
theorem dX1_renew_1 : decode cX1_renew 1 = .ok (.iconst 1, 1) := by decide +kernel
theorem dX1_renew_2 : decode cX1_renew 2 = .ok (.putfield 15, 3) := by decide +kernel
theorem dX1_renew_5 : decode cX1_renew 5 = .ok (.aload_n 0, 1) := by decide +kernel
theorem dX1_renew_6 : decode cX1_renew 6 = .ok (.iload_n 1, 1) := by decide +kernel
theorem dX1_renew_7 : decode cX1_renew 7 = .ok (.putfield 19, 3) := by decide +kernel
theorem dX1_renew_10 : decode cX1_renew 10 = .ok (.aload_n 0, 1) := by decide +kernel
theorem dX1_renew_11 : decode cX1_renew 11 = .ok (.iload_n 2, 1) := by decide +kernel
theorem dX1_renew_12 : decode cX1_renew 12 = .ok (.putfield 23, 3) := by decide +kernel
theorem dX1_renew_15 : decode cX1_renew 15 = .ok (.iconst 0, 1) := by decide +kernel
theorem dX1_renew_16 : decode cX1_renew 16 = .ok (.istore_n 3, 1) := by decide +kernel
theorem dX1_renew_17 : decode cX1_renew 17 = .ok (.iload_n 3, 1) := by decide +kernel
theorem dX1_renew_18 : decode cX1_renew 18 = .ok (.aload_n 0, 1) := by decide +kernel
theorem dX1_renew_19 : decode cX1_renew 19 = .ok (.getfield 9, 3) := by decide +kernel
theorem dX1_renew_22 : decode cX1_renew 22 = .ok (.arraylength, 1) := by decide +kernel
theorem dX1_renew_23 : decode cX1_renew 23 = .ok (.if_icmp .ge 16, 3) := by decide +kernel
theorem dX1_renew_26 : decode cX1_renew 26 = .ok (.aload_n 0, 1) := by decide +kernel
theorem dX1_renew_27 : decode cX1_renew 27 = .ok (.getfield 9, 3) := by decide +kernel
theorem dX1_renew_30 : decode cX1_renew 30 = .ok (.iload_n 3, 1) := by decide +kernel
theorem dX1_renew_31 : decode cX1_renew 31 = .ok (.iconst 0, 1) := by decide +kernel
theorem dX1_renew_32 : decode cX1_renew 32 = .ok (.iastore, 1) := by decide +kernel
theorem dX1_renew_33 : decode cX1_renew 33 = .ok (.iinc 3 1, 3) := by decide +kernel
theorem dX1_renew_36 : decode cX1_renew 36 = .ok (.goto (-19), 3) := by decide +kernel
theorem dX1_renew_39 : decode cX1_renew 39 = .ok (.return_, 1) := by decide +kernel
theorem dX1_hasPlace_0 : decode cX1_hasPlace 0 = .ok (.iload_n 1, 1) := by decide +kernel
theorem dX1_hasPlace_1 : decode cX1_hasPlace 1 = .ok (.ifCond .lt 39, 3) := by decide +kernel
theorem dX1_hasPlace_4 : decode cX1_hasPlace 4 = .ok (.iload_n 1, 1) := by decide +kernel
theorem dX1_hasPlace_5 : decode cX1_hasPlace 5 = .ok (.aload_n 0, 1) := by decide +kernel
theorem dX1_hasPlace_6 : decode cX1_hasPlace 6 = .ok (.getfield 19, 3) := by decide +kernel
theorem dX1_hasPlace_9 : decode cX1_hasPlace 9 = .ok (.if_icmp .ge 31, 3) := by decide +kernel
theorem dX1_hasPlace_12 : decode cX1_hasPlace 12 = .ok (.iload_n 1, 1) := by decide +kernel
theorem dX1_hasPlace_13 : decode cX1_hasPlace 13 = .ok (.bipush 12, 2) := by decide +kernel
theorem dX1_hasPlace_15 : decode cX1_hasPlace 15 = .ok (.if_icmp .ge 25, 3) := by decide +kernel
theorem dX1_hasPlace_18 : decode cX1_hasPlace 18 = .ok (.iload_n 2, 1) := by decide +kernel
theorem dX1_hasPlace_19 : decode cX1_hasPlace 19 = .ok (.ifCond .lt 21, 3) := by decide +kernel
theorem dX1_hasPlace_22 : decode cX1_hasPlace 22 = .ok (.iload_n 2, 1) := by decide +kernel
theorem dX1_hasPlace_23 : decode cX1_hasPlace 23 = .ok (.aload_n 0, 1) := by decide +kernel
theorem dX1_hasPlace_24 : decode cX1_hasPlace 24 = .ok (.getfield 23, 3) := by decide +kernel
theorem dX1_hasPlace_27 : decode cX1_hasPlace 27 = .ok (.if_icmp .ge 13, 3) := by decide +kernel
theorem dX1_hasPlace_30 : decode cX1_hasPlace 30 = .ok (.iload_n 2, 1) := by decide +kernel
theorem dX1_hasPlace_31 : decode cX1_hasPlace 31 = .ok (.bipush 6, 2) := by decide +kernel
theorem dX1_hasPlace_33 : decode cX1_hasPlace 33 = .ok (.if_icmp .ge 7, 3) := by decide +kernel
theorem dX1_hasPlace_36 : decode cX1_hasPlace 36 = .ok (.iconst 1, 1) := by decide +kernel
theorem dX1_hasPlace_37 : decode cX1_hasPlace 37 = .ok (.goto 4, 3) := by decide +kernel
theorem dX1_hasPlace_40 : decode cX1_hasPlace 40 = .ok (.iconst 0, 1) := by decide +kernel
theorem dX1_hasPlace_41 : decode cX1_hasPlace 41 = .ok (.ireturn, 1) := by decide +kernel
theorem dX2_init_0 : decode cX2_init 0 = .ok (.aload_n 0, 1) := by decide +kernel
theorem dX2_init_1 : decode cX2_init 1 = .ok (.invokespecial 3, 3) := by decide +kernel
theorem dX2_init_4 : decode cX2_init 4 = .ok (.aload_n 0, 1) := by decide +kernel
theorem dX2_init_5 : decode cX2_init 5 = .ok (.iconst (-1), 1) := by decide +kernel
theorem dX2_init_6 : decode cX2_init 6 = .ok (.putfield 9, 3) := by decide +kernel
theorem dX2_init_9 : decode cX2_init 9 = .ok (.return_, 1) := by decide +kernel
theorem dX2_nth_0 : decode cX2_nth 0 = .ok (.aload_n 0, 1) := by decide +kernel
theorem dX2_nth_1 : decode cX2_nth 1 = .ok (.getfield 15, 3) := by decide +kernel
theorem dX2_nth_4 : decode cX2_nth 4 = .ok (.astore_n 2, 1) := by decide +kernel
theorem dX2_nth_5 : decode cX2_nth 5 = .ok (.iconst 0, 1) := by decide +kernel
theorem dX2_nth_6 : decode cX2_nth 6 = .ok (.istore_n 3, 1) := by decide +kernel
theorem dX2_nth_7 : decode cX2_nth 7 = .ok (.iload_n 3, 1) := by decide +kernel
theorem dX2_nth_8 : decode cX2_nth 8 = .ok (.iload_n 1, 1) := by decide +kernel
theorem dX2_nth_9 : decode cX2_nth 9 = .ok (.if_icmp .ge 18, 3) := by decide +kernel
theorem dX2_nth_12 : decode cX2_nth 12 = .ok (.aload_n 2, 1) := by decide +kernel
theorem dX2_nth_13 : decode cX2_nth 13 = .ok (.ifnull 14, 3) := by decide +kernel
theorem dX2_nth_16 : decode cX2_nth 16 = .ok (.aload_n 2, 1) := by decide +kernel
theorem dX2_nth_17 : decode cX2_nth 17 = .ok (.getfield 19, 3) := by decide +kernel
theorem dX2_nth_20 : decode cX2_nth 20 = .ok (.astore_n 2, 1) := by decide +kernel
theorem dX2_nth_21 : decode cX2_nth 21 = .ok (.iinc 3 1, 3) := by decide +kernel
theorem dX2_nth_24 : decode cX2_nth 24 = .ok (.goto (-17), 3) := by decide +kernel
theorem dX2_nth_27 : decode cX2_nth 27 = .ok (.aload_n 2, 1) := by decide +kernel
theorem dX2_nth_28 : decode cX2_nth 28 = .ok (.areturn, 1) := by decide +kernel
theorem dX2_length_0 : decode cX2_length 0 = .ok (.iconst 0, 1) := by decide +kernel
theorem dX2_length_1 : decode cX2_length 1 = .ok (.istore_n 1, 1) := by decide +kernel
theorem dX2_length_2 : decode cX2_length 2 = .ok (.aload_n 0, 1) := by decide +kernel
theorem dX2_length_3 : decode cX2_length 3 = .ok (.getfield 15, 3) := by decide +kernel
theorem dX2_length_6 : decode cX2_length 6 = .ok (.astore_n 2, 1) := by decide +kernel
theorem dX2_length_7 : decode cX2_length 7 = .ok (.aload_n 2, 1) := by decide +kernel
theorem dX2_length_8 : decode cX2_length 8 = .ok (.ifnull 14, 3) := by decide +kernel
theorem dX2_length_11 : decode cX2_length 11 = .ok (.iinc 1 1, 3) := by decide +kernel
theorem dX2_length_14 : decode cX2_length 14 = .ok (.aload_n 2, 1) := by decide +kernel
theorem dX2_length_15 : decode cX2_length 15 = .ok (.getfield 19, 3) := by decide +kernel
theorem dX2_length_18 : decode cX2_length 18 = .ok (.astore_n 2, 1) := by decide +kernel
theorem dX2_length_19 : decode cX2_length 19 = .ok (.goto (-12), 3) := by decide +kernel
theorem dX2_length_22 : decode cX2_length 22 = .ok (.iload_n 1, 1) := by decide +kernel
theorem dX2_length_23 : decode cX2_length 23 = .ok (.ireturn, 1) := by decide +kernel
theorem dX3_init_0 : decode cX3_init 0 = .ok (.aload_n 0, 1) := by decide +kernel
theorem dX3_init_1 : decode cX3_init 1 = .ok (.invokespecial 3, 3) := by decide +kernel
theorem dX3_init_4 : decode cX3_init 4 = .ok (.aload_n 0, 1) := by decide +kernel
theorem dX3_init_5 : decode cX3_init 5 = .ok (.iconst (-1), 1) := by decide +kernel
theorem dX3_init_6 : decode cX3_init 6 = .ok (.putfield 9, 3) := by decide +kernel
theorem dX3_init_9 : decode cX3_init 9 = .ok (.aload_n 0, 1) := by decide +kernel
theorem dX3_init_10 : decode cX3_init 10 = .ok (.iload_n 1, 1) := by decide +kernel
theorem dX3_init_11 : decode cX3_init 11 = .ok (.putfield 15, 3) := by decide +kernel
theorem dX3_init_14 : decode cX3_init 14 = .ok (.aload_n 0, 1) := by decide +kernel
theorem dX3_init_15 : decode cX3_init 15 = .ok (.iload_n 2, 1) := by decide +kernel
theorem dX3_init_16 : decode cX3_init 16 = .ok (.putfield 18, 3) := by decide +kernel
theorem dX3_init_19 : decode cX3_init 19 = .ok (.aload_n 0, 1) := by decide +kernel
theorem dX3_init_20 : decode cX3_init 20 = .ok (.iload_n 3, 1) := by decide +kernel
theorem dX3_init_21 : decode cX3_init 21 = .ok (.putfield 21, 3) := by decide +kernel
theorem dX3_init_24 : decode cX3_init 24 = .ok (.return_, 1) := by decide +kernel
set_option maxRecDepth 20000 in
theorem ggX4_init_X2_init : GoodIn wsX4_init wsX2_init := goodIn_r _ [19, 20, 2, 3, 21, 40, 41] (by decide +kernel) (by decide +kernel)
set_option maxRecDepth 20000 in
theorem gX4_init_X2_init_n33 : GoodIn wsX4_init (wsX2_init) := ggX4_init_X2_init
set_option maxRecDepth 20000 in
theorem ggX4_init_X0_init : GoodIn wsX4_init wsX0_init := goodIn_r _ [23, 24, 2, 3, 25, 26, 42, 43, 44, 45] (by decide +kernel) (by decide +kernel)
set_option maxRecDepth 20000 in
theorem gX4_init_X0_init_n34 : GoodIn wsX4_init (wsX0_init) := ggX4_init_X0_init
set_option maxRecDepth 20000 in
theorem ggX4_init_X1_init : GoodIn wsX4_init wsX1_init := goodIn_r _ [28, 29, 2, 3, 30, 31, 46, 47, 48, 49] (by decide +kernel) (by decide +kernel)
set_option maxRecDepth 20000 in
theorem gX4_init_X1_init_n35 : GoodIn wsX4_init (wsX1_init) := ggX4_init_X1_init
theorem dX4_init_0 : decode cX4_init 0 = .ok (.aload_n 0, 1) := by decide +kernel
theorem dX4_init_1 : decode cX4_init 1 = .ok (.invokespecial 1, 3) := by decide +kernel
theorem dX4_init_4 : decode cX4_init 4 = .ok (.aload_n 0, 1) := by decide +kernel
theorem dX4_init_5 : decode cX4_init 5 = .ok (.bipush 40, 2) := by decide +kernel
theorem dX4_init_7 : decode cX4_init 7 = .ok (.anewarray 9, 3) := by decide +kernel
theorem dX4_init_10 : decode cX4_init 10 = .ok (.putfield 11, 3) := by decide +kernel
theorem dX4_init_13 : decode cX4_init 13 = .ok (.aload_n 0, 1) := by decide +kernel
theorem dX4_init_14 : decode cX4_init 14 = .ok (.bipush 6, 2) := by decide +kernel
theorem dX4_init_16 : decode cX4_init 16 = .ok (.anewarray 15, 3) := by decide +kernel
theorem dX4_init_19 : decode cX4_init 19 = .ok (.putfield 17, 3) := by decide +kernel
theorem dX4_init_22 : decode cX4_init 22 = .ok (.aload_n 0, 1) := by decide +kernel
theorem dX4_init_23 : decode cX4_init 23 = .ok (.iconst 4, 1) := by decide +kernel
theorem dX4_init_24 : decode cX4_init 24 = .ok (.anewarray 21, 3) := by decide +kernel
theorem dX4_init_27 : decode cX4_init 27 = .ok (.putfield 23, 3) := by decide +kernel
theorem dX4_init_30 : decode cX4_init 30 = .ok (.aload_n 0, 1) := by decide +kernel
theorem dX4_init_31 : decode cX4_init 31 = .ok (.iconst 2, 1) := by decide +kernel
theorem dX4_init_32 : decode cX4_init 32 = .ok (.anewarray 27, 3) := by decide +kernel
theorem dX4_init_35 : decode cX4_init 35 = .ok (.putfield 29, 3) := by decide +kernel
theorem dX4_init_38 : decode cX4_init 38 = .ok (.iconst 0, 1) := by decide +kernel
theorem dX4_init_39 : decode cX4_init 39 = .ok (.istore_n 1, 1) := by decide +kernel
theorem dX4_init_40 : decode cX4_init 40 = .ok (.iload_n 1, 1) := by decide +kernel
theorem dX4_init_41 : decode cX4_init 41 = .ok (.bipush 6, 2) := by decide +kernel
theorem dX4_init_43 : decode cX4_init 43 = .ok (.if_icmp .ge 22, 3) := by decide +kernel
theorem dX4_init_46 : decode cX4_init 46 = .ok (.aload_n 0, 1) := by decide +kernel
theorem dX4_init_47 : decode cX4_init 47 = .ok (.getfield 17, 3) := by decide +kernel
theorem dX4_init_50 : decode cX4_init 50 = .ok (.iload_n 1, 1) := by decide +kernel
theorem dX4_init_51 : decode cX4_init 51 = .ok (.new 15, 3) := by decide +kernel
theorem dX4_init_54 : decode cX4_init 54 = .ok (.dup, 1) := by decide +kernel
theorem dX4_init_55 : decode cX4_init 55 = .ok (.invokespecial 33, 3) := by decide +kernel
theorem dX4_init_58 : decode cX4_init 58 = .ok (.aastore, 1) := by decide +kernel
theorem dX4_init_59 : decode cX4_init 59 = .ok (.iinc 1 1, 3) := by decide +kernel
theorem dX4_init_62 : decode cX4_init 62 = .ok (.goto (-22), 3) := by decide +kernel
theorem dX4_init_65 : decode cX4_init 65 = .ok (.iconst 0, 1) := by decide +kernel
theorem dX4_init_66 : decode cX4_init 66 = .ok (.istore_n 1, 1) := by decide +kernel
theorem dX4_init_67 : decode cX4_init 67 = .ok (.iload_n 1, 1) := by decide +kernel
theorem dX4_init_68 : decode cX4_init 68 = .ok (.iconst 4, 1) := by decide +kernel
theorem dX4_init_69 : decode cX4_init 69 = .ok (.if_icmp .ge 22, 3) := by decide +kernel
theorem dX4_init_72 : decode cX4_init 72 = .ok (.aload_n 0, 1) := by decide +kernel
theorem dX4_init_73 : decode cX4_init 73 = .ok (.getfield 23, 3) := by decide +kernel
theorem dX4_init_76 : decode cX4_init 76 = .ok (.iload_n 1, 1) := by decide +kernel
theorem dX4_init_77 : decode cX4_init 77 = .ok (.new 21, 3) := by decide +kernel
theorem dX4_init_80 : decode cX4_init 80 = .ok (.dup, 1) := by decide +kernel
theorem dX4_init_81 : decode cX4_init 81 = .ok (.invokespecial 34, 3) := by decide +kernel
theorem dX4_init_84 : decode cX4_init 84 = .ok (.aastore, 1) := by decide +kernel
theorem dX4_init_85 : decode cX4_init 85 = .ok (.iinc 1 1, 3) := by decide +kernel
theorem dX4_init_88 : decode cX4_init 88 = .ok (.goto (-21), 3) := by decide +kernel
theorem dX4_init_91 : decode cX4_init 91 = .ok (.iconst 0, 1) := by decide +kernel
theorem dX4_init_92 : decode cX4_init 92 = .ok (.istore_n 1, 1) := by decide +kernel
theorem dX4_init_93 : decode cX4_init 93 = .ok (.iload_n 1, 1) := by decide +kernel
theorem dX4_init_94 : decode cX4_init 94 = .ok (.iconst 2, 1) := by decide +kernel
theorem dX4_init_95 : decode cX4_init 95 = .ok (.if_icmp .ge 22, 3) := by decide +kernel
theorem dX4_init_98 : decode cX4_init 98 = .ok (.aload_n 0, 1) := by decide +kernel
theorem dX4_init_99 : decode cX4_init 99 = .ok (.getfield 29, 3) := by decide +kernel
theorem dX4_init_102 : decode cX4_init 102 = .ok (.iload_n 1, 1) := by decide +kernel
theorem dX4_init_103 : decode cX4_init 103 = .ok (.new 27, 3) := by decide +kernel
theorem dX4_init_106 : decode cX4_init 106 = .ok (.dup, 1) := by decide +kernel
theorem dX4_init_107 : decode cX4_init 107 = .ok (.invokespecial 35, 3) := by decide +kernel
theorem dX4_init_110 : decode cX4_init 110 = .ok (.aastore, 1) := by decide +kernel
theorem dX4_init_111 : decode cX4_init 111 = .ok (.iinc 1 1, 3) := by decide +kernel
theorem dX4_init_114 : decode cX4_init 114 = .ok (.goto (-21), 3) := by decide +kernel
theorem dX4_init_117 : decode cX4_init 117 = .ok (.return_, 1) := by decide +kernel
set_option maxRecDepth 20000 in
theorem ggX4_wagon_X4_isKind : GoodIn wsX4_wagon wsX4_isKind := goodIn_r _ [9] (by decide +kernel) (by decide +kernel)
set_option maxRecDepth 20000 in
theorem gX4_wagon_X4_isKind : GoodIn wsX4_wagon (va_wsS RX4 36 yX4_isKind wsX4_isKind) := goodIn_app (goodIn_of _ (by decide +kernel)) ggX4_wagon_X4_isKind
set_option maxRecDepth 20000 in
theorem ggX4_wagon_X3_init : GoodIn wsX4_wagon wsX3_init := goodIn_r _ [12, 13, 14, 15, 16, 17, 18, 19, 28, 29, 30, 31, 32, 33] (by decide +kernel) (by decide +kernel)
set_option maxRecDepth 20000 in
theorem gX4_wagon_X3_init : GoodIn wsX4_wagon (wsX3_init) := ggX4_wagon_X3_init
theorem dX4_wagon_0 : decode cX4_wagon 0 = .ok (.iload_n 1, 1) := by decide +kernel
theorem dX4_wagon_1 : decode cX4_wagon 1 = .ok (.invokestatic 36, 3) := by decide +kernel
theorem dX4_wagon_4 : decode cX4_wagon 4 = .ok (.ifCond .ne 6, 3) := by decide +kernel
theorem dX4_wagon_7 : decode cX4_wagon 7 = .ok (.bipush (-102), 2) := by decide +kernel
theorem dX4_wagon_9 : decode cX4_wagon 9 = .ok (.ireturn, 1) := by decide +kernel
theorem dX4_wagon_10 : decode cX4_wagon 10 = .ok (.aload_n 0, 1) := by decide +kernel
theorem dX4_wagon_11 : decode cX4_wagon 11 = .ok (.getfield 40, 3) := by decide +kernel
theorem dX4_wagon_14 : decode cX4_wagon 14 = .ok (.aload_n 0, 1) := by decide +kernel
theorem dX4_wagon_15 : decode cX4_wagon 15 = .ok (.getfield 11, 3) := by decide +kernel
theorem dX4_wagon_18 : decode cX4_wagon 18 = .ok (.arraylength, 1) := by decide +kernel
theorem dX4_wagon_19 : decode cX4_wagon 19 = .ok (.if_icmp .lt 6, 3) := by decide +kernel
theorem dX4_wagon_22 : decode cX4_wagon 22 = .ok (.bipush (-104), 2) := by decide +kernel
theorem dX4_wagon_24 : decode cX4_wagon 24 = .ok (.ireturn, 1) := by decide +kernel
theorem dX4_wagon_25 : decode cX4_wagon 25 = .ok (.aload_n 0, 1) := by decide +kernel
theorem dX4_wagon_26 : decode cX4_wagon 26 = .ok (.getfield 40, 3) := by decide +kernel
theorem dX4_wagon_29 : decode cX4_wagon 29 = .ok (.istore_n 3, 1) := by decide +kernel
theorem dX4_wagon_30 : decode cX4_wagon 30 = .ok (.aload_n 0, 1) := by decide +kernel
theorem dX4_wagon_31 : decode cX4_wagon 31 = .ok (.getfield 11, 3) := by decide +kernel
theorem dX4_wagon_34 : decode cX4_wagon 34 = .ok (.iload_n 3, 1) := by decide +kernel
theorem dX4_wagon_35 : decode cX4_wagon 35 = .ok (.new 9, 3) := by decide +kernel
theorem dX4_wagon_38 : decode cX4_wagon 38 = .ok (.dup, 1) := by decide +kernel
theorem dX4_wagon_39 : decode cX4_wagon 39 = .ok (.iload_n 3, 1) := by decide +kernel
theorem dX4_wagon_40 : decode cX4_wagon 40 = .ok (.iload_n 1, 1) := by decide +kernel
theorem dX4_wagon_41 : decode cX4_wagon 41 = .ok (.iload_n 2, 1) := by decide +kernel
theorem dX4_wagon_42 : decode cX4_wagon 42 = .ok (.invokespecial 44, 3) := by decide +kernel
theorem dX4_wagon_45 : decode cX4_wagon 45 = .ok (.aastore, 1) := by decide +kernel
theorem dX4_wagon_46 : decode cX4_wagon 46 = .ok (.aload_n 0, 1) := by decide +kernel
theorem dX4_wagon_47 : decode cX4_wagon 47 = .ok (.dup, 1) := by decide +kernel
theorem dX4_wagon_48 : decode cX4_wagon 48 = .ok (.getfield 40, 3) := by decide +kernel
theorem dX4_wagon_51 : decode cX4_wagon 51 = .ok (.iconst 1, 1) := by decide +kernel
theorem dX4_wagon_52 : decode cX4_wagon 52 = .ok (.iadd, 1) := by decide +kernel
theorem dX4_wagon_53 : decode cX4_wagon 53 = .ok (.putfield 40, 3) := by decide +kernel
theorem dX4_wagon_56 : decode cX4_wagon 56 = .ok (.iload_n 3, 1) := by decide +kernel
theorem dX4_wagon_57 : decode cX4_wagon 57 = .ok (.ireturn, 1) := by decide +kernel
set_option maxRecDepth 20000 in
theorem ggX4_couple_X4_findWagon : GoodIn wsX4_couple wsX4_findWagon := goodIn_r _ [8, 9, 19, 20, 21, 22, 23, 24, 25, 26] (by decide +kernel) (by decide +kernel)
set_option maxRecDepth 20000 in
theorem gX4_couple_X4_findWagon : GoodIn wsX4_couple (wsV RX4 47 RX4 yX4_findWagon wsX4_findWagon) := goodIn_app (goodIn_of _ (by decide +kernel)) ggX4_couple_X4_findWagon
set_option maxRecDepth 20000 in
theorem ggX4_couple_X4_isAtOrBehind : GoodIn wsX4_couple wsX4_isAtOrBehind := goodIn_r _ [12, 1, 13, 14, 15, 16, 17, 18] (by decide +kernel) (by decide +kernel)
set_option maxRecDepth 20000 in
theorem gX4_couple_X4_isAtOrBehind : GoodIn wsX4_couple (va_wsS RX4 62 yX4_isAtOrBehind wsX4_isAtOrBehind) := goodIn_app (goodIn_of _ (by decide +kernel)) ggX4_couple_X4_isAtOrBehind
theorem dX4_couple_0 : decode cX4_couple 0 = .ok (.aload_n 0, 1) := by decide +kernel
theorem dX4_couple_1 : decode cX4_couple 1 = .ok (.iload_n 1, 1) := by decide +kernel
theorem dX4_couple_2 : decode cX4_couple 2 = .ok (.invokevirtual 47, 3) := by decide +kernel
theorem dX4_couple_5 : decode cX4_couple 5 = .ok (.astore_n 3, 1) := by decide +kernel
theorem dX4_couple_6 : decode cX4_couple 6 = .ok (.aload_n 0, 1) := by decide +kernel
theorem dX4_couple_7 : decode cX4_couple 7 = .ok (.iload_n 2, 1) := by decide +kernel
theorem dX4_couple_8 : decode cX4_couple 8 = .ok (.invokevirtual 47, 3) := by decide +kernel
theorem dX4_couple_11 : decode cX4_couple 11 = .ok (.astore 4, 2) := by decide +kernel
theorem dX4_couple_13 : decode cX4_couple 13 = .ok (.aload_n 3, 1) := by decide +kernel
theorem dX4_couple_14 : decode cX4_couple 14 = .ok (.ifnull 8, 3) := by decide +kernel
theorem dX4_couple_17 : decode cX4_couple 17 = .ok (.aload 4, 2) := by decide +kernel
theorem dX4_couple_19 : decode cX4_couple 19 = .ok (.ifnonnull 6, 3) := by decide +kernel
theorem dX4_couple_22 : decode cX4_couple 22 = .ok (.bipush (-101), 2) := by decide +kernel
theorem dX4_couple_24 : decode cX4_couple 24 = .ok (.ireturn, 1) := by decide +kernel
theorem dX4_couple_25 : decode cX4_couple 25 = .ok (.aload_n 3, 1) := by decide +kernel
theorem dX4_couple_26 : decode cX4_couple 26 = .ok (.getfield 51, 3) := by decide +kernel
theorem dX4_couple_29 : decode cX4_couple 29 = .ok (.ifnonnull 29, 3) := by decide +kernel
theorem dX4_couple_32 : decode cX4_couple 32 = .ok (.aload 4, 2) := by decide +kernel
theorem dX4_couple_34 : decode cX4_couple 34 = .ok (.getfield 55, 3) := by decide +kernel
theorem dX4_couple_37 : decode cX4_couple 37 = .ok (.ifCond .ne 21, 3) := by decide +kernel
theorem dX4_couple_40 : decode cX4_couple 40 = .ok (.aload 4, 2) := by decide +kernel
theorem dX4_couple_42 : decode cX4_couple 42 = .ok (.getfield 59, 3) := by decide +kernel
theorem dX4_couple_45 : decode cX4_couple 45 = .ok (.iconst (-1), 1) := by decide +kernel
theorem dX4_couple_46 : decode cX4_couple 46 = .ok (.if_icmp .ne 12, 3) := by decide +kernel
theorem dX4_couple_49 : decode cX4_couple 49 = .ok (.aload_n 3, 1) := by decide +kernel
theorem dX4_couple_50 : decode cX4_couple 50 = .ok (.aload 4, 2) := by decide +kernel
theorem dX4_couple_52 : decode cX4_couple 52 = .ok (.invokestatic 62, 3) := by decide +kernel
theorem dX4_couple_55 : decode cX4_couple 55 = .ok (.ifCond .eq 6, 3) := by decide +kernel
theorem dX4_couple_58 : decode cX4_couple 58 = .ok (.bipush (-103), 2) := by decide +kernel
theorem dX4_couple_60 : decode cX4_couple 60 = .ok (.ireturn, 1) := by decide +kernel
theorem dX4_couple_61 : decode cX4_couple 61 = .ok (.aload_n 3, 1) := by decide +kernel
theorem dX4_couple_62 : decode cX4_couple 62 = .ok (.aload 4, 2) := by decide +kernel
theorem dX4_couple_64 : decode cX4_couple 64 = .ok (.putfield 51, 3) := by decide +kernel
theorem dX4_couple_67 : decode cX4_couple 67 = .ok (.aload 4, 2) := by decide +kernel
theorem dX4_couple_69 : decode cX4_couple 69 = .ok (.iconst 1, 1) := by decide +kernel
theorem dX4_couple_70 : decode cX4_couple 70 = .ok (.putfield 55, 3) := by decide +kernel
theorem dX4_couple_73 : decode cX4_couple 73 = .ok (.iconst 1, 1) := by decide +kernel
theorem dX4_couple_74 : decode cX4_couple 74 = .ok (.ireturn, 1) := by decide +kernel
set_option maxRecDepth 20000 in
theorem ggX4_stand_X4_findTrack : GoodIn wsX4_stand wsX4_findTrack := goodIn_r _ [8, 9, 27, 28, 29, 30, 31, 32, 33, 34] (by decide +kernel) (by decide +kernel)
set_option maxRecDepth 20000 in
theorem gX4_stand_X4_findTrack : GoodIn wsX4_stand (wsV RX4 66 RX4 yX4_findTrack wsX4_findTrack) := goodIn_app (goodIn_of _ (by decide +kernel)) ggX4_stand_X4_findTrack
set_option maxRecDepth 20000 in
theorem ggX4_stand_X4_findWagon : GoodIn wsX4_stand wsX4_findWagon := goodIn_r _ [13, 14, 27, 28, 29, 30, 31, 32, 33, 34] (by decide +kernel) (by decide +kernel)
set_option maxRecDepth 20000 in
theorem gX4_stand_X4_findWagon : GoodIn wsX4_stand (wsV RX4 47 RX4 yX4_findWagon wsX4_findWagon) := goodIn_app (goodIn_of _ (by decide +kernel)) ggX4_stand_X4_findWagon
set_option maxRecDepth 20000 in
theorem ggX4_stand_X4_numberOf : GoodIn wsX4_stand wsX4_numberOf := goodIn_r _ [17, 18, 19, 20, 21, 22, 23, 24] (by decide +kernel) (by decide +kernel)
set_option maxRecDepth 20000 in
theorem gX4_stand_X4_numberOf : GoodIn wsX4_stand (va_wsS RX4 73 yX4_numberOf wsX4_numberOf) := goodIn_app (goodIn_of _ (by decide +kernel)) ggX4_stand_X4_numberOf
theorem dX4_stand_0 : decode cX4_stand 0 = .ok (.aload_n 0, 1) := by decide +kernel
theorem dX4_stand_1 : decode cX4_stand 1 = .ok (.iload_n 1, 1) := by decide +kernel
theorem dX4_stand_2 : decode cX4_stand 2 = .ok (.invokevirtual 66, 3) := by decide +kernel
theorem dX4_stand_5 : decode cX4_stand 5 = .ok (.astore_n 3, 1) := by decide +kernel
theorem dX4_stand_6 : decode cX4_stand 6 = .ok (.aload_n 0, 1) := by decide +kernel
theorem dX4_stand_7 : decode cX4_stand 7 = .ok (.iload_n 2, 1) := by decide +kernel
theorem dX4_stand_8 : decode cX4_stand 8 = .ok (.invokevirtual 47, 3) := by decide +kernel
theorem dX4_stand_11 : decode cX4_stand 11 = .ok (.astore 4, 2) := by decide +kernel
theorem dX4_stand_13 : decode cX4_stand 13 = .ok (.aload_n 3, 1) := by decide +kernel
theorem dX4_stand_14 : decode cX4_stand 14 = .ok (.ifnull 13, 3) := by decide +kernel
theorem dX4_stand_17 : decode cX4_stand 17 = .ok (.aload 4, 2) := by decide +kernel
theorem dX4_stand_19 : decode cX4_stand 19 = .ok (.ifnonnull 11, 3) := by decide +kernel
theorem dX4_stand_22 : decode cX4_stand 22 = .ok (.iload_n 2, 1) := by decide +kernel
theorem dX4_stand_23 : decode cX4_stand 23 = .ok (.iconst (-1), 1) := by decide +kernel
theorem dX4_stand_24 : decode cX4_stand 24 = .ok (.if_icmp .eq 6, 3) := by decide +kernel
theorem dX4_stand_27 : decode cX4_stand 27 = .ok (.bipush (-101), 2) := by decide +kernel
theorem dX4_stand_29 : decode cX4_stand 29 = .ok (.ireturn, 1) := by decide +kernel
theorem dX4_stand_30 : decode cX4_stand 30 = .ok (.aload 4, 2) := by decide +kernel
theorem dX4_stand_32 : decode cX4_stand 32 = .ok (.ifnull 23, 3) := by decide +kernel
theorem dX4_stand_35 : decode cX4_stand 35 = .ok (.aload 4, 2) := by decide +kernel
theorem dX4_stand_37 : decode cX4_stand 37 = .ok (.getfield 55, 3) := by decide +kernel
theorem dX4_stand_40 : decode cX4_stand 40 = .ok (.ifCond .ne 12, 3) := by decide +kernel
theorem dX4_stand_43 : decode cX4_stand 43 = .ok (.aload 4, 2) := by decide +kernel
theorem dX4_stand_45 : decode cX4_stand 45 = .ok (.getfield 59, 3) := by decide +kernel
theorem dX4_stand_48 : decode cX4_stand 48 = .ok (.iconst (-1), 1) := by decide +kernel
theorem dX4_stand_49 : decode cX4_stand 49 = .ok (.if_icmp .eq 6, 3) := by decide +kernel
theorem dX4_stand_52 : decode cX4_stand 52 = .ok (.bipush (-103), 2) := by decide +kernel
theorem dX4_stand_54 : decode cX4_stand 54 = .ok (.ireturn, 1) := by decide +kernel
theorem dX4_stand_55 : decode cX4_stand 55 = .ok (.aload_n 3, 1) := by decide +kernel
theorem dX4_stand_56 : decode cX4_stand 56 = .ok (.getfield 70, 3) := by decide +kernel
theorem dX4_stand_59 : decode cX4_stand 59 = .ok (.astore 5, 2) := by decide +kernel
theorem dX4_stand_61 : decode cX4_stand 61 = .ok (.aload 5, 2) := by decide +kernel
theorem dX4_stand_63 : decode cX4_stand 63 = .ok (.ifnull 9, 3) := by decide +kernel
theorem dX4_stand_66 : decode cX4_stand 66 = .ok (.aload 5, 2) := by decide +kernel
theorem dX4_stand_68 : decode cX4_stand 68 = .ok (.iconst (-1), 1) := by decide +kernel
theorem dX4_stand_69 : decode cX4_stand 69 = .ok (.putfield 59, 3) := by decide +kernel
theorem dX4_stand_72 : decode cX4_stand 72 = .ok (.aload 4, 2) := by decide +kernel
theorem dX4_stand_74 : decode cX4_stand 74 = .ok (.ifnull 9, 3) := by decide +kernel
theorem dX4_stand_77 : decode cX4_stand 77 = .ok (.aload 4, 2) := by decide +kernel
theorem dX4_stand_79 : decode cX4_stand 79 = .ok (.iload_n 1, 1) := by decide +kernel
theorem dX4_stand_80 : decode cX4_stand 80 = .ok (.putfield 59, 3) := by decide +kernel
theorem dX4_stand_83 : decode cX4_stand 83 = .ok (.aload_n 3, 1) := by decide +kernel
theorem dX4_stand_84 : decode cX4_stand 84 = .ok (.aload 4, 2) := by decide +kernel
theorem dX4_stand_86 : decode cX4_stand 86 = .ok (.putfield 70, 3) := by decide +kernel
theorem dX4_stand_89 : decode cX4_stand 89 = .ok (.aload 5, 2) := by decide +kernel
theorem dX4_stand_91 : decode cX4_stand 91 = .ok (.invokestatic 73, 3) := by decide +kernel
theorem dX4_stand_94 : decode cX4_stand 94 = .ok (.ireturn, 1) := by decide +kernel
set_option maxRecDepth 20000 in
theorem ggX4_signal_X4_findTrack : GoodIn wsX4_signal wsX4_findTrack := goodIn_r _ [6, 7, 10, 11, 12, 13, 14, 15, 16, 17] (by decide +kernel) (by decide +kernel)
set_option maxRecDepth 20000 in
theorem gX4_signal_X4_findTrack : GoodIn wsX4_signal (wsV RX4 66 RX4 yX4_findTrack wsX4_findTrack) := goodIn_app (goodIn_of _ (by decide +kernel)) ggX4_signal_X4_findTrack
theorem dX4_signal_0 : decode cX4_signal 0 = .ok (.aload_n 0, 1) := by decide +kernel
theorem dX4_signal_1 : decode cX4_signal 1 = .ok (.iload_n 1, 1) := by decide +kernel
theorem dX4_signal_2 : decode cX4_signal 2 = .ok (.invokevirtual 66, 3) := by decide +kernel
theorem dX4_signal_5 : decode cX4_signal 5 = .ok (.astore_n 3, 1) := by decide +kernel
theorem dX4_signal_6 : decode cX4_signal 6 = .ok (.aload_n 3, 1) := by decide +kernel
theorem dX4_signal_7 : decode cX4_signal 7 = .ok (.ifnonnull 6, 3) := by decide +kernel
theorem dX4_signal_10 : decode cX4_signal 10 = .ok (.bipush (-101), 2) := by decide +kernel
theorem dX4_signal_12 : decode cX4_signal 12 = .ok (.ireturn, 1) := by decide +kernel
theorem dX4_signal_13 : decode cX4_signal 13 = .ok (.iload_n 2, 1) := by decide +kernel
theorem dX4_signal_14 : decode cX4_signal 14 = .ok (.iconst (-1), 1) := by decide +kernel
theorem dX4_signal_15 : decode cX4_signal 15 = .ok (.if_icmp .ge 6, 3) := by decide +kernel
theorem dX4_signal_18 : decode cX4_signal 18 = .ok (.bipush (-102), 2) := by decide +kernel
theorem dX4_signal_20 : decode cX4_signal 20 = .ok (.ireturn, 1) := by decide +kernel
theorem dX4_signal_21 : decode cX4_signal 21 = .ok (.aload_n 3, 1) := by decide +kernel
theorem dX4_signal_22 : decode cX4_signal 22 = .ok (.getfield 77, 3) := by decide +kernel
theorem dX4_signal_25 : decode cX4_signal 25 = .ok (.istore 4, 2) := by decide +kernel
theorem dX4_signal_27 : decode cX4_signal 27 = .ok (.aload_n 3, 1) := by decide +kernel
theorem dX4_signal_28 : decode cX4_signal 28 = .ok (.iload_n 2, 1) := by decide +kernel
theorem dX4_signal_29 : decode cX4_signal 29 = .ok (.putfield 77, 3) := by decide +kernel
theorem dX4_signal_32 : decode cX4_signal 32 = .ok (.iload 4, 2) := by decide +kernel
theorem dX4_signal_34 : decode cX4_signal 34 = .ok (.ireturn, 1) := by decide +kernel
set_option maxRecDepth 20000 in
theorem ggX4_wagonAt_X4_reach : GoodIn wsX4_wagonAt wsX4_reach := goodIn_r _ [6, 7, 8, 9, 5, 10, 11, 12, 13, 14, 15, 16, 17, 18, 19, 20, 21, 22, 23, 24, 25, 26, 27, 28, 47, 48, 49, 50, 51, 52, 53, 54, 55, 56, 41, 42, 43, 44, 45, 46] (by decide +kernel) (by decide +kernel)
set_option maxRecDepth 20000 in
theorem gX4_wagonAt_X4_reach : GoodIn wsX4_wagonAt (wsV RX4 80 RX4 yX4_reach wsX4_reach) := goodIn_app (goodIn_of _ (by decide +kernel)) ggX4_wagonAt_X4_reach
set_option maxRecDepth 20000 in
theorem ggX4_wagonAt_X4_answerUnreached : GoodIn wsX4_wagonAt wsX4_answerUnreached := goodIn_r _ [32, 7, 8, 9, 5, 10, 11, 12, 13, 14, 33, 34, 35, 18, 36, 20, 21, 37, 38, 39, 40, 22, 23, 24, 25, 26, 27, 28, 47, 48, 49, 50, 51, 52, 53, 54, 55, 56, 41, 42, 43, 44, 45, 46] (by decide +kernel) (by decide +kernel)
set_option maxRecDepth 20000 in
theorem gX4_wagonAt_X4_answerUnreached : GoodIn wsX4_wagonAt (wsV RX4 84 RX4 yX4_answerUnreached wsX4_answerUnreached) := goodIn_app (goodIn_of _ (by decide +kernel)) ggX4_wagonAt_X4_answerUnreached
theorem dX4_wagonAt_0 : decode cX4_wagonAt 0 = .ok (.aload_n 0, 1) := by decide +kernel
theorem dX4_wagonAt_1 : decode cX4_wagonAt 1 = .ok (.iload_n 1, 1) := by decide +kernel
theorem dX4_wagonAt_2 : decode cX4_wagonAt 2 = .ok (.iload_n 2, 1) := by decide +kernel
theorem dX4_wagonAt_3 : decode cX4_wagonAt 3 = .ok (.invokevirtual 80, 3) := by decide +kernel
theorem dX4_wagonAt_6 : decode cX4_wagonAt 6 = .ok (.astore_n 3, 1) := by decide +kernel
theorem dX4_wagonAt_7 : decode cX4_wagonAt 7 = .ok (.aload_n 3, 1) := by decide +kernel
theorem dX4_wagonAt_8 : decode cX4_wagonAt 8 = .ok (.ifnonnull 12, 3) := by decide +kernel
theorem dX4_wagonAt_11 : decode cX4_wagonAt 11 = .ok (.aload_n 0, 1) := by decide +kernel
theorem dX4_wagonAt_12 : decode cX4_wagonAt 12 = .ok (.iload_n 1, 1) := by decide +kernel
theorem dX4_wagonAt_13 : decode cX4_wagonAt 13 = .ok (.iload_n 2, 1) := by decide +kernel
theorem dX4_wagonAt_14 : decode cX4_wagonAt 14 = .ok (.invokevirtual 84, 3) := by decide +kernel
theorem dX4_wagonAt_17 : decode cX4_wagonAt 17 = .ok (.goto 7, 3) := by decide +kernel
theorem dX4_wagonAt_20 : decode cX4_wagonAt 20 = .ok (.aload_n 3, 1) := by decide +kernel
theorem dX4_wagonAt_21 : decode cX4_wagonAt 21 = .ok (.getfield 88, 3) := by decide +kernel
theorem dX4_wagonAt_24 : decode cX4_wagonAt 24 = .ok (.ireturn, 1) := by decide +kernel
set_option maxRecDepth 20000 in
theorem ggX4_load_X4_reach : GoodIn wsX4_load wsX4_reach := goodIn_r _ [6, 7, 8, 9, 5, 10, 11, 12, 13, 14, 15, 16, 17, 18, 19, 20, 21, 22, 23, 24, 25, 26, 27, 28, 47, 48, 49, 50, 51, 52, 53, 54, 55, 56, 41, 42, 43, 44, 45, 46] (by decide +kernel) (by decide +kernel)
set_option maxRecDepth 20000 in
theorem gX4_load_X4_reach : GoodIn wsX4_load (wsV RX4 80 RX4 yX4_reach wsX4_reach) := goodIn_app (goodIn_of _ (by decide +kernel)) ggX4_load_X4_reach
set_option maxRecDepth 20000 in
theorem ggX4_load_X4_answerUnreached : GoodIn wsX4_load wsX4_answerUnreached := goodIn_r _ [32, 7, 8, 9, 5, 10, 11, 12, 13, 14, 33, 34, 35, 18, 36, 20, 21, 37, 38, 39, 40, 22, 23, 24, 25, 26, 27, 28, 47, 48, 49, 50, 51, 52, 53, 54, 55, 56, 41, 42, 43, 44, 45, 46] (by decide +kernel) (by decide +kernel)
set_option maxRecDepth 20000 in
theorem gX4_load_X4_answerUnreached : GoodIn wsX4_load (wsV RX4 84 RX4 yX4_answerUnreached wsX4_answerUnreached) := goodIn_app (goodIn_of _ (by decide +kernel)) ggX4_load_X4_answerUnreached
theorem dX4_load_0 : decode cX4_load 0 = .ok (.aload_n 0, 1) := by decide +kernel
theorem dX4_load_1 : decode cX4_load 1 = .ok (.iload_n 1, 1) := by decide +kernel
theorem dX4_load_2 : decode cX4_load 2 = .ok (.iload_n 2, 1) := by decide +kernel
theorem dX4_load_3 : decode cX4_load 3 = .ok (.invokevirtual 80, 3) := by decide +kernel
theorem dX4_load_6 : decode cX4_load 6 = .ok (.astore 4, 2) := by decide +kernel
theorem dX4_load_8 : decode cX4_load 8 = .ok (.aload 4, 2) := by decide +kernel
theorem dX4_load_10 : decode cX4_load 10 = .ok (.ifnonnull 10, 3) := by decide +kernel
theorem dX4_load_13 : decode cX4_load 13 = .ok (.aload_n 0, 1) := by decide +kernel
theorem dX4_load_14 : decode cX4_load 14 = .ok (.iload_n 1, 1) := by decide +kernel
theorem dX4_load_15 : decode cX4_load 15 = .ok (.iload_n 2, 1) := by decide +kernel
theorem dX4_load_16 : decode cX4_load 16 = .ok (.invokevirtual 84, 3) := by decide +kernel
theorem dX4_load_19 : decode cX4_load 19 = .ok (.ireturn, 1) := by decide +kernel
theorem dX4_load_20 : decode cX4_load 20 = .ok (.aload 4, 2) := by decide +kernel
theorem dX4_load_22 : decode cX4_load 22 = .ok (.iload_n 3, 1) := by decide +kernel
theorem dX4_load_23 : decode cX4_load 23 = .ok (.putfield 91, 3) := by decide +kernel
theorem dX4_load_26 : decode cX4_load 26 = .ok (.iconst 1, 1) := by decide +kernel
theorem dX4_load_27 : decode cX4_load 27 = .ok (.ireturn, 1) := by decide +kernel
set_option maxRecDepth 20000 in
theorem ggX4_cut_X4_reach : GoodIn wsX4_cut wsX4_reach := goodIn_r _ [7, 8, 9, 10, 6, 11, 12, 13, 14, 15, 16, 17, 18, 19, 20, 21, 22, 23, 24, 25, 26, 27, 28, 29, 48, 49, 50, 51, 52, 53, 54, 55, 56, 57, 42, 43, 44, 45, 46, 47] (by decide +kernel) (by decide +kernel)
set_option maxRecDepth 20000 in
theorem gX4_cut_X4_reach : GoodIn wsX4_cut (wsV RX4 80 RX4 yX4_reach wsX4_reach) := goodIn_app (goodIn_of _ (by decide +kernel)) ggX4_cut_X4_reach
set_option maxRecDepth 20000 in
theorem ggX4_cut_X4_answerUnreached : GoodIn wsX4_cut wsX4_answerUnreached := goodIn_r _ [33, 8, 9, 10, 6, 11, 12, 13, 14, 15, 34, 35, 36, 19, 37, 21, 22, 38, 39, 40, 41, 23, 24, 25, 26, 27, 28, 29, 48, 49, 50, 51, 52, 53, 54, 55, 56, 57, 42, 43, 44, 45, 46, 47] (by decide +kernel) (by decide +kernel)
set_option maxRecDepth 20000 in
theorem gX4_cut_X4_answerUnreached : GoodIn wsX4_cut (wsV RX4 84 RX4 yX4_answerUnreached wsX4_answerUnreached) := goodIn_app (goodIn_of _ (by decide +kernel)) ggX4_cut_X4_answerUnreached
theorem dX4_cut_0 : decode cX4_cut 0 = .ok (.aload_n 0, 1) := by decide +kernel
theorem dX4_cut_1 : decode cX4_cut 1 = .ok (.iload_n 1, 1) := by decide +kernel
theorem dX4_cut_2 : decode cX4_cut 2 = .ok (.iload_n 2, 1) := by decide +kernel
theorem dX4_cut_3 : decode cX4_cut 3 = .ok (.invokevirtual 80, 3) := by decide +kernel
theorem dX4_cut_6 : decode cX4_cut 6 = .ok (.astore_n 3, 1) := by decide +kernel
theorem dX4_cut_7 : decode cX4_cut 7 = .ok (.aload_n 3, 1) := by decide +kernel
theorem dX4_cut_8 : decode cX4_cut 8 = .ok (.ifnonnull 10, 3) := by decide +kernel
theorem dX4_cut_11 : decode cX4_cut 11 = .ok (.aload_n 0, 1) := by decide +kernel
theorem dX4_cut_12 : decode cX4_cut 12 = .ok (.iload_n 1, 1) := by decide +kernel
theorem dX4_cut_13 : decode cX4_cut 13 = .ok (.iload_n 2, 1) := by decide +kernel
theorem dX4_cut_14 : decode cX4_cut 14 = .ok (.invokevirtual 84, 3) := by decide +kernel
theorem dX4_cut_17 : decode cX4_cut 17 = .ok (.ireturn, 1) := by decide +kernel
theorem dX4_cut_18 : decode cX4_cut 18 = .ok (.aload_n 3, 1) := by decide +kernel
theorem dX4_cut_19 : decode cX4_cut 19 = .ok (.getfield 51, 3) := by decide +kernel
theorem dX4_cut_22 : decode cX4_cut 22 = .ok (.ifnull 16, 3) := by decide +kernel
theorem dX4_cut_25 : decode cX4_cut 25 = .ok (.aload_n 3, 1) := by decide +kernel
theorem dX4_cut_26 : decode cX4_cut 26 = .ok (.getfield 51, 3) := by decide +kernel
theorem dX4_cut_29 : decode cX4_cut 29 = .ok (.iconst 0, 1) := by decide +kernel
theorem dX4_cut_30 : decode cX4_cut 30 = .ok (.putfield 55, 3) := by decide +kernel
theorem dX4_cut_33 : decode cX4_cut 33 = .ok (.aload_n 3, 1) := by decide +kernel
theorem dX4_cut_34 : decode cX4_cut 34 = .ok (.aconst_null, 1) := by decide +kernel
theorem dX4_cut_35 : decode cX4_cut 35 = .ok (.putfield 51, 3) := by decide +kernel
theorem dX4_cut_38 : decode cX4_cut 38 = .ok (.iconst 1, 1) := by decide +kernel
theorem dX4_cut_39 : decode cX4_cut 39 = .ok (.ireturn, 1) := by decide +kernel
set_option maxRecDepth 20000 in
theorem ggX4_hoot_X4_reach : GoodIn wsX4_hoot wsX4_reach := goodIn_r _ [5, 6, 7, 8, 4, 9, 10, 11, 12, 13, 14, 15, 16, 17, 18, 19, 20, 21, 22, 23, 24, 25, 26, 27, 45, 46, 47, 48, 49, 50, 51, 52, 53, 54, 55, 56, 57, 58, 59, 60] (by decide +kernel) (by decide +kernel)
set_option maxRecDepth 20000 in
theorem gX4_hoot_X4_reach : GoodIn wsX4_hoot (wsV RX4 80 RX4 yX4_reach wsX4_reach) := goodIn_app (goodIn_of _ (by decide +kernel)) ggX4_hoot_X4_reach
set_option maxRecDepth 20000 in
theorem ggX4_hoot_X4_answerUnreached : GoodIn wsX4_hoot wsX4_answerUnreached := goodIn_r _ [31, 6, 7, 8, 4, 9, 10, 11, 12, 13, 32, 33, 34, 17, 35, 19, 20, 36, 37, 38, 39, 21, 22, 23, 24, 25, 26, 27, 45, 46, 47, 48, 49, 50, 51, 52, 53, 54, 55, 56, 57, 58, 59, 60] (by decide +kernel) (by decide +kernel)
set_option maxRecDepth 20000 in
theorem gX4_hoot_X4_answerUnreached : GoodIn wsX4_hoot (wsV RX4 84 RX4 yX4_answerUnreached wsX4_answerUnreached) := goodIn_app (goodIn_of _ (by decide +kernel)) ggX4_hoot_X4_answerUnreached
set_option maxRecDepth 20000 in
theorem ggX4_hoot_X4_hootOf : GoodIn wsX4_hoot wsX4_hootOf := goodIn_r _ [42, 43, 44, 55, 56, 57, 58, 59, 60] (by decide +kernel) (by decide +kernel)
set_option maxRecDepth 20000 in
theorem gX4_hoot_X4_hootOf : GoodIn wsX4_hoot (va_wsS RX4 94 yX4_hootOf wsX4_hootOf) := goodIn_app (goodIn_of _ (by decide +kernel)) ggX4_hoot_X4_hootOf
theorem dX4_hoot_0 : decode cX4_hoot 0 = .ok (.aload_n 0, 1) := by decide +kernel
theorem dX4_hoot_1 : decode cX4_hoot 1 = .ok (.iload_n 1, 1) := by decide +kernel
theorem dX4_hoot_2 : decode cX4_hoot 2 = .ok (.iload_n 2, 1) := by decide +kernel
theorem dX4_hoot_3 : decode cX4_hoot 3 = .ok (.invokevirtual 80, 3) := by decide +kernel
theorem dX4_hoot_6 : decode cX4_hoot 6 = .ok (.astore_n 3, 1) := by decide +kernel
theorem dX4_hoot_7 : decode cX4_hoot 7 = .ok (.aload_n 3, 1) := by decide +kernel
theorem dX4_hoot_8 : decode cX4_hoot 8 = .ok (.ifnonnull 12, 3) := by decide +kernel
theorem dX4_hoot_11 : decode cX4_hoot 11 = .ok (.aload_n 0, 1) := by decide +kernel
theorem dX4_hoot_12 : decode cX4_hoot 12 = .ok (.iload_n 1, 1) := by decide +kernel
theorem dX4_hoot_13 : decode cX4_hoot 13 = .ok (.iload_n 2, 1) := by decide +kernel
theorem dX4_hoot_14 : decode cX4_hoot 14 = .ok (.invokevirtual 84, 3) := by decide +kernel
theorem dX4_hoot_17 : decode cX4_hoot 17 = .ok (.goto 7, 3) := by decide +kernel
theorem dX4_hoot_20 : decode cX4_hoot 20 = .ok (.aload_n 3, 1) := by decide +kernel
theorem dX4_hoot_21 : decode cX4_hoot 21 = .ok (.invokestatic 94, 3) := by decide +kernel
theorem dX4_hoot_24 : decode cX4_hoot 24 = .ok (.ireturn, 1) := by decide +kernel
set_option maxRecDepth 20000 in
theorem ggX4_pull_X4_reach : GoodIn wsX4_pull wsX4_reach := goodIn_r _ [6, 7, 8, 9, 5, 10, 11, 12, 13, 14, 15, 16, 17, 18, 19, 20, 21, 22, 23, 24, 25, 26, 27, 28, 55, 56, 57, 58, 59, 60, 61, 62, 63, 64, 49, 50, 51, 52, 53, 54] (by decide +kernel) (by decide +kernel)
set_option maxRecDepth 20000 in
theorem gX4_pull_X4_reach : GoodIn wsX4_pull (wsV RX4 80 RX4 yX4_reach wsX4_reach) := goodIn_app (goodIn_of _ (by decide +kernel)) ggX4_pull_X4_reach
set_option maxRecDepth 20000 in
theorem ggX4_pull_X4_answerUnreached : GoodIn wsX4_pull wsX4_answerUnreached := goodIn_r _ [32, 7, 8, 9, 5, 10, 11, 12, 13, 14, 33, 34, 35, 18, 36, 20, 21, 37, 38, 39, 40, 22, 23, 24, 25, 26, 27, 28, 55, 56, 57, 58, 59, 60, 61, 62, 63, 64, 49, 50, 51, 52, 53, 54] (by decide +kernel) (by decide +kernel)
set_option maxRecDepth 20000 in
theorem gX4_pull_X4_answerUnreached : GoodIn wsX4_pull (wsV RX4 84 RX4 yX4_answerUnreached wsX4_answerUnreached) := goodIn_app (goodIn_of _ (by decide +kernel)) ggX4_pull_X4_answerUnreached
set_option maxRecDepth 20000 in
theorem ggX4_pull_X4_isOf : GoodIn wsX4_pull wsX4_isOf := goodIn_r _ [43] (by decide +kernel) (by decide +kernel)
set_option maxRecDepth 20000 in
theorem gX4_pull_X4_isOf : GoodIn wsX4_pull (va_wsS RX4 100 yX4_isOf wsX4_isOf) := goodIn_app (goodIn_of _ (by decide +kernel)) ggX4_pull_X4_isOf
set_option maxRecDepth 20000 in
theorem ggX4_pull_X4_pullOf : GoodIn wsX4_pull wsX4_pullOf := goodIn_r _ [46, 47, 48, 1, 49, 50, 51, 52, 53, 54] (by decide +kernel) (by decide +kernel)
set_option maxRecDepth 20000 in
theorem gX4_pull_X4_pullOf : GoodIn wsX4_pull (va_wsS RX4 104 yX4_pullOf wsX4_pullOf) := goodIn_app (goodIn_of _ (by decide +kernel)) ggX4_pull_X4_pullOf
set_option maxRecDepth 20000 in
theorem ggX4_pull_X4_fail : GoodIn wsX4_pull wsX4_fail := goodIn_r _ [40, 22, 23, 24, 5, 25, 26, 27, 28, 55, 56, 57, 58, 59, 60, 61, 62] (by decide +kernel) (by decide +kernel)
set_option maxRecDepth 20000 in
theorem gX4_pull_X4_fail : GoodIn wsX4_pull (wsV RX4 107 RX4 yX4_fail wsX4_fail) := goodIn_app (goodIn_of _ (by decide +kernel)) ggX4_pull_X4_fail
theorem dX4_pull_0 : decode cX4_pull 0 = .ok (.aload_n 0, 1) := by decide +kernel
theorem dX4_pull_1 : decode cX4_pull 1 = .ok (.iload_n 1, 1) := by decide +kernel
theorem dX4_pull_2 : decode cX4_pull 2 = .ok (.iload_n 2, 1) := by decide +kernel
theorem dX4_pull_3 : decode cX4_pull 3 = .ok (.invokevirtual 80, 3) := by decide +kernel
theorem dX4_pull_6 : decode cX4_pull 6 = .ok (.astore_n 3, 1) := by decide +kernel
theorem dX4_pull_7 : decode cX4_pull 7 = .ok (.aload_n 3, 1) := by decide +kernel
theorem dX4_pull_8 : decode cX4_pull 8 = .ok (.ifnonnull 10, 3) := by decide +kernel
theorem dX4_pull_11 : decode cX4_pull 11 = .ok (.aload_n 0, 1) := by decide +kernel
theorem dX4_pull_12 : decode cX4_pull 12 = .ok (.iload_n 1, 1) := by decide +kernel
theorem dX4_pull_13 : decode cX4_pull 13 = .ok (.iload_n 2, 1) := by decide +kernel
theorem dX4_pull_14 : decode cX4_pull 14 = .ok (.invokevirtual 84, 3) := by decide +kernel
theorem dX4_pull_17 : decode cX4_pull 17 = .ok (.ireturn, 1) := by decide +kernel
theorem dX4_pull_18 : decode cX4_pull 18 = .ok (.aload_n 3, 1) := by decide +kernel
theorem dX4_pull_19 : decode cX4_pull 19 = .ok (.getfield 97, 3) := by decide +kernel
theorem dX4_pull_22 : decode cX4_pull 22 = .ok (.iconst 3, 1) := by decide +kernel
theorem dX4_pull_23 : decode cX4_pull 23 = .ok (.invokestatic 100, 3) := by decide +kernel
theorem dX4_pull_26 : decode cX4_pull 26 = .ok (.ifCond .eq 10, 3) := by decide +kernel
theorem dX4_pull_29 : decode cX4_pull 29 = .ok (.aload_n 3, 1) := by decide +kernel
theorem dX4_pull_30 : decode cX4_pull 30 = .ok (.invokestatic 104, 3) := by decide +kernel
theorem dX4_pull_33 : decode cX4_pull 33 = .ok (.goto 9, 3) := by decide +kernel
theorem dX4_pull_36 : decode cX4_pull 36 = .ok (.aload_n 0, 1) := by decide +kernel
theorem dX4_pull_37 : decode cX4_pull 37 = .ok (.iconst 4, 1) := by decide +kernel
theorem dX4_pull_38 : decode cX4_pull 38 = .ok (.iload_n 2, 1) := by decide +kernel
theorem dX4_pull_39 : decode cX4_pull 39 = .ok (.invokevirtual 107, 3) := by decide +kernel
theorem dX4_pull_42 : decode cX4_pull 42 = .ok (.ireturn, 1) := by decide +kernel
set_option maxRecDepth 20000 in
theorem ggX4_loadAs_X4_isKind : GoodIn wsX4_loadAs wsX4_isKind := goodIn_r _ [6] (by decide +kernel) (by decide +kernel)
set_option maxRecDepth 20000 in
theorem gX4_loadAs_X4_isKind : GoodIn wsX4_loadAs (va_wsS RX4 36 yX4_isKind wsX4_isKind) := goodIn_app (goodIn_of _ (by decide +kernel)) ggX4_loadAs_X4_isKind
set_option maxRecDepth 20000 in
theorem ggX4_loadAs_X4_findTrack : GoodIn wsX4_loadAs wsX4_findTrack := goodIn_r _ [10, 11, 54, 55, 56, 57, 58, 59, 60, 61] (by decide +kernel) (by decide +kernel)
set_option maxRecDepth 20000 in
theorem gX4_loadAs_X4_findTrack : GoodIn wsX4_loadAs (wsV RX4 66 RX4 yX4_findTrack wsX4_findTrack) := goodIn_app (goodIn_of _ (by decide +kernel)) ggX4_loadAs_X4_findTrack
set_option maxRecDepth 20000 in
theorem ggX4_loadAs_X4_reach : GoodIn wsX4_loadAs wsX4_reach := goodIn_r _ [15, 7, 8, 9, 5, 10, 11, 16, 17, 18, 19, 20, 21, 22, 23, 24, 25, 26, 27, 28, 29, 30, 31, 32, 54, 55, 56, 57, 58, 59, 60, 61, 62, 63, 48, 49, 50, 51, 52, 53] (by decide +kernel) (by decide +kernel)
set_option maxRecDepth 20000 in
theorem gX4_loadAs_X4_reach : GoodIn wsX4_loadAs (wsV RX4 80 RX4 yX4_reach wsX4_reach) := goodIn_app (goodIn_of _ (by decide +kernel)) ggX4_loadAs_X4_reach
set_option maxRecDepth 20000 in
theorem ggX4_loadAs_X4_answerUnreached : GoodIn wsX4_loadAs wsX4_answerUnreached := goodIn_r _ [36, 7, 8, 9, 5, 10, 11, 16, 17, 18, 37, 38, 39, 22, 40, 24, 25, 41, 42, 43, 44, 26, 27, 28, 29, 30, 31, 32, 54, 55, 56, 57, 58, 59, 60, 61, 62, 63, 48, 49, 50, 51, 52, 53] (by decide +kernel) (by decide +kernel)
set_option maxRecDepth 20000 in
theorem gX4_loadAs_X4_answerUnreached : GoodIn wsX4_loadAs (wsV RX4 84 RX4 yX4_answerUnreached wsX4_answerUnreached) := goodIn_app (goodIn_of _ (by decide +kernel)) ggX4_loadAs_X4_answerUnreached
set_option maxRecDepth 20000 in
theorem ggX4_loadAs_X4_isOf : GoodIn wsX4_loadAs wsX4_isOf := goodIn_r _ [47] (by decide +kernel) (by decide +kernel)
set_option maxRecDepth 20000 in
theorem gX4_loadAs_X4_isOf : GoodIn wsX4_loadAs (va_wsS RX4 100 yX4_isOf wsX4_isOf) := goodIn_app (goodIn_of _ (by decide +kernel)) ggX4_loadAs_X4_isOf
set_option maxRecDepth 20000 in
theorem ggX4_loadAs_X4_fail : GoodIn wsX4_loadAs wsX4_fail := goodIn_r _ [44, 26, 27, 28, 5, 29, 30, 31, 32, 54, 55, 56, 57, 58, 59, 60, 61] (by decide +kernel) (by decide +kernel)
set_option maxRecDepth 20000 in
theorem gX4_loadAs_X4_fail : GoodIn wsX4_loadAs (wsV RX4 107 RX4 yX4_fail wsX4_fail) := goodIn_app (goodIn_of _ (by decide +kernel)) ggX4_loadAs_X4_fail
theorem dX4_loadAs_0 : decode cX4_loadAs 0 = .ok (.iload_n 3, 1) := by decide +kernel
theorem dX4_loadAs_1 : decode cX4_loadAs 1 = .ok (.invokestatic 36, 3) := by decide +kernel
theorem dX4_loadAs_4 : decode cX4_loadAs 4 = .ok (.ifCond .ne 19, 3) := by decide +kernel
theorem dX4_loadAs_7 : decode cX4_loadAs 7 = .ok (.aload_n 0, 1) := by decide +kernel
theorem dX4_loadAs_8 : decode cX4_loadAs 8 = .ok (.iload_n 1, 1) := by decide +kernel
theorem dX4_loadAs_9 : decode cX4_loadAs 9 = .ok (.invokevirtual 66, 3) := by decide +kernel
theorem dX4_loadAs_12 : decode cX4_loadAs 12 = .ok (.ifnonnull 8, 3) := by decide +kernel
theorem dX4_loadAs_15 : decode cX4_loadAs 15 = .ok (.bipush (-101), 2) := by decide +kernel
theorem dX4_loadAs_17 : decode cX4_loadAs 17 = .ok (.goto 5, 3) := by decide +kernel
theorem dX4_loadAs_20 : decode cX4_loadAs 20 = .ok (.bipush (-102), 2) := by decide +kernel
theorem dX4_loadAs_22 : decode cX4_loadAs 22 = .ok (.ireturn, 1) := by decide +kernel
theorem dX4_loadAs_23 : decode cX4_loadAs 23 = .ok (.aload_n 0, 1) := by decide +kernel
theorem dX4_loadAs_24 : decode cX4_loadAs 24 = .ok (.iload_n 1, 1) := by decide +kernel
theorem dX4_loadAs_25 : decode cX4_loadAs 25 = .ok (.iload_n 2, 1) := by decide +kernel
theorem dX4_loadAs_26 : decode cX4_loadAs 26 = .ok (.invokevirtual 80, 3) := by decide +kernel
theorem dX4_loadAs_29 : decode cX4_loadAs 29 = .ok (.astore 4, 2) := by decide +kernel
theorem dX4_loadAs_31 : decode cX4_loadAs 31 = .ok (.aload 4, 2) := by decide +kernel
theorem dX4_loadAs_33 : decode cX4_loadAs 33 = .ok (.ifnonnull 10, 3) := by decide +kernel
theorem dX4_loadAs_36 : decode cX4_loadAs 36 = .ok (.aload_n 0, 1) := by decide +kernel
theorem dX4_loadAs_37 : decode cX4_loadAs 37 = .ok (.iload_n 1, 1) := by decide +kernel
theorem dX4_loadAs_38 : decode cX4_loadAs 38 = .ok (.iload_n 2, 1) := by decide +kernel
theorem dX4_loadAs_39 : decode cX4_loadAs 39 = .ok (.invokevirtual 84, 3) := by decide +kernel
theorem dX4_loadAs_42 : decode cX4_loadAs 42 = .ok (.ireturn, 1) := by decide +kernel
theorem dX4_loadAs_43 : decode cX4_loadAs 43 = .ok (.aload 4, 2) := by decide +kernel
theorem dX4_loadAs_45 : decode cX4_loadAs 45 = .ok (.getfield 97, 3) := by decide +kernel
theorem dX4_loadAs_48 : decode cX4_loadAs 48 = .ok (.iload_n 3, 1) := by decide +kernel
theorem dX4_loadAs_49 : decode cX4_loadAs 49 = .ok (.invokestatic 100, 3) := by decide +kernel
theorem dX4_loadAs_52 : decode cX4_loadAs 52 = .ok (.ifCond .eq 11, 3) := by decide +kernel
theorem dX4_loadAs_55 : decode cX4_loadAs 55 = .ok (.aload 4, 2) := by decide +kernel
theorem dX4_loadAs_57 : decode cX4_loadAs 57 = .ok (.getfield 91, 3) := by decide +kernel
theorem dX4_loadAs_60 : decode cX4_loadAs 60 = .ok (.goto 9, 3) := by decide +kernel
theorem dX4_loadAs_63 : decode cX4_loadAs 63 = .ok (.aload_n 0, 1) := by decide +kernel
theorem dX4_loadAs_64 : decode cX4_loadAs 64 = .ok (.iconst 4, 1) := by decide +kernel
theorem dX4_loadAs_65 : decode cX4_loadAs 65 = .ok (.iload_n 2, 1) := by decide +kernel
theorem dX4_loadAs_66 : decode cX4_loadAs 66 = .ok (.invokevirtual 107, 3) := by decide +kernel
theorem dX4_loadAs_69 : decode cX4_loadAs 69 = .ok (.ireturn, 1) := by decide +kernel
set_option maxRecDepth 20000 in
theorem ggX4_rake_X4_findRake : GoodIn wsX4_rake wsX4_findRake := goodIn_r _ [5, 6, 34, 35, 36, 37, 38, 39, 40, 41] (by decide +kernel) (by decide +kernel)
set_option maxRecDepth 20000 in
theorem gX4_rake_X4_findRake : GoodIn wsX4_rake (wsV RX4 110 RX4 yX4_findRake wsX4_findRake) := goodIn_app (goodIn_of _ (by decide +kernel)) ggX4_rake_X4_findRake
set_option maxRecDepth 20000 in
theorem ggX4_rake_X4_isKind : GoodIn wsX4_rake wsX4_isKind := goodIn_r _ [9] (by decide +kernel) (by decide +kernel)
set_option maxRecDepth 20000 in
theorem gX4_rake_X4_isKind : GoodIn wsX4_rake (va_wsS RX4 36 yX4_isKind wsX4_isKind) := goodIn_app (goodIn_of _ (by decide +kernel)) ggX4_rake_X4_isKind
set_option maxRecDepth 20000 in
theorem ggX4_rake_X4_fail : GoodIn wsX4_rake wsX4_fail := goodIn_r _ [13, 14, 15, 16, 4, 17, 18, 19, 20, 34, 35, 36, 37, 38, 39, 40, 41] (by decide +kernel) (by decide +kernel)
set_option maxRecDepth 20000 in
theorem gX4_rake_X4_fail : GoodIn wsX4_rake (wsV RX4 107 RX4 yX4_fail wsX4_fail) := goodIn_app (goodIn_of _ (by decide +kernel)) ggX4_rake_X4_fail
set_option maxRecDepth 20000 in
theorem ggX4_rake_X0_renew : GoodIn wsX4_rake wsX0_renew := goodIn_r _ [25, 26, 27, 28, 29, 42, 43, 44, 45] (by decide +kernel) (by decide +kernel)
set_option maxRecDepth 20000 in
theorem gX4_rake_X0_renew : GoodIn wsX4_rake (wsV RX4 114 RX0 yX0_renew wsX0_renew) := goodIn_app (goodIn_of _ (by decide +kernel)) ggX4_rake_X0_renew
set_option maxRecDepth 20000 in
theorem ggX4_rake_X4_succeed : GoodIn wsX4_rake wsX4_succeed := goodIn_r _ [33, 14, 15, 16, 4, 17, 18, 19, 20, 34, 35, 36, 37, 38, 39, 40, 41] (by decide +kernel) (by decide +kernel)
set_option maxRecDepth 20000 in
theorem gX4_rake_X4_succeed : GoodIn wsX4_rake (wsV RX4 118 RX4 yX4_succeed wsX4_succeed) := goodIn_app (goodIn_of _ (by decide +kernel)) ggX4_rake_X4_succeed
theorem dX4_rake_0 : decode cX4_rake 0 = .ok (.aload_n 0, 1) := by decide +kernel
theorem dX4_rake_1 : decode cX4_rake 1 = .ok (.iload_n 1, 1) := by decide +kernel
theorem dX4_rake_2 : decode cX4_rake 2 = .ok (.invokevirtual 110, 3) := by decide +kernel
theorem dX4_rake_5 : decode cX4_rake 5 = .ok (.astore 4, 2) := by decide +kernel
theorem dX4_rake_7 : decode cX4_rake 7 = .ok (.aload 4, 2) := by decide +kernel
theorem dX4_rake_9 : decode cX4_rake 9 = .ok (.ifnonnull 6, 3) := by decide +kernel
theorem dX4_rake_12 : decode cX4_rake 12 = .ok (.bipush (-101), 2) := by decide +kernel
theorem dX4_rake_14 : decode cX4_rake 14 = .ok (.ireturn, 1) := by decide +kernel
theorem dX4_rake_15 : decode cX4_rake 15 = .ok (.iload_n 2, 1) := by decide +kernel
theorem dX4_rake_16 : decode cX4_rake 16 = .ok (.invokestatic 36, 3) := by decide +kernel
theorem dX4_rake_19 : decode cX4_rake 19 = .ok (.ifCond .eq 9, 3) := by decide +kernel
theorem dX4_rake_22 : decode cX4_rake 22 = .ok (.iload_n 3, 1) := by decide +kernel
theorem dX4_rake_23 : decode cX4_rake 23 = .ok (.bipush 12, 2) := by decide +kernel
theorem dX4_rake_25 : decode cX4_rake 25 = .ok (.if_icmp .le 6, 3) := by decide +kernel
theorem dX4_rake_28 : decode cX4_rake 28 = .ok (.bipush (-102), 2) := by decide +kernel
theorem dX4_rake_30 : decode cX4_rake 30 = .ok (.ireturn, 1) := by decide +kernel
theorem dX4_rake_31 : decode cX4_rake 31 = .ok (.iload_n 3, 1) := by decide +kernel
theorem dX4_rake_32 : decode cX4_rake 32 = .ok (.ifCond .ge 10, 3) := by decide +kernel
theorem dX4_rake_35 : decode cX4_rake 35 = .ok (.aload_n 0, 1) := by decide +kernel
theorem dX4_rake_36 : decode cX4_rake 36 = .ok (.iconst 2, 1) := by decide +kernel
theorem dX4_rake_37 : decode cX4_rake 37 = .ok (.iconst 0, 1) := by decide +kernel
theorem dX4_rake_38 : decode cX4_rake 38 = .ok (.invokevirtual 107, 3) := by decide +kernel
theorem dX4_rake_41 : decode cX4_rake 41 = .ok (.ireturn, 1) := by decide +kernel
theorem dX4_rake_42 : decode cX4_rake 42 = .ok (.aload 4, 2) := by decide +kernel
theorem dX4_rake_44 : decode cX4_rake 44 = .ok (.iload_n 2, 1) := by decide +kernel
theorem dX4_rake_45 : decode cX4_rake 45 = .ok (.iload_n 3, 1) := by decide +kernel
theorem dX4_rake_46 : decode cX4_rake 46 = .ok (.invokevirtual 114, 3) := by decide +kernel
theorem dX4_rake_49 : decode cX4_rake 49 = .ok (.aload_n 0, 1) := by decide +kernel
theorem dX4_rake_50 : decode cX4_rake 50 = .ok (.iconst 0, 1) := by decide +kernel
theorem dX4_rake_51 : decode cX4_rake 51 = .ok (.iconst 1, 1) := by decide +kernel
theorem dX4_rake_52 : decode cX4_rake 52 = .ok (.invokevirtual 118, 3) := by decide +kernel
theorem dX4_rake_55 : decode cX4_rake 55 = .ok (.ireturn, 1) := by decide +kernel
set_option maxRecDepth 20000 in
theorem ggX4_drop_X4_findRake : GoodIn wsX4_drop wsX4_findRake := goodIn_r _ [6, 7, 12, 13, 14, 15, 16, 17, 18, 19] (by decide +kernel) (by decide +kernel)
set_option maxRecDepth 20000 in
theorem gX4_drop_X4_findRake : GoodIn wsX4_drop (wsV RX4 110 RX4 yX4_findRake wsX4_findRake) := goodIn_app (goodIn_of _ (by decide +kernel)) ggX4_drop_X4_findRake
theorem dX4_drop_0 : decode cX4_drop 0 = .ok (.aload_n 0, 1) := by decide +kernel
theorem dX4_drop_1 : decode cX4_drop 1 = .ok (.iload_n 1, 1) := by decide +kernel
theorem dX4_drop_2 : decode cX4_drop 2 = .ok (.invokevirtual 110, 3) := by decide +kernel
theorem dX4_drop_5 : decode cX4_drop 5 = .ok (.astore_n 2, 1) := by decide +kernel
theorem dX4_drop_6 : decode cX4_drop 6 = .ok (.aload_n 2, 1) := by decide +kernel
theorem dX4_drop_7 : decode cX4_drop 7 = .ok (.ifnonnull 6, 3) := by decide +kernel
theorem dX4_drop_10 : decode cX4_drop 10 = .ok (.bipush (-101), 2) := by decide +kernel
theorem dX4_drop_12 : decode cX4_drop 12 = .ok (.ireturn, 1) := by decide +kernel
theorem dX4_drop_13 : decode cX4_drop 13 = .ok (.aload_n 2, 1) := by decide +kernel
theorem dX4_drop_14 : decode cX4_drop 14 = .ok (.iconst 0, 1) := by decide +kernel
theorem dX4_drop_15 : decode cX4_drop 15 = .ok (.putfield 121, 3) := by decide +kernel
theorem dX4_drop_18 : decode cX4_drop 18 = .ok (.iconst 1, 1) := by decide +kernel
theorem dX4_drop_19 : decode cX4_drop 19 = .ok (.ireturn, 1) := by decide +kernel
set_option maxRecDepth 20000 in
theorem ggX4_lay_X4_findRake : GoodIn wsX4_lay wsX4_findRake := goodIn_r _ [11, 12, 56, 57, 58, 59, 60, 61, 62, 63] (by decide +kernel) (by decide +kernel)
set_option maxRecDepth 20000 in
theorem gX4_lay_X4_findRake : GoodIn wsX4_lay (wsV RX4 110 RX4 yX4_findRake wsX4_findRake) := goodIn_app (goodIn_of _ (by decide +kernel)) ggX4_lay_X4_findRake
set_option maxRecDepth 20000 in
theorem ggX4_lay_X4_findTrack : GoodIn wsX4_lay wsX4_findTrack := goodIn_r _ [16, 17, 56, 57, 58, 59, 60, 61, 62, 63] (by decide +kernel) (by decide +kernel)
set_option maxRecDepth 20000 in
theorem gX4_lay_X4_findTrack : GoodIn wsX4_lay (wsV RX4 66 RX4 yX4_findTrack wsX4_findTrack) := goodIn_app (goodIn_of _ (by decide +kernel)) ggX4_lay_X4_findTrack
set_option maxRecDepth 20000 in
theorem ggX4_lay_X4_fail : GoodIn wsX4_lay wsX4_fail := goodIn_r _ [21, 22, 23, 24, 10, 25, 26, 27, 28, 56, 57, 58, 59, 60, 61, 62, 63] (by decide +kernel) (by decide +kernel)
set_option maxRecDepth 20000 in
theorem gX4_lay_X4_fail : GoodIn wsX4_lay (wsV RX4 107 RX4 yX4_fail wsX4_fail) := goodIn_app (goodIn_of _ (by decide +kernel)) ggX4_lay_X4_fail
set_option maxRecDepth 20000 in
theorem ggX4_lay_X0_hasPlace : GoodIn wsX4_lay wsX0_hasPlace := goodIn_r _ [33, 34, 35, 36, 44, 45, 46, 47] (by decide +kernel) (by decide +kernel)
set_option maxRecDepth 20000 in
theorem gX4_lay_X0_hasPlace : GoodIn wsX4_lay (wsV RX4 124 RX0 yX0_hasPlace wsX0_hasPlace) := goodIn_app (goodIn_of _ (by decide +kernel)) ggX4_lay_X0_hasPlace
set_option maxRecDepth 20000 in
theorem ggX4_lay_X4_isOf : GoodIn wsX4_lay wsX4_isOf := goodIn_r _ [39] (by decide +kernel) (by decide +kernel)
set_option maxRecDepth 20000 in
theorem gX4_lay_X4_isOf : GoodIn wsX4_lay (va_wsS RX4 100 yX4_isOf wsX4_isOf) := goodIn_app (goodIn_of _ (by decide +kernel)) ggX4_lay_X4_isOf
set_option maxRecDepth 20000 in
theorem ggX4_lay_X4_succeed : GoodIn wsX4_lay wsX4_succeed := goodIn_r _ [43, 22, 23, 24, 10, 25, 26, 27, 28, 56, 57, 58, 59, 60, 61, 62, 63] (by decide +kernel) (by decide +kernel)
set_option maxRecDepth 20000 in
theorem gX4_lay_X4_succeed : GoodIn wsX4_lay (wsV RX4 118 RX4 yX4_succeed wsX4_succeed) := goodIn_app (goodIn_of _ (by decide +kernel)) ggX4_lay_X4_succeed
theorem dX4_lay_0 : decode cX4_lay 0 = .ok (.aload_n 0, 1) := by decide +kernel
theorem dX4_lay_1 : decode cX4_lay 1 = .ok (.iload_n 1, 1) := by decide +kernel
theorem dX4_lay_2 : decode cX4_lay 2 = .ok (.invokevirtual 110, 3) := by decide +kernel
theorem dX4_lay_5 : decode cX4_lay 5 = .ok (.astore_n 3, 1) := by decide +kernel
theorem dX4_lay_6 : decode cX4_lay 6 = .ok (.aload_n 0, 1) := by decide +kernel
theorem dX4_lay_7 : decode cX4_lay 7 = .ok (.iload_n 2, 1) := by decide +kernel
theorem dX4_lay_8 : decode cX4_lay 8 = .ok (.invokevirtual 66, 3) := by decide +kernel
theorem dX4_lay_11 : decode cX4_lay 11 = .ok (.astore 4, 2) := by decide +kernel
theorem dX4_lay_13 : decode cX4_lay 13 = .ok (.aload_n 3, 1) := by decide +kernel
theorem dX4_lay_14 : decode cX4_lay 14 = .ok (.ifnull 8, 3) := by decide +kernel
theorem dX4_lay_17 : decode cX4_lay 17 = .ok (.aload 4, 2) := by decide +kernel
theorem dX4_lay_19 : decode cX4_lay 19 = .ok (.ifnonnull 6, 3) := by decide +kernel
theorem dX4_lay_22 : decode cX4_lay 22 = .ok (.bipush (-101), 2) := by decide +kernel
theorem dX4_lay_24 : decode cX4_lay 24 = .ok (.ireturn, 1) := by decide +kernel
theorem dX4_lay_25 : decode cX4_lay 25 = .ok (.aload_n 3, 1) := by decide +kernel
theorem dX4_lay_26 : decode cX4_lay 26 = .ok (.getfield 121, 3) := by decide +kernel
theorem dX4_lay_29 : decode cX4_lay 29 = .ok (.ifCond .eq 11, 3) := by decide +kernel
theorem dX4_lay_32 : decode cX4_lay 32 = .ok (.aload 4, 2) := by decide +kernel
theorem dX4_lay_34 : decode cX4_lay 34 = .ok (.getfield 70, 3) := by decide +kernel
theorem dX4_lay_37 : decode cX4_lay 37 = .ok (.ifnonnull 10, 3) := by decide +kernel
theorem dX4_lay_40 : decode cX4_lay 40 = .ok (.aload_n 0, 1) := by decide +kernel
theorem dX4_lay_41 : decode cX4_lay 41 = .ok (.iconst 1, 1) := by decide +kernel
theorem dX4_lay_42 : decode cX4_lay 42 = .ok (.iconst 0, 1) := by decide +kernel
theorem dX4_lay_43 : decode cX4_lay 43 = .ok (.invokevirtual 107, 3) := by decide +kernel
theorem dX4_lay_46 : decode cX4_lay 46 = .ok (.ireturn, 1) := by decide +kernel
theorem dX4_lay_47 : decode cX4_lay 47 = .ok (.iconst 0, 1) := by decide +kernel
theorem dX4_lay_48 : decode cX4_lay 48 = .ok (.istore 5, 2) := by decide +kernel
theorem dX4_lay_50 : decode cX4_lay 50 = .ok (.aload 4, 2) := by decide +kernel
theorem dX4_lay_52 : decode cX4_lay 52 = .ok (.getfield 70, 3) := by decide +kernel
theorem dX4_lay_55 : decode cX4_lay 55 = .ok (.astore 6, 2) := by decide +kernel
theorem dX4_lay_57 : decode cX4_lay 57 = .ok (.aload 6, 2) := by decide +kernel
theorem dX4_lay_59 : decode cX4_lay 59 = .ok (.ifnull 65, 3) := by decide +kernel
theorem dX4_lay_62 : decode cX4_lay 62 = .ok (.aload_n 3, 1) := by decide +kernel
theorem dX4_lay_63 : decode cX4_lay 63 = .ok (.iload 5, 2) := by decide +kernel
theorem dX4_lay_65 : decode cX4_lay 65 = .ok (.invokevirtual 124, 3) := by decide +kernel
theorem dX4_lay_68 : decode cX4_lay 68 = .ok (.ifCond .ne 11, 3) := by decide +kernel
theorem dX4_lay_71 : decode cX4_lay 71 = .ok (.aload_n 0, 1) := by decide +kernel
theorem dX4_lay_72 : decode cX4_lay 72 = .ok (.iconst 3, 1) := by decide +kernel
theorem dX4_lay_73 : decode cX4_lay 73 = .ok (.iload 5, 2) := by decide +kernel
theorem dX4_lay_75 : decode cX4_lay 75 = .ok (.invokevirtual 107, 3) := by decide +kernel
theorem dX4_lay_78 : decode cX4_lay 78 = .ok (.ireturn, 1) := by decide +kernel
theorem dX4_lay_79 : decode cX4_lay 79 = .ok (.aload 6, 2) := by decide +kernel
theorem dX4_lay_81 : decode cX4_lay 81 = .ok (.getfield 97, 3) := by decide +kernel
theorem dX4_lay_84 : decode cX4_lay 84 = .ok (.aload_n 3, 1) := by decide +kernel
theorem dX4_lay_85 : decode cX4_lay 85 = .ok (.getfield 127, 3) := by decide +kernel
theorem dX4_lay_88 : decode cX4_lay 88 = .ok (.invokestatic 100, 3) := by decide +kernel
theorem dX4_lay_91 : decode cX4_lay 91 = .ok (.ifCond .ne 11, 3) := by decide +kernel
theorem dX4_lay_94 : decode cX4_lay 94 = .ok (.aload_n 0, 1) := by decide +kernel
theorem dX4_lay_95 : decode cX4_lay 95 = .ok (.iconst 5, 1) := by decide +kernel
theorem dX4_lay_96 : decode cX4_lay 96 = .ok (.iload 5, 2) := by decide +kernel
theorem dX4_lay_98 : decode cX4_lay 98 = .ok (.invokevirtual 107, 3) := by decide +kernel
theorem dX4_lay_101 : decode cX4_lay 101 = .ok (.ireturn, 1) := by decide +kernel
theorem dX4_lay_102 : decode cX4_lay 102 = .ok (.aload_n 3, 1) := by decide +kernel
theorem dX4_lay_103 : decode cX4_lay 103 = .ok (.getfield 128, 3) := by decide +kernel
theorem dX4_lay_106 : decode cX4_lay 106 = .ok (.iload 5, 2) := by decide +kernel
theorem dX4_lay_108 : decode cX4_lay 108 = .ok (.aload 6, 2) := by decide +kernel
theorem dX4_lay_110 : decode cX4_lay 110 = .ok (.aastore, 1) := by decide +kernel
theorem dX4_lay_111 : decode cX4_lay 111 = .ok (.iinc 5 1, 3) := by decide +kernel
theorem dX4_lay_114 : decode cX4_lay 114 = .ok (.aload 6, 2) := by decide +kernel
theorem dX4_lay_116 : decode cX4_lay 116 = .ok (.getfield 51, 3) := by decide +kernel
theorem dX4_lay_119 : decode cX4_lay 119 = .ok (.astore 6, 2) := by decide +kernel
theorem dX4_lay_121 : decode cX4_lay 121 = .ok (.goto (-64), 3) := by decide +kernel
theorem dX4_lay_124 : decode cX4_lay 124 = .ok (.aload_n 0, 1) := by decide +kernel
theorem dX4_lay_125 : decode cX4_lay 125 = .ok (.iload 5, 2) := by decide +kernel
theorem dX4_lay_127 : decode cX4_lay 127 = .ok (.iload 5, 2) := by decide +kernel
theorem dX4_lay_129 : decode cX4_lay 129 = .ok (.invokevirtual 118, 3) := by decide +kernel
theorem dX4_lay_132 : decode cX4_lay 132 = .ok (.ireturn, 1) := by decide +kernel
set_option maxRecDepth 20000 in
theorem ggX4_places_X4_findRake : GoodIn wsX4_places wsX4_findRake := goodIn_r _ [7, 8, 28, 29, 30, 31, 32, 33, 34, 35] (by decide +kernel) (by decide +kernel)
set_option maxRecDepth 20000 in
theorem gX4_places_X4_findRake : GoodIn wsX4_places (wsV RX4 110 RX4 yX4_findRake wsX4_findRake) := goodIn_app (goodIn_of _ (by decide +kernel)) ggX4_places_X4_findRake
set_option maxRecDepth 20000 in
theorem ggX4_places_X4_succeed : GoodIn wsX4_places wsX4_succeed := goodIn_r _ [12, 13, 14, 15, 6, 16, 17, 18, 19, 28, 29, 30, 31, 32, 33, 34, 35] (by decide +kernel) (by decide +kernel)
set_option maxRecDepth 20000 in
theorem gX4_places_X4_succeed : GoodIn wsX4_places (wsV RX4 118 RX4 yX4_succeed wsX4_succeed) := goodIn_app (goodIn_of _ (by decide +kernel)) ggX4_places_X4_succeed
set_option maxRecDepth 20000 in
theorem ggX4_places_X4_fail : GoodIn wsX4_places wsX4_fail := goodIn_r _ [23, 13, 14, 15, 6, 16, 17, 18, 19, 28, 29, 30, 31, 32, 33, 34, 35] (by decide +kernel) (by decide +kernel)
set_option maxRecDepth 20000 in
theorem gX4_places_X4_fail : GoodIn wsX4_places (wsV RX4 107 RX4 yX4_fail wsX4_fail) := goodIn_app (goodIn_of _ (by decide +kernel)) ggX4_places_X4_fail
theorem dX4_places_0 : decode cX4_places 0 = .ok (.aload_n 0, 1) := by decide +kernel
theorem dX4_places_1 : decode cX4_places 1 = .ok (.iload_n 1, 1) := by decide +kernel
theorem dX4_places_2 : decode cX4_places 2 = .ok (.invokevirtual 110, 3) := by decide +kernel
theorem dX4_places_5 : decode cX4_places 5 = .ok (.astore_n 2, 1) := by decide +kernel
theorem dX4_places_6 : decode cX4_places 6 = .ok (.aload_n 2, 1) := by decide +kernel
theorem dX4_places_7 : decode cX4_places 7 = .ok (.ifnonnull 6, 3) := by decide +kernel
theorem dX4_places_10 : decode cX4_places 10 = .ok (.bipush (-101), 2) := by decide +kernel
theorem dX4_places_12 : decode cX4_places 12 = .ok (.ireturn, 1) := by decide +kernel
theorem dX4_places_13 : decode cX4_places 13 = .ok (.aload_n 2, 1) := by decide +kernel
theorem dX4_places_14 : decode cX4_places 14 = .ok (.getfield 121, 3) := by decide +kernel
theorem dX4_places_17 : decode cX4_places 17 = .ok (.ifCond .eq 15, 3) := by decide +kernel
theorem dX4_places_20 : decode cX4_places 20 = .ok (.aload_n 0, 1) := by decide +kernel
theorem dX4_places_21 : decode cX4_places 21 = .ok (.iconst 0, 1) := by decide +kernel
theorem dX4_places_22 : decode cX4_places 22 = .ok (.aload_n 2, 1) := by decide +kernel
theorem dX4_places_23 : decode cX4_places 23 = .ok (.getfield 131, 3) := by decide +kernel
theorem dX4_places_26 : decode cX4_places 26 = .ok (.invokevirtual 118, 3) := by decide +kernel
theorem dX4_places_29 : decode cX4_places 29 = .ok (.goto 9, 3) := by decide +kernel
theorem dX4_places_32 : decode cX4_places 32 = .ok (.aload_n 0, 1) := by decide +kernel
theorem dX4_places_33 : decode cX4_places 33 = .ok (.iconst 1, 1) := by decide +kernel
theorem dX4_places_34 : decode cX4_places 34 = .ok (.iconst 0, 1) := by decide +kernel
theorem dX4_places_35 : decode cX4_places 35 = .ok (.invokevirtual 107, 3) := by decide +kernel
theorem dX4_places_38 : decode cX4_places 38 = .ok (.ireturn, 1) := by decide +kernel
set_option maxRecDepth 20000 in
theorem ggX4_loadOn_X4_findRake : GoodIn wsX4_loadOn wsX4_findRake := goodIn_r _ [8, 9, 43, 44, 45, 46, 47, 48, 49, 50] (by decide +kernel) (by decide +kernel)
set_option maxRecDepth 20000 in
theorem gX4_loadOn_X4_findRake : GoodIn wsX4_loadOn (wsV RX4 110 RX4 yX4_findRake wsX4_findRake) := goodIn_app (goodIn_of _ (by decide +kernel)) ggX4_loadOn_X4_findRake
set_option maxRecDepth 20000 in
theorem ggX4_loadOn_X4_fail : GoodIn wsX4_loadOn wsX4_fail := goodIn_r _ [13, 14, 15, 16, 7, 17, 18, 19, 20, 43, 44, 45, 46, 47, 48, 49, 50] (by decide +kernel) (by decide +kernel)
set_option maxRecDepth 20000 in
theorem gX4_loadOn_X4_fail : GoodIn wsX4_loadOn (wsV RX4 107 RX4 yX4_fail wsX4_fail) := goodIn_app (goodIn_of _ (by decide +kernel)) ggX4_loadOn_X4_fail
set_option maxRecDepth 20000 in
theorem ggX4_loadOn_X0_hasPlace : GoodIn wsX4_loadOn wsX0_hasPlace := goodIn_r _ [25, 26, 27, 28, 33, 34, 35, 36] (by decide +kernel) (by decide +kernel)
set_option maxRecDepth 20000 in
theorem gX4_loadOn_X0_hasPlace : GoodIn wsX4_loadOn (wsV RX4 124 RX0 yX0_hasPlace wsX0_hasPlace) := goodIn_app (goodIn_of _ (by decide +kernel)) ggX4_loadOn_X0_hasPlace
set_option maxRecDepth 20000 in
theorem ggX4_loadOn_X4_succeed : GoodIn wsX4_loadOn wsX4_succeed := goodIn_r _ [32, 14, 15, 16, 7, 17, 18, 19, 20, 43, 44, 45, 46, 47, 48, 49, 50] (by decide +kernel) (by decide +kernel)
set_option maxRecDepth 20000 in
theorem gX4_loadOn_X4_succeed : GoodIn wsX4_loadOn (wsV RX4 118 RX4 yX4_succeed wsX4_succeed) := goodIn_app (goodIn_of _ (by decide +kernel)) ggX4_loadOn_X4_succeed
theorem dX4_loadOn_0 : decode cX4_loadOn 0 = .ok (.aload_n 0, 1) := by decide +kernel
theorem dX4_loadOn_1 : decode cX4_loadOn 1 = .ok (.iload_n 1, 1) := by decide +kernel
theorem dX4_loadOn_2 : decode cX4_loadOn 2 = .ok (.invokevirtual 110, 3) := by decide +kernel
theorem dX4_loadOn_5 : decode cX4_loadOn 5 = .ok (.astore_n 3, 1) := by decide +kernel
theorem dX4_loadOn_6 : decode cX4_loadOn 6 = .ok (.aload_n 3, 1) := by decide +kernel
theorem dX4_loadOn_7 : decode cX4_loadOn 7 = .ok (.ifnonnull 6, 3) := by decide +kernel
theorem dX4_loadOn_10 : decode cX4_loadOn 10 = .ok (.bipush (-101), 2) := by decide +kernel
theorem dX4_loadOn_12 : decode cX4_loadOn 12 = .ok (.ireturn, 1) := by decide +kernel
theorem dX4_loadOn_13 : decode cX4_loadOn 13 = .ok (.aload_n 3, 1) := by decide +kernel
theorem dX4_loadOn_14 : decode cX4_loadOn 14 = .ok (.getfield 121, 3) := by decide +kernel
theorem dX4_loadOn_17 : decode cX4_loadOn 17 = .ok (.ifCond .ne 10, 3) := by decide +kernel
theorem dX4_loadOn_20 : decode cX4_loadOn 20 = .ok (.aload_n 0, 1) := by decide +kernel
theorem dX4_loadOn_21 : decode cX4_loadOn 21 = .ok (.iconst 1, 1) := by decide +kernel
theorem dX4_loadOn_22 : decode cX4_loadOn 22 = .ok (.iconst 0, 1) := by decide +kernel
theorem dX4_loadOn_23 : decode cX4_loadOn 23 = .ok (.invokevirtual 107, 3) := by decide +kernel
theorem dX4_loadOn_26 : decode cX4_loadOn 26 = .ok (.ireturn, 1) := by decide +kernel
theorem dX4_loadOn_27 : decode cX4_loadOn 27 = .ok (.aload_n 3, 1) := by decide +kernel
theorem dX4_loadOn_28 : decode cX4_loadOn 28 = .ok (.iload_n 2, 1) := by decide +kernel
theorem dX4_loadOn_29 : decode cX4_loadOn 29 = .ok (.invokevirtual 124, 3) := by decide +kernel
theorem dX4_loadOn_32 : decode cX4_loadOn 32 = .ok (.ifCond .ne 10, 3) := by decide +kernel
theorem dX4_loadOn_35 : decode cX4_loadOn 35 = .ok (.aload_n 0, 1) := by decide +kernel
theorem dX4_loadOn_36 : decode cX4_loadOn 36 = .ok (.iconst 3, 1) := by decide +kernel
theorem dX4_loadOn_37 : decode cX4_loadOn 37 = .ok (.iconst 0, 1) := by decide +kernel
theorem dX4_loadOn_38 : decode cX4_loadOn 38 = .ok (.invokevirtual 107, 3) := by decide +kernel
theorem dX4_loadOn_41 : decode cX4_loadOn 41 = .ok (.ireturn, 1) := by decide +kernel
theorem dX4_loadOn_42 : decode cX4_loadOn 42 = .ok (.aload_n 3, 1) := by decide +kernel
theorem dX4_loadOn_43 : decode cX4_loadOn 43 = .ok (.getfield 128, 3) := by decide +kernel
theorem dX4_loadOn_46 : decode cX4_loadOn 46 = .ok (.iload_n 2, 1) := by decide +kernel
theorem dX4_loadOn_47 : decode cX4_loadOn 47 = .ok (.aaload, 1) := by decide +kernel
theorem dX4_loadOn_48 : decode cX4_loadOn 48 = .ok (.astore 4, 2) := by decide +kernel
theorem dX4_loadOn_50 : decode cX4_loadOn 50 = .ok (.aload 4, 2) := by decide +kernel
theorem dX4_loadOn_52 : decode cX4_loadOn 52 = .ok (.ifnonnull 12, 3) := by decide +kernel
theorem dX4_loadOn_55 : decode cX4_loadOn 55 = .ok (.aload_n 0, 1) := by decide +kernel
theorem dX4_loadOn_56 : decode cX4_loadOn 56 = .ok (.iconst 1, 1) := by decide +kernel
theorem dX4_loadOn_57 : decode cX4_loadOn 57 = .ok (.iconst 0, 1) := by decide +kernel
theorem dX4_loadOn_58 : decode cX4_loadOn 58 = .ok (.invokevirtual 107, 3) := by decide +kernel
theorem dX4_loadOn_61 : decode cX4_loadOn 61 = .ok (.goto 13, 3) := by decide +kernel
theorem dX4_loadOn_64 : decode cX4_loadOn 64 = .ok (.aload_n 0, 1) := by decide +kernel
theorem dX4_loadOn_65 : decode cX4_loadOn 65 = .ok (.iconst 0, 1) := by decide +kernel
theorem dX4_loadOn_66 : decode cX4_loadOn 66 = .ok (.aload 4, 2) := by decide +kernel
theorem dX4_loadOn_68 : decode cX4_loadOn 68 = .ok (.getfield 91, 3) := by decide +kernel
theorem dX4_loadOn_71 : decode cX4_loadOn 71 = .ok (.invokevirtual 118, 3) := by decide +kernel
theorem dX4_loadOn_74 : decode cX4_loadOn 74 = .ok (.ireturn, 1) := by decide +kernel
set_option maxRecDepth 20000 in
theorem ggX4_table_X4_findTable : GoodIn wsX4_table wsX4_findTable := goodIn_r _ [5, 6, 31, 32, 33, 34, 35, 36, 37, 38] (by decide +kernel) (by decide +kernel)
set_option maxRecDepth 20000 in
theorem gX4_table_X4_findTable : GoodIn wsX4_table (wsV RX4 134 RX4 yX4_findTable wsX4_findTable) := goodIn_app (goodIn_of _ (by decide +kernel)) ggX4_table_X4_findTable
set_option maxRecDepth 20000 in
theorem ggX4_table_X4_fail : GoodIn wsX4_table wsX4_fail := goodIn_r _ [10, 11, 12, 13, 4, 14, 15, 16, 17, 31, 32, 33, 34, 35, 36, 37, 38] (by decide +kernel) (by decide +kernel)
set_option maxRecDepth 20000 in
theorem gX4_table_X4_fail : GoodIn wsX4_table (wsV RX4 107 RX4 yX4_fail wsX4_fail) := goodIn_app (goodIn_of _ (by decide +kernel)) ggX4_table_X4_fail
set_option maxRecDepth 20000 in
theorem ggX4_table_X1_renew : GoodIn wsX4_table wsX1_renew := goodIn_r _ [22, 23, 24, 25, 26, 39, 40, 41, 42] (by decide +kernel) (by decide +kernel)
set_option maxRecDepth 20000 in
theorem gX4_table_X1_renew : GoodIn wsX4_table (wsV RX4 138 RX1 yX1_renew wsX1_renew) := goodIn_app (goodIn_of _ (by decide +kernel)) ggX4_table_X1_renew
set_option maxRecDepth 20000 in
theorem ggX4_table_X4_succeed : GoodIn wsX4_table wsX4_succeed := goodIn_r _ [30, 11, 12, 13, 4, 14, 15, 16, 17, 31, 32, 33, 34, 35, 36, 37, 38] (by decide +kernel) (by decide +kernel)
set_option maxRecDepth 20000 in
theorem gX4_table_X4_succeed : GoodIn wsX4_table (wsV RX4 118 RX4 yX4_succeed wsX4_succeed) := goodIn_app (goodIn_of _ (by decide +kernel)) ggX4_table_X4_succeed
theorem dX4_table_0 : decode cX4_table 0 = .ok (.aload_n 0, 1) := by decide +kernel
theorem dX4_table_1 : decode cX4_table 1 = .ok (.iload_n 1, 1) := by decide +kernel
theorem dX4_table_2 : decode cX4_table 2 = .ok (.invokevirtual 134, 3) := by decide +kernel
theorem dX4_table_5 : decode cX4_table 5 = .ok (.astore 4, 2) := by decide +kernel
theorem dX4_table_7 : decode cX4_table 7 = .ok (.aload 4, 2) := by decide +kernel
theorem dX4_table_9 : decode cX4_table 9 = .ok (.ifnonnull 6, 3) := by decide +kernel
theorem dX4_table_12 : decode cX4_table 12 = .ok (.bipush (-101), 2) := by decide +kernel
theorem dX4_table_14 : decode cX4_table 14 = .ok (.ireturn, 1) := by decide +kernel
theorem dX4_table_15 : decode cX4_table 15 = .ok (.iload_n 2, 1) := by decide +kernel
theorem dX4_table_16 : decode cX4_table 16 = .ok (.bipush 12, 2) := by decide +kernel
theorem dX4_table_18 : decode cX4_table 18 = .ok (.if_icmp .gt 13, 3) := by decide +kernel
theorem dX4_table_21 : decode cX4_table 21 = .ok (.iload_n 3, 1) := by decide +kernel
theorem dX4_table_22 : decode cX4_table 22 = .ok (.ifCond .lt 9, 3) := by decide +kernel
theorem dX4_table_25 : decode cX4_table 25 = .ok (.iload_n 3, 1) := by decide +kernel
theorem dX4_table_26 : decode cX4_table 26 = .ok (.bipush 6, 2) := by decide +kernel
theorem dX4_table_28 : decode cX4_table 28 = .ok (.if_icmp .le 6, 3) := by decide +kernel
theorem dX4_table_31 : decode cX4_table 31 = .ok (.bipush (-102), 2) := by decide +kernel
theorem dX4_table_33 : decode cX4_table 33 = .ok (.ireturn, 1) := by decide +kernel
theorem dX4_table_34 : decode cX4_table 34 = .ok (.iload_n 2, 1) := by decide +kernel
theorem dX4_table_35 : decode cX4_table 35 = .ok (.ifCond .ge 10, 3) := by decide +kernel
theorem dX4_table_38 : decode cX4_table 38 = .ok (.aload_n 0, 1) := by decide +kernel
theorem dX4_table_39 : decode cX4_table 39 = .ok (.iconst 2, 1) := by decide +kernel
theorem dX4_table_40 : decode cX4_table 40 = .ok (.iconst 0, 1) := by decide +kernel
theorem dX4_table_41 : decode cX4_table 41 = .ok (.invokevirtual 107, 3) := by decide +kernel
theorem dX4_table_44 : decode cX4_table 44 = .ok (.ireturn, 1) := by decide +kernel
theorem dX4_table_45 : decode cX4_table 45 = .ok (.aload 4, 2) := by decide +kernel
theorem dX4_table_47 : decode cX4_table 47 = .ok (.iload_n 2, 1) := by decide +kernel
theorem dX4_table_48 : decode cX4_table 48 = .ok (.iload_n 3, 1) := by decide +kernel
theorem dX4_table_49 : decode cX4_table 49 = .ok (.invokevirtual 138, 3) := by decide +kernel
theorem dX4_table_52 : decode cX4_table 52 = .ok (.aload_n 0, 1) := by decide +kernel
theorem dX4_table_53 : decode cX4_table 53 = .ok (.iconst 0, 1) := by decide +kernel
theorem dX4_table_54 : decode cX4_table 54 = .ok (.iconst 1, 1) := by decide +kernel
theorem dX4_table_55 : decode cX4_table 55 = .ok (.invokevirtual 118, 3) := by decide +kernel
theorem dX4_table_58 : decode cX4_table 58 = .ok (.ireturn, 1) := by decide +kernel
set_option maxRecDepth 20000 in
theorem ggX4_add_X4_findTable : GoodIn wsX4_add wsX4_findTable := goodIn_r _ [7, 8, 35, 36, 37, 38, 39, 40, 41, 42] (by decide +kernel) (by decide +kernel)
set_option maxRecDepth 20000 in
theorem gX4_add_X4_findTable : GoodIn wsX4_add (wsV RX4 134 RX4 yX4_findTable wsX4_findTable) := goodIn_app (goodIn_of _ (by decide +kernel)) ggX4_add_X4_findTable
set_option maxRecDepth 20000 in
theorem ggX4_add_X4_fail : GoodIn wsX4_add wsX4_fail := goodIn_r _ [12, 13, 14, 15, 6, 16, 17, 18, 19, 35, 36, 37, 38, 39, 40, 41, 42] (by decide +kernel) (by decide +kernel)
set_option maxRecDepth 20000 in
theorem gX4_add_X4_fail : GoodIn wsX4_add (wsV RX4 107 RX4 yX4_fail wsX4_fail) := goodIn_app (goodIn_of _ (by decide +kernel)) ggX4_add_X4_fail
set_option maxRecDepth 20000 in
theorem ggX4_add_X1_hasPlace : GoodIn wsX4_add wsX1_hasPlace := goodIn_r _ [24, 25, 26, 31, 32, 33, 34] (by decide +kernel) (by decide +kernel)
set_option maxRecDepth 20000 in
theorem gX4_add_X1_hasPlace : GoodIn wsX4_add (wsV RX4 140 RX1 yX1_hasPlace wsX1_hasPlace) := goodIn_app (goodIn_of _ (by decide +kernel)) ggX4_add_X1_hasPlace
set_option maxRecDepth 20000 in
theorem ggX4_add_X4_succeed : GoodIn wsX4_add wsX4_succeed := goodIn_r _ [30, 13, 14, 15, 6, 16, 17, 18, 19, 35, 36, 37, 38, 39, 40, 41, 42] (by decide +kernel) (by decide +kernel)
set_option maxRecDepth 20000 in
theorem gX4_add_X4_succeed : GoodIn wsX4_add (wsV RX4 118 RX4 yX4_succeed wsX4_succeed) := goodIn_app (goodIn_of _ (by decide +kernel)) ggX4_add_X4_succeed
theorem dX4_add_0 : decode cX4_add 0 = .ok (.aload_n 0, 1) := by decide +kernel
theorem dX4_add_1 : decode cX4_add 1 = .ok (.iload_n 1, 1) := by decide +kernel
theorem dX4_add_2 : decode cX4_add 2 = .ok (.invokevirtual 134, 3) := by decide +kernel
theorem dX4_add_5 : decode cX4_add 5 = .ok (.astore 5, 2) := by decide +kernel
theorem dX4_add_7 : decode cX4_add 7 = .ok (.aload 5, 2) := by decide +kernel
theorem dX4_add_9 : decode cX4_add 9 = .ok (.ifnonnull 6, 3) := by decide +kernel
theorem dX4_add_12 : decode cX4_add 12 = .ok (.bipush (-101), 2) := by decide +kernel
theorem dX4_add_14 : decode cX4_add 14 = .ok (.ireturn, 1) := by decide +kernel
theorem dX4_add_15 : decode cX4_add 15 = .ok (.aload 5, 2) := by decide +kernel
theorem dX4_add_17 : decode cX4_add 17 = .ok (.getfield 139, 3) := by decide +kernel
theorem dX4_add_20 : decode cX4_add 20 = .ok (.ifCond .ne 10, 3) := by decide +kernel
theorem dX4_add_23 : decode cX4_add 23 = .ok (.aload_n 0, 1) := by decide +kernel
theorem dX4_add_24 : decode cX4_add 24 = .ok (.iconst 1, 1) := by decide +kernel
theorem dX4_add_25 : decode cX4_add 25 = .ok (.iconst 0, 1) := by decide +kernel
theorem dX4_add_26 : decode cX4_add 26 = .ok (.invokevirtual 107, 3) := by decide +kernel
theorem dX4_add_29 : decode cX4_add 29 = .ok (.ireturn, 1) := by decide +kernel
theorem dX4_add_30 : decode cX4_add 30 = .ok (.aload 5, 2) := by decide +kernel
theorem dX4_add_32 : decode cX4_add 32 = .ok (.iload_n 2, 1) := by decide +kernel
theorem dX4_add_33 : decode cX4_add 33 = .ok (.iload_n 3, 1) := by decide +kernel
theorem dX4_add_34 : decode cX4_add 34 = .ok (.invokevirtual 140, 3) := by decide +kernel
theorem dX4_add_37 : decode cX4_add 37 = .ok (.ifCond .ne 10, 3) := by decide +kernel
theorem dX4_add_40 : decode cX4_add 40 = .ok (.aload_n 0, 1) := by decide +kernel
theorem dX4_add_41 : decode cX4_add 41 = .ok (.iconst 3, 1) := by decide +kernel
theorem dX4_add_42 : decode cX4_add 42 = .ok (.iconst 0, 1) := by decide +kernel
theorem dX4_add_43 : decode cX4_add 43 = .ok (.invokevirtual 107, 3) := by decide +kernel
theorem dX4_add_46 : decode cX4_add 46 = .ok (.ireturn, 1) := by decide +kernel
theorem dX4_add_47 : decode cX4_add 47 = .ok (.iload_n 2, 1) := by decide +kernel
theorem dX4_add_48 : decode cX4_add 48 = .ok (.bipush 6, 2) := by decide +kernel
theorem dX4_add_50 : decode cX4_add 50 = .ok (.imul, 1) := by decide +kernel
theorem dX4_add_51 : decode cX4_add 51 = .ok (.iload_n 3, 1) := by decide +kernel
theorem dX4_add_52 : decode cX4_add 52 = .ok (.iadd, 1) := by decide +kernel
theorem dX4_add_53 : decode cX4_add 53 = .ok (.istore 6, 2) := by decide +kernel
theorem dX4_add_55 : decode cX4_add 55 = .ok (.aload 5, 2) := by decide +kernel
theorem dX4_add_57 : decode cX4_add 57 = .ok (.getfield 142, 3) := by decide +kernel
theorem dX4_add_60 : decode cX4_add 60 = .ok (.iload 6, 2) := by decide +kernel
theorem dX4_add_62 : decode cX4_add 62 = .ok (.dup2, 1) := by decide +kernel
theorem dX4_add_63 : decode cX4_add 63 = .ok (.iaload, 1) := by decide +kernel
theorem dX4_add_64 : decode cX4_add 64 = .ok (.iload 4, 2) := by decide +kernel
theorem dX4_add_66 : decode cX4_add 66 = .ok (.iadd, 1) := by decide +kernel
theorem dX4_add_67 : decode cX4_add 67 = .ok (.iastore, 1) := by decide +kernel
theorem dX4_add_68 : decode cX4_add 68 = .ok (.aload_n 0, 1) := by decide +kernel
theorem dX4_add_69 : decode cX4_add 69 = .ok (.iconst 0, 1) := by decide +kernel
theorem dX4_add_70 : decode cX4_add 70 = .ok (.aload 5, 2) := by decide +kernel
theorem dX4_add_72 : decode cX4_add 72 = .ok (.getfield 142, 3) := by decide +kernel
theorem dX4_add_75 : decode cX4_add 75 = .ok (.iload 6, 2) := by decide +kernel
theorem dX4_add_77 : decode cX4_add 77 = .ok (.iaload, 1) := by decide +kernel
theorem dX4_add_78 : decode cX4_add 78 = .ok (.invokevirtual 118, 3) := by decide +kernel
theorem dX4_add_81 : decode cX4_add 81 = .ok (.ireturn, 1) := by decide +kernel
set_option maxRecDepth 20000 in
theorem ggX4_raise_X4_findTrack : GoodIn wsX4_raise wsX4_findTrack := goodIn_r _ [7, 8, 21, 22, 23, 24, 25, 26, 27, 28] (by decide +kernel) (by decide +kernel)
set_option maxRecDepth 20000 in
theorem gX4_raise_X4_findTrack : GoodIn wsX4_raise (wsV RX4 66 RX4 yX4_findTrack wsX4_findTrack) := goodIn_app (goodIn_of _ (by decide +kernel)) ggX4_raise_X4_findTrack
set_option maxRecDepth 20000 in
theorem ggX4_raise_X4_fail : GoodIn wsX4_raise wsX4_fail := goodIn_r _ [12, 13, 14, 15, 6, 16, 17, 18, 2, 21, 22, 23, 24, 25, 26, 27, 28] (by decide +kernel) (by decide +kernel)
set_option maxRecDepth 20000 in
theorem gX4_raise_X4_fail : GoodIn wsX4_raise (wsV RX4 107 RX4 yX4_fail wsX4_fail) := goodIn_app (goodIn_of _ (by decide +kernel)) ggX4_raise_X4_fail
theorem dX4_raise_0 : decode cX4_raise 0 = .ok (.aload_n 0, 1) := by decide +kernel
theorem dX4_raise_1 : decode cX4_raise 1 = .ok (.iload_n 1, 1) := by decide +kernel
theorem dX4_raise_2 : decode cX4_raise 2 = .ok (.invokevirtual 66, 3) := by decide +kernel
theorem dX4_raise_5 : decode cX4_raise 5 = .ok (.astore_n 2, 1) := by decide +kernel
theorem dX4_raise_6 : decode cX4_raise 6 = .ok (.aload_n 2, 1) := by decide +kernel
theorem dX4_raise_7 : decode cX4_raise 7 = .ok (.ifnonnull 6, 3) := by decide +kernel
theorem dX4_raise_10 : decode cX4_raise 10 = .ok (.bipush (-101), 2) := by decide +kernel
theorem dX4_raise_12 : decode cX4_raise 12 = .ok (.ireturn, 1) := by decide +kernel
theorem dX4_raise_13 : decode cX4_raise 13 = .ok (.aload_n 2, 1) := by decide +kernel
theorem dX4_raise_14 : decode cX4_raise 14 = .ok (.getfield 77, 3) := by decide +kernel
theorem dX4_raise_17 : decode cX4_raise 17 = .ok (.iconst (-1), 1) := by decide +kernel
theorem dX4_raise_18 : decode cX4_raise 18 = .ok (.if_icmp .ne 10, 3) := by decide +kernel
theorem dX4_raise_21 : decode cX4_raise 21 = .ok (.aload_n 0, 1) := by decide +kernel
theorem dX4_raise_22 : decode cX4_raise 22 = .ok (.iconst 1, 1) := by decide +kernel
theorem dX4_raise_23 : decode cX4_raise 23 = .ok (.iconst 0, 1) := by decide +kernel
theorem dX4_raise_24 : decode cX4_raise 24 = .ok (.invokevirtual 107, 3) := by decide +kernel
theorem dX4_raise_27 : decode cX4_raise 27 = .ok (.ireturn, 1) := by decide +kernel
theorem dX4_raise_28 : decode cX4_raise 28 = .ok (.aload_n 0, 1) := by decide +kernel
theorem dX4_raise_29 : decode cX4_raise 29 = .ok (.bipush 6, 2) := by decide +kernel
theorem dX4_raise_31 : decode cX4_raise 31 = .ok (.iconst 0, 1) := by decide +kernel
theorem dX4_raise_32 : decode cX4_raise 32 = .ok (.invokevirtual 107, 3) := by decide +kernel
theorem dX4_raise_35 : decode cX4_raise 35 = .ok (.istore_n 3, 1) := by decide +kernel
theorem dX4_raise_36 : decode cX4_raise 36 = .ok (.aload_n 0, 1) := by decide +kernel
theorem dX4_raise_37 : decode cX4_raise 37 = .ok (.aload_n 2, 1) := by decide +kernel
theorem dX4_raise_38 : decode cX4_raise 38 = .ok (.getfield 77, 3) := by decide +kernel
theorem dX4_raise_41 : decode cX4_raise 41 = .ok (.putfield 146, 3) := by decide +kernel
theorem dX4_raise_44 : decode cX4_raise 44 = .ok (.iload_n 3, 1) := by decide +kernel
theorem dX4_raise_45 : decode cX4_raise 45 = .ok (.ireturn, 1) := by decide +kernel
theorem dX4_told_0 : decode cX4_told 0 = .ok (.iload_n 1, 1) := by decide +kernel
theorem dX4_told_1 : decode cX4_told 1 = .ok (.tableswitch 42 0 2 #[27, 32, 37], 27) := by decide +kernel
theorem dX4_told_28 : decode cX4_told 28 = .ok (.aload_n 0, 1) := by decide +kernel
theorem dX4_told_29 : decode cX4_told 29 = .ok (.getfield 149, 3) := by decide +kernel
theorem dX4_told_32 : decode cX4_told 32 = .ok (.ireturn, 1) := by decide +kernel
theorem dX4_told_33 : decode cX4_told 33 = .ok (.aload_n 0, 1) := by decide +kernel
theorem dX4_told_34 : decode cX4_told 34 = .ok (.getfield 152, 3) := by decide +kernel
theorem dX4_told_37 : decode cX4_told 37 = .ok (.ireturn, 1) := by decide +kernel
theorem dX4_told_38 : decode cX4_told 38 = .ok (.aload_n 0, 1) := by decide +kernel
theorem dX4_told_39 : decode cX4_told 39 = .ok (.getfield 146, 3) := by decide +kernel
theorem dX4_told_42 : decode cX4_told 42 = .ok (.ireturn, 1) := by decide +kernel
theorem dX4_told_43 : decode cX4_told 43 = .ok (.bipush (-101), 2) := by decide +kernel
theorem dX4_told_45 : decode cX4_told 45 = .ok (.ireturn, 1) := by decide +kernel
set_option maxRecDepth 20000 in
theorem ggX4_about_X4_findWagon : GoodIn wsX4_about wsX4_findWagon := goodIn_r _ [9, 10, 21, 22, 23, 24, 25, 26, 27, 28] (by decide +kernel) (by decide +kernel)
set_option maxRecDepth 20000 in
theorem gX4_about_X4_findWagon : GoodIn wsX4_about (wsV RX4 47 RX4 yX4_findWagon wsX4_findWagon) := goodIn_app (goodIn_of _ (by decide +kernel)) ggX4_about_X4_findWagon
set_option maxRecDepth 20000 in
theorem ggX4_about_X4_numberOf : GoodIn wsX4_about wsX4_numberOf := goodIn_r _ [13, 14, 15, 16, 17, 18, 19, 20] (by decide +kernel) (by decide +kernel)
set_option maxRecDepth 20000 in
theorem gX4_about_X4_numberOf : GoodIn wsX4_about (va_wsS RX4 73 yX4_numberOf wsX4_numberOf) := goodIn_app (goodIn_of _ (by decide +kernel)) ggX4_about_X4_numberOf
theorem dX4_about_0 : decode cX4_about 0 = .ok (.aload_n 0, 1) := by decide +kernel
theorem dX4_about_1 : decode cX4_about 1 = .ok (.iload_n 1, 1) := by decide +kernel
theorem dX4_about_2 : decode cX4_about 2 = .ok (.invokevirtual 47, 3) := by decide +kernel
theorem dX4_about_5 : decode cX4_about 5 = .ok (.astore_n 3, 1) := by decide +kernel
theorem dX4_about_6 : decode cX4_about 6 = .ok (.aload_n 3, 1) := by decide +kernel
theorem dX4_about_7 : decode cX4_about 7 = .ok (.ifnonnull 6, 3) := by decide +kernel
theorem dX4_about_10 : decode cX4_about 10 = .ok (.bipush (-101), 2) := by decide +kernel
theorem dX4_about_12 : decode cX4_about 12 = .ok (.ireturn, 1) := by decide +kernel
theorem dX4_about_13 : decode cX4_about 13 = .ok (.iload_n 2, 1) := by decide +kernel
theorem dX4_about_14 : decode cX4_about 14 = .ok (.tableswitch 53 0 3 #[30, 35, 40, 48], 30) := by decide +kernel
theorem dX4_about_44 : decode cX4_about 44 = .ok (.aload_n 3, 1) := by decide +kernel
theorem dX4_about_45 : decode cX4_about 45 = .ok (.getfield 97, 3) := by decide +kernel
theorem dX4_about_48 : decode cX4_about 48 = .ok (.ireturn, 1) := by decide +kernel
theorem dX4_about_49 : decode cX4_about 49 = .ok (.aload_n 3, 1) := by decide +kernel
theorem dX4_about_50 : decode cX4_about 50 = .ok (.getfield 91, 3) := by decide +kernel
theorem dX4_about_53 : decode cX4_about 53 = .ok (.ireturn, 1) := by decide +kernel
theorem dX4_about_54 : decode cX4_about 54 = .ok (.aload_n 3, 1) := by decide +kernel
theorem dX4_about_55 : decode cX4_about 55 = .ok (.getfield 51, 3) := by decide +kernel
theorem dX4_about_58 : decode cX4_about 58 = .ok (.invokestatic 73, 3) := by decide +kernel
theorem dX4_about_61 : decode cX4_about 61 = .ok (.ireturn, 1) := by decide +kernel
theorem dX4_about_62 : decode cX4_about 62 = .ok (.aload_n 3, 1) := by decide +kernel
theorem dX4_about_63 : decode cX4_about 63 = .ok (.getfield 59, 3) := by decide +kernel
theorem dX4_about_66 : decode cX4_about 66 = .ok (.ireturn, 1) := by decide +kernel
theorem dX4_about_67 : decode cX4_about 67 = .ok (.bipush (-101), 2) := by decide +kernel
theorem dX4_about_69 : decode cX4_about 69 = .ok (.ireturn, 1) := by decide +kernel
set_option maxRecDepth 20000 in
theorem ggX4_onRake_X4_findRake : GoodIn wsX4_onRake wsX4_findRake := goodIn_r _ [6, 7, 24, 25, 26, 27, 28, 29, 30, 31] (by decide +kernel) (by decide +kernel)
set_option maxRecDepth 20000 in
theorem gX4_onRake_X4_findRake : GoodIn wsX4_onRake (wsV RX4 110 RX4 yX4_findRake wsX4_findRake) := goodIn_app (goodIn_of _ (by decide +kernel)) ggX4_onRake_X4_findRake
set_option maxRecDepth 20000 in
theorem ggX4_onRake_X0_hasPlace : GoodIn wsX4_onRake wsX0_hasPlace := goodIn_r _ [12, 13, 14, 15, 20, 21, 22, 23] (by decide +kernel) (by decide +kernel)
set_option maxRecDepth 20000 in
theorem gX4_onRake_X0_hasPlace : GoodIn wsX4_onRake (wsV RX4 124 RX0 yX0_hasPlace wsX0_hasPlace) := goodIn_app (goodIn_of _ (by decide +kernel)) ggX4_onRake_X0_hasPlace
set_option maxRecDepth 20000 in
theorem ggX4_onRake_X4_numberOf : GoodIn wsX4_onRake wsX4_numberOf := goodIn_r _ [18, 19, 32, 33, 34, 35, 36, 37] (by decide +kernel) (by decide +kernel)
set_option maxRecDepth 20000 in
theorem gX4_onRake_X4_numberOf : GoodIn wsX4_onRake (va_wsS RX4 73 yX4_numberOf wsX4_numberOf) := goodIn_app (goodIn_of _ (by decide +kernel)) ggX4_onRake_X4_numberOf
theorem dX4_onRake_0 : decode cX4_onRake 0 = .ok (.aload_n 0, 1) := by decide +kernel
theorem dX4_onRake_1 : decode cX4_onRake 1 = .ok (.iload_n 1, 1) := by decide +kernel
theorem dX4_onRake_2 : decode cX4_onRake 2 = .ok (.invokevirtual 110, 3) := by decide +kernel
theorem dX4_onRake_5 : decode cX4_onRake 5 = .ok (.astore_n 3, 1) := by decide +kernel
theorem dX4_onRake_6 : decode cX4_onRake 6 = .ok (.aload_n 3, 1) := by decide +kernel
theorem dX4_onRake_7 : decode cX4_onRake 7 = .ok (.ifnonnull 6, 3) := by decide +kernel
theorem dX4_onRake_10 : decode cX4_onRake 10 = .ok (.bipush (-101), 2) := by decide +kernel
theorem dX4_onRake_12 : decode cX4_onRake 12 = .ok (.ireturn, 1) := by decide +kernel
theorem dX4_onRake_13 : decode cX4_onRake 13 = .ok (.aload_n 3, 1) := by decide +kernel
theorem dX4_onRake_14 : decode cX4_onRake 14 = .ok (.iload_n 2, 1) := by decide +kernel
theorem dX4_onRake_15 : decode cX4_onRake 15 = .ok (.invokevirtual 124, 3) := by decide +kernel
theorem dX4_onRake_18 : decode cX4_onRake 18 = .ok (.ifCond .eq 15, 3) := by decide +kernel
theorem dX4_onRake_21 : decode cX4_onRake 21 = .ok (.aload_n 3, 1) := by decide +kernel
theorem dX4_onRake_22 : decode cX4_onRake 22 = .ok (.getfield 128, 3) := by decide +kernel
theorem dX4_onRake_25 : decode cX4_onRake 25 = .ok (.iload_n 2, 1) := by decide +kernel
theorem dX4_onRake_26 : decode cX4_onRake 26 = .ok (.aaload, 1) := by decide +kernel
theorem dX4_onRake_27 : decode cX4_onRake 27 = .ok (.invokestatic 73, 3) := by decide +kernel
theorem dX4_onRake_30 : decode cX4_onRake 30 = .ok (.goto 4, 3) := by decide +kernel
theorem dX4_onRake_33 : decode cX4_onRake 33 = .ok (.iconst (-1), 1) := by decide +kernel
theorem dX4_onRake_34 : decode cX4_onRake 34 = .ok (.ireturn, 1) := by decide +kernel
theorem dX4_findWagon_0 : decode cX4_findWagon 0 = .ok (.iload_n 1, 1) := by decide +kernel
theorem dX4_findWagon_1 : decode cX4_findWagon 1 = .ok (.ifCond .lt 21, 3) := by decide +kernel
theorem dX4_findWagon_4 : decode cX4_findWagon 4 = .ok (.iload_n 1, 1) := by decide +kernel
theorem dX4_findWagon_5 : decode cX4_findWagon 5 = .ok (.aload_n 0, 1) := by decide +kernel
theorem dX4_findWagon_6 : decode cX4_findWagon 6 = .ok (.getfield 11, 3) := by decide +kernel
theorem dX4_findWagon_9 : decode cX4_findWagon 9 = .ok (.arraylength, 1) := by decide +kernel
theorem dX4_findWagon_10 : decode cX4_findWagon 10 = .ok (.if_icmp .ge 12, 3) := by decide +kernel
theorem dX4_findWagon_13 : decode cX4_findWagon 13 = .ok (.aload_n 0, 1) := by decide +kernel
theorem dX4_findWagon_14 : decode cX4_findWagon 14 = .ok (.getfield 11, 3) := by decide +kernel
theorem dX4_findWagon_17 : decode cX4_findWagon 17 = .ok (.iload_n 1, 1) := by decide +kernel
theorem dX4_findWagon_18 : decode cX4_findWagon 18 = .ok (.aaload, 1) := by decide +kernel
theorem dX4_findWagon_19 : decode cX4_findWagon 19 = .ok (.goto 4, 3) := by decide +kernel
theorem dX4_findWagon_22 : decode cX4_findWagon 22 = .ok (.aconst_null, 1) := by decide +kernel
theorem dX4_findWagon_23 : decode cX4_findWagon 23 = .ok (.areturn, 1) := by decide +kernel
theorem dX4_findTrack_0 : decode cX4_findTrack 0 = .ok (.iload_n 1, 1) := by decide +kernel
theorem dX4_findTrack_1 : decode cX4_findTrack 1 = .ok (.ifCond .lt 21, 3) := by decide +kernel
theorem dX4_findTrack_4 : decode cX4_findTrack 4 = .ok (.iload_n 1, 1) := by decide +kernel
theorem dX4_findTrack_5 : decode cX4_findTrack 5 = .ok (.aload_n 0, 1) := by decide +kernel
theorem dX4_findTrack_6 : decode cX4_findTrack 6 = .ok (.getfield 17, 3) := by decide +kernel
theorem dX4_findTrack_9 : decode cX4_findTrack 9 = .ok (.arraylength, 1) := by decide +kernel
theorem dX4_findTrack_10 : decode cX4_findTrack 10 = .ok (.if_icmp .ge 12, 3) := by decide +kernel
theorem dX4_findTrack_13 : decode cX4_findTrack 13 = .ok (.aload_n 0, 1) := by decide +kernel
theorem dX4_findTrack_14 : decode cX4_findTrack 14 = .ok (.getfield 17, 3) := by decide +kernel
theorem dX4_findTrack_17 : decode cX4_findTrack 17 = .ok (.iload_n 1, 1) := by decide +kernel
theorem dX4_findTrack_18 : decode cX4_findTrack 18 = .ok (.aaload, 1) := by decide +kernel
theorem dX4_findTrack_19 : decode cX4_findTrack 19 = .ok (.goto 4, 3) := by decide +kernel
theorem dX4_findTrack_22 : decode cX4_findTrack 22 = .ok (.aconst_null, 1) := by decide +kernel
theorem dX4_findTrack_23 : decode cX4_findTrack 23 = .ok (.areturn, 1) := by decide +kernel
theorem dX4_findRake_0 : decode cX4_findRake 0 = .ok (.iload_n 1, 1) := by decide +kernel
theorem dX4_findRake_1 : decode cX4_findRake 1 = .ok (.ifCond .lt 21, 3) := by decide +kernel
theorem dX4_findRake_4 : decode cX4_findRake 4 = .ok (.iload_n 1, 1) := by decide +kernel
theorem dX4_findRake_5 : decode cX4_findRake 5 = .ok (.aload_n 0, 1) := by decide +kernel
theorem dX4_findRake_6 : decode cX4_findRake 6 = .ok (.getfield 23, 3) := by decide +kernel
theorem dX4_findRake_9 : decode cX4_findRake 9 = .ok (.arraylength, 1) := by decide +kernel
theorem dX4_findRake_10 : decode cX4_findRake 10 = .ok (.if_icmp .ge 12, 3) := by decide +kernel
theorem dX4_findRake_13 : decode cX4_findRake 13 = .ok (.aload_n 0, 1) := by decide +kernel
theorem dX4_findRake_14 : decode cX4_findRake 14 = .ok (.getfield 23, 3) := by decide +kernel
theorem dX4_findRake_17 : decode cX4_findRake 17 = .ok (.iload_n 1, 1) := by decide +kernel
theorem dX4_findRake_18 : decode cX4_findRake 18 = .ok (.aaload, 1) := by decide +kernel
theorem dX4_findRake_19 : decode cX4_findRake 19 = .ok (.goto 4, 3) := by decide +kernel
theorem dX4_findRake_22 : decode cX4_findRake 22 = .ok (.aconst_null, 1) := by decide +kernel
theorem dX4_findRake_23 : decode cX4_findRake 23 = .ok (.areturn, 1) := by decide +kernel
theorem dX4_findTable_0 : decode cX4_findTable 0 = .ok (.iload_n 1, 1) := by decide +kernel
theorem dX4_findTable_1 : decode cX4_findTable 1 = .ok (.ifCond .lt 21, 3) := by decide +kernel
theorem dX4_findTable_4 : decode cX4_findTable 4 = .ok (.iload_n 1, 1) := by decide +kernel
theorem dX4_findTable_5 : decode cX4_findTable 5 = .ok (.aload_n 0, 1) := by decide +kernel
theorem dX4_findTable_6 : decode cX4_findTable 6 = .ok (.getfield 29, 3) := by decide +kernel
theorem dX4_findTable_9 : decode cX4_findTable 9 = .ok (.arraylength, 1) := by decide +kernel
theorem dX4_findTable_10 : decode cX4_findTable 10 = .ok (.if_icmp .ge 12, 3) := by decide +kernel
theorem dX4_findTable_13 : decode cX4_findTable 13 = .ok (.aload_n 0, 1) := by decide +kernel
theorem dX4_findTable_14 : decode cX4_findTable 14 = .ok (.getfield 29, 3) := by decide +kernel
theorem dX4_findTable_17 : decode cX4_findTable 17 = .ok (.iload_n 1, 1) := by decide +kernel
theorem dX4_findTable_18 : decode cX4_findTable 18 = .ok (.aaload, 1) := by decide +kernel
theorem dX4_findTable_19 : decode cX4_findTable 19 = .ok (.goto 4, 3) := by decide +kernel
theorem dX4_findTable_22 : decode cX4_findTable 22 = .ok (.aconst_null, 1) := by decide +kernel
theorem dX4_findTable_23 : decode cX4_findTable 23 = .ok (.areturn, 1) := by decide +kernel
set_option maxRecDepth 20000 in
theorem ggX4_reach_X4_findTrack : GoodIn wsX4_reach wsX4_findTrack := goodIn_r _ [5, 6, 24, 25, 26, 27, 28, 29, 30, 31] (by decide +kernel) (by decide +kernel)
set_option maxRecDepth 20000 in
theorem gX4_reach_X4_findTrack : GoodIn wsX4_reach (wsV RX4 66 RX4 yX4_findTrack wsX4_findTrack) := goodIn_app (goodIn_of _ (by decide +kernel)) ggX4_reach_X4_findTrack
set_option maxRecDepth 20000 in
theorem ggX4_reach_X4_isOutsideTrack : GoodIn wsX4_reach wsX4_isOutsideTrack := goodIn_r _ [9] (by decide +kernel) (by decide +kernel)
set_option maxRecDepth 20000 in
theorem gX4_reach_X4_isOutsideTrack : GoodIn wsX4_reach (va_wsS RX4 155 yX4_isOutsideTrack wsX4_isOutsideTrack) := goodIn_app (goodIn_of _ (by decide +kernel)) ggX4_reach_X4_isOutsideTrack
set_option maxRecDepth 20000 in
theorem ggX4_reach_X2_nth : GoodIn wsX4_reach wsX2_nth := goodIn_r _ [14, 15, 16, 32, 33, 34, 35, 36, 37, 38, 39] (by decide +kernel) (by decide +kernel)
set_option maxRecDepth 20000 in
theorem gX4_reach_X2_nth : GoodIn wsX4_reach (wsV RX4 158 RX2 yX2_nth wsX2_nth) := goodIn_app (goodIn_of _ (by decide +kernel)) ggX4_reach_X2_nth
set_option maxRecDepth 20000 in
theorem ggX4_reach_X4_tell : GoodIn wsX4_reach wsX4_tell := goodIn_r _ [20, 21, 22, 23, 24, 25, 26, 27, 28, 29, 30, 31] (by decide +kernel) (by decide +kernel)
set_option maxRecDepth 20000 in
theorem gX4_reach_X4_tell : GoodIn wsX4_reach (wsV RX4 161 RX4 yX4_tell wsX4_tell) := goodIn_app (goodIn_of _ (by decide +kernel)) ggX4_reach_X4_tell
theorem dX4_reach_0 : decode cX4_reach 0 = .ok (.aload_n 0, 1) := by decide +kernel
theorem dX4_reach_1 : decode cX4_reach 1 = .ok (.iload_n 1, 1) := by decide +kernel
theorem dX4_reach_2 : decode cX4_reach 2 = .ok (.invokevirtual 66, 3) := by decide +kernel
theorem dX4_reach_5 : decode cX4_reach 5 = .ok (.astore_n 3, 1) := by decide +kernel
theorem dX4_reach_6 : decode cX4_reach 6 = .ok (.aload_n 3, 1) := by decide +kernel
theorem dX4_reach_7 : decode cX4_reach 7 = .ok (.ifnull 10, 3) := by decide +kernel
theorem dX4_reach_10 : decode cX4_reach 10 = .ok (.iload_n 2, 1) := by decide +kernel
theorem dX4_reach_11 : decode cX4_reach 11 = .ok (.invokestatic 155, 3) := by decide +kernel
theorem dX4_reach_14 : decode cX4_reach 14 = .ok (.ifCond .eq 5, 3) := by decide +kernel
theorem dX4_reach_17 : decode cX4_reach 17 = .ok (.aconst_null, 1) := by decide +kernel
theorem dX4_reach_18 : decode cX4_reach 18 = .ok (.areturn, 1) := by decide +kernel
theorem dX4_reach_19 : decode cX4_reach 19 = .ok (.aload_n 3, 1) := by decide +kernel
theorem dX4_reach_20 : decode cX4_reach 20 = .ok (.iload_n 2, 1) := by decide +kernel
theorem dX4_reach_21 : decode cX4_reach 21 = .ok (.invokevirtual 158, 3) := by decide +kernel
theorem dX4_reach_24 : decode cX4_reach 24 = .ok (.astore 4, 2) := by decide +kernel
theorem dX4_reach_26 : decode cX4_reach 26 = .ok (.aload 4, 2) := by decide +kernel
theorem dX4_reach_28 : decode cX4_reach 28 = .ok (.ifnull 9, 3) := by decide +kernel
theorem dX4_reach_31 : decode cX4_reach 31 = .ok (.aload_n 0, 1) := by decide +kernel
theorem dX4_reach_32 : decode cX4_reach 32 = .ok (.iconst 0, 1) := by decide +kernel
theorem dX4_reach_33 : decode cX4_reach 33 = .ok (.iload_n 2, 1) := by decide +kernel
theorem dX4_reach_34 : decode cX4_reach 34 = .ok (.invokevirtual 161, 3) := by decide +kernel
theorem dX4_reach_37 : decode cX4_reach 37 = .ok (.aload 4, 2) := by decide +kernel
theorem dX4_reach_39 : decode cX4_reach 39 = .ok (.areturn, 1) := by decide +kernel
set_option maxRecDepth 20000 in
theorem ggX4_answerUnreached_X4_findTrack : GoodIn wsX4_answerUnreached wsX4_findTrack := goodIn_r _ [5, 6, 28, 29, 30, 31, 32, 33, 34, 35] (by decide +kernel) (by decide +kernel)
set_option maxRecDepth 20000 in
theorem gX4_answerUnreached_X4_findTrack : GoodIn wsX4_answerUnreached (wsV RX4 66 RX4 yX4_findTrack wsX4_findTrack) := goodIn_app (goodIn_of _ (by decide +kernel)) ggX4_answerUnreached_X4_findTrack
set_option maxRecDepth 20000 in
theorem ggX4_answerUnreached_X4_isOutsideTrack : GoodIn wsX4_answerUnreached wsX4_isOutsideTrack := goodIn_r _ [9] (by decide +kernel) (by decide +kernel)
set_option maxRecDepth 20000 in
theorem gX4_answerUnreached_X4_isOutsideTrack : GoodIn wsX4_answerUnreached (va_wsS RX4 155 yX4_isOutsideTrack wsX4_isOutsideTrack) := goodIn_app (goodIn_of _ (by decide +kernel)) ggX4_answerUnreached_X4_isOutsideTrack
set_option maxRecDepth 20000 in
theorem ggX4_answerUnreached_X2_length : GoodIn wsX4_answerUnreached wsX2_length := goodIn_r _ [14, 15, 16, 36, 37, 38, 39, 40, 41, 42, 43] (by decide +kernel) (by decide +kernel)
set_option maxRecDepth 20000 in
theorem gX4_answerUnreached_X2_length : GoodIn wsX4_answerUnreached (wsV RX4 164 RX2 yX2_length wsX2_length) := goodIn_app (goodIn_of _ (by decide +kernel)) ggX4_answerUnreached_X2_length
set_option maxRecDepth 20000 in
theorem ggX4_answerUnreached_X4_fail : GoodIn wsX4_answerUnreached wsX4_fail := goodIn_r _ [20, 21, 22, 23, 4, 24, 25, 26, 27, 28, 29, 30, 31, 32, 33, 34, 35] (by decide +kernel) (by decide +kernel)
set_option maxRecDepth 20000 in
theorem gX4_answerUnreached_X4_fail : GoodIn wsX4_answerUnreached (wsV RX4 107 RX4 yX4_fail wsX4_fail) := goodIn_app (goodIn_of _ (by decide +kernel)) ggX4_answerUnreached_X4_fail
theorem dX4_answerUnreached_0 : decode cX4_answerUnreached 0 = .ok (.aload_n 0, 1) := by decide +kernel
theorem dX4_answerUnreached_1 : decode cX4_answerUnreached 1 = .ok (.iload_n 1, 1) := by decide +kernel
theorem dX4_answerUnreached_2 : decode cX4_answerUnreached 2 = .ok (.invokevirtual 66, 3) := by decide +kernel
theorem dX4_answerUnreached_5 : decode cX4_answerUnreached 5 = .ok (.astore_n 3, 1) := by decide +kernel
theorem dX4_answerUnreached_6 : decode cX4_answerUnreached 6 = .ok (.aload_n 3, 1) := by decide +kernel
theorem dX4_answerUnreached_7 : decode cX4_answerUnreached 7 = .ok (.ifnonnull 6, 3) := by decide +kernel
theorem dX4_answerUnreached_10 : decode cX4_answerUnreached 10 = .ok (.bipush (-101), 2) := by decide +kernel
theorem dX4_answerUnreached_12 : decode cX4_answerUnreached 12 = .ok (.ireturn, 1) := by decide +kernel
theorem dX4_answerUnreached_13 : decode cX4_answerUnreached 13 = .ok (.iload_n 2, 1) := by decide +kernel
theorem dX4_answerUnreached_14 : decode cX4_answerUnreached 14 = .ok (.invokestatic 155, 3) := by decide +kernel
theorem dX4_answerUnreached_17 : decode cX4_answerUnreached 17 = .ok (.ifCond .eq 8, 3) := by decide +kernel
theorem dX4_answerUnreached_20 : decode cX4_answerUnreached 20 = .ok (.bipush (-102), 2) := by decide +kernel
theorem dX4_answerUnreached_22 : decode cX4_answerUnreached 22 = .ok (.goto 12, 3) := by decide +kernel
theorem dX4_answerUnreached_25 : decode cX4_answerUnreached 25 = .ok (.aload_n 0, 1) := by decide +kernel
theorem dX4_answerUnreached_26 : decode cX4_answerUnreached 26 = .ok (.iconst 1, 1) := by decide +kernel
theorem dX4_answerUnreached_27 : decode cX4_answerUnreached 27 = .ok (.aload_n 3, 1) := by decide +kernel
theorem dX4_answerUnreached_28 : decode cX4_answerUnreached 28 = .ok (.invokevirtual 164, 3) := by decide +kernel
theorem dX4_answerUnreached_31 : decode cX4_answerUnreached 31 = .ok (.invokevirtual 107, 3) := by decide +kernel
theorem dX4_answerUnreached_34 : decode cX4_answerUnreached 34 = .ok (.ireturn, 1) := by decide +kernel
theorem dX4_isOutsideTrack_0 : decode cX4_isOutsideTrack 0 = .ok (.iload_n 0, 1) := by decide +kernel
theorem dX4_isOutsideTrack_1 : decode cX4_isOutsideTrack 1 = .ok (.ifCond .lt 9, 3) := by decide +kernel
theorem dX4_isOutsideTrack_4 : decode cX4_isOutsideTrack 4 = .ok (.iload_n 0, 1) := by decide +kernel
theorem dX4_isOutsideTrack_5 : decode cX4_isOutsideTrack 5 = .ok (.bipush 40, 2) := by decide +kernel
theorem dX4_isOutsideTrack_7 : decode cX4_isOutsideTrack 7 = .ok (.if_icmp .le 7, 3) := by decide +kernel
theorem dX4_isOutsideTrack_10 : decode cX4_isOutsideTrack 10 = .ok (.iconst 1, 1) := by decide +kernel
theorem dX4_isOutsideTrack_11 : decode cX4_isOutsideTrack 11 = .ok (.goto 4, 3) := by decide +kernel
theorem dX4_isOutsideTrack_14 : decode cX4_isOutsideTrack 14 = .ok (.iconst 0, 1) := by decide +kernel
theorem dX4_isOutsideTrack_15 : decode cX4_isOutsideTrack 15 = .ok (.ireturn, 1) := by decide +kernel
theorem dX4_isKind_0 : decode cX4_isKind 0 = .ok (.iload_n 0, 1) := by decide +kernel
theorem dX4_isKind_1 : decode cX4_isKind 1 = .ok (.ifCond .lt 12, 3) := by decide +kernel
theorem dX4_isKind_4 : decode cX4_isKind 4 = .ok (.iload_n 0, 1) := by decide +kernel
theorem dX4_isKind_5 : decode cX4_isKind 5 = .ok (.iconst 4, 1) := by decide +kernel
theorem dX4_isKind_6 : decode cX4_isKind 6 = .ok (.if_icmp .gt 7, 3) := by decide +kernel
theorem dX4_isKind_9 : decode cX4_isKind 9 = .ok (.iconst 1, 1) := by decide +kernel
theorem dX4_isKind_10 : decode cX4_isKind 10 = .ok (.goto 4, 3) := by decide +kernel
theorem dX4_isKind_13 : decode cX4_isKind 13 = .ok (.iconst 0, 1) := by decide +kernel
theorem dX4_isKind_14 : decode cX4_isKind 14 = .ok (.ireturn, 1) := by decide +kernel
theorem dX4_isOf_0 : decode cX4_isOf 0 = .ok (.iload_n 1, 1) := by decide +kernel
theorem dX4_isOf_1 : decode cX4_isOf 1 = .ok (.ifCond .eq 28, 3) := by decide +kernel
theorem dX4_isOf_4 : decode cX4_isOf 4 = .ok (.iload_n 0, 1) := by decide +kernel
theorem dX4_isOf_5 : decode cX4_isOf 5 = .ok (.iload_n 1, 1) := by decide +kernel
theorem dX4_isOf_6 : decode cX4_isOf 6 = .ok (.if_icmp .eq 23, 3) := by decide +kernel
theorem dX4_isOf_9 : decode cX4_isOf 9 = .ok (.iload_n 0, 1) := by decide +kernel
theorem dX4_isOf_10 : decode cX4_isOf 10 = .ok (.iconst 2, 1) := by decide +kernel
theorem dX4_isOf_11 : decode cX4_isOf 11 = .ok (.if_icmp .ne 8, 3) := by decide +kernel
theorem dX4_isOf_14 : decode cX4_isOf 14 = .ok (.iload_n 1, 1) := by decide +kernel
theorem dX4_isOf_15 : decode cX4_isOf 15 = .ok (.iconst 1, 1) := by decide +kernel
theorem dX4_isOf_16 : decode cX4_isOf 16 = .ok (.if_icmp .eq 13, 3) := by decide +kernel
theorem dX4_isOf_19 : decode cX4_isOf 19 = .ok (.iload_n 0, 1) := by decide +kernel
theorem dX4_isOf_20 : decode cX4_isOf 20 = .ok (.iconst 4, 1) := by decide +kernel
theorem dX4_isOf_21 : decode cX4_isOf 21 = .ok (.if_icmp .ne 12, 3) := by decide +kernel
theorem dX4_isOf_24 : decode cX4_isOf 24 = .ok (.iload_n 1, 1) := by decide +kernel
theorem dX4_isOf_25 : decode cX4_isOf 25 = .ok (.iconst 3, 1) := by decide +kernel
theorem dX4_isOf_26 : decode cX4_isOf 26 = .ok (.if_icmp .ne 7, 3) := by decide +kernel
theorem dX4_isOf_29 : decode cX4_isOf 29 = .ok (.iconst 1, 1) := by decide +kernel
theorem dX4_isOf_30 : decode cX4_isOf 30 = .ok (.goto 4, 3) := by decide +kernel
theorem dX4_isOf_33 : decode cX4_isOf 33 = .ok (.iconst 0, 1) := by decide +kernel
theorem dX4_isOf_34 : decode cX4_isOf 34 = .ok (.ireturn, 1) := by decide +kernel
theorem dX4_hootOf_0 : decode cX4_hootOf 0 = .ok (.aload_n 0, 1) := by decide +kernel
theorem dX4_hootOf_1 : decode cX4_hootOf 1 = .ok (.getfield 97, 3) := by decide +kernel
theorem dX4_hootOf_4 : decode cX4_hootOf 4 = .ok (.tableswitch 57 1 4 #[32, 32, 39, 47], 32) := by decide +kernel
theorem dX4_hootOf_36 : decode cX4_hootOf 36 = .ok (.aload_n 0, 1) := by decide +kernel
theorem dX4_hootOf_37 : decode cX4_hootOf 37 = .ok (.getfield 91, 3) := by decide +kernel
theorem dX4_hootOf_40 : decode cX4_hootOf 40 = .ok (.iconst 1, 1) := by decide +kernel
theorem dX4_hootOf_41 : decode cX4_hootOf 41 = .ok (.iadd, 1) := by decide +kernel
theorem dX4_hootOf_42 : decode cX4_hootOf 42 = .ok (.ireturn, 1) := by decide +kernel
theorem dX4_hootOf_43 : decode cX4_hootOf 43 = .ok (.bipush 10, 2) := by decide +kernel
theorem dX4_hootOf_45 : decode cX4_hootOf 45 = .ok (.aload_n 0, 1) := by decide +kernel
theorem dX4_hootOf_46 : decode cX4_hootOf 46 = .ok (.getfield 91, 3) := by decide +kernel
theorem dX4_hootOf_49 : decode cX4_hootOf 49 = .ok (.imul, 1) := by decide +kernel
theorem dX4_hootOf_50 : decode cX4_hootOf 50 = .ok (.ireturn, 1) := by decide +kernel
theorem dX4_hootOf_51 : decode cX4_hootOf 51 = .ok (.bipush 10, 2) := by decide +kernel
theorem dX4_hootOf_53 : decode cX4_hootOf 53 = .ok (.aload_n 0, 1) := by decide +kernel
theorem dX4_hootOf_54 : decode cX4_hootOf 54 = .ok (.getfield 91, 3) := by decide +kernel
theorem dX4_hootOf_57 : decode cX4_hootOf 57 = .ok (.imul, 1) := by decide +kernel
theorem dX4_hootOf_58 : decode cX4_hootOf 58 = .ok (.iconst 1, 1) := by decide +kernel
theorem dX4_hootOf_59 : decode cX4_hootOf 59 = .ok (.isub, 1) := by decide +kernel
theorem dX4_hootOf_60 : decode cX4_hootOf 60 = .ok (.ireturn, 1) := by decide +kernel
theorem dX4_hootOf_61 : decode cX4_hootOf 61 = .ok (.aload_n 0, 1) := by decide +kernel
theorem dX4_hootOf_62 : decode cX4_hootOf 62 = .ok (.getfield 91, 3) := by decide +kernel
theorem dX4_hootOf_65 : decode cX4_hootOf 65 = .ok (.ireturn, 1) := by decide +kernel
theorem dX4_pullOf_0 : decode cX4_pullOf 0 = .ok (.iconst 0, 1) := by decide +kernel
theorem dX4_pullOf_1 : decode cX4_pullOf 1 = .ok (.istore_n 1, 1) := by decide +kernel
theorem dX4_pullOf_2 : decode cX4_pullOf 2 = .ok (.aload_n 0, 1) := by decide +kernel
theorem dX4_pullOf_3 : decode cX4_pullOf 3 = .ok (.getfield 51, 3) := by decide +kernel
theorem dX4_pullOf_6 : decode cX4_pullOf 6 = .ok (.astore_n 2, 1) := by decide +kernel
theorem dX4_pullOf_7 : decode cX4_pullOf 7 = .ok (.aload_n 2, 1) := by decide +kernel
theorem dX4_pullOf_8 : decode cX4_pullOf 8 = .ok (.ifnull 18, 3) := by decide +kernel
theorem dX4_pullOf_11 : decode cX4_pullOf 11 = .ok (.iload_n 1, 1) := by decide +kernel
theorem dX4_pullOf_12 : decode cX4_pullOf 12 = .ok (.aload_n 2, 1) := by decide +kernel
theorem dX4_pullOf_13 : decode cX4_pullOf 13 = .ok (.getfield 91, 3) := by decide +kernel
theorem dX4_pullOf_16 : decode cX4_pullOf 16 = .ok (.iadd, 1) := by decide +kernel
theorem dX4_pullOf_17 : decode cX4_pullOf 17 = .ok (.istore_n 1, 1) := by decide +kernel
theorem dX4_pullOf_18 : decode cX4_pullOf 18 = .ok (.aload_n 2, 1) := by decide +kernel
theorem dX4_pullOf_19 : decode cX4_pullOf 19 = .ok (.getfield 51, 3) := by decide +kernel
theorem dX4_pullOf_22 : decode cX4_pullOf 22 = .ok (.astore_n 2, 1) := by decide +kernel
theorem dX4_pullOf_23 : decode cX4_pullOf 23 = .ok (.goto (-16), 3) := by decide +kernel
theorem dX4_pullOf_26 : decode cX4_pullOf 26 = .ok (.aload_n 0, 1) := by decide +kernel
theorem dX4_pullOf_27 : decode cX4_pullOf 27 = .ok (.getfield 97, 3) := by decide +kernel
theorem dX4_pullOf_30 : decode cX4_pullOf 30 = .ok (.iconst 4, 1) := by decide +kernel
theorem dX4_pullOf_31 : decode cX4_pullOf 31 = .ok (.if_icmp .ne 12, 3) := by decide +kernel
theorem dX4_pullOf_34 : decode cX4_pullOf 34 = .ok (.iload_n 1, 1) := by decide +kernel
theorem dX4_pullOf_35 : decode cX4_pullOf 35 = .ok (.aload_n 0, 1) := by decide +kernel
theorem dX4_pullOf_36 : decode cX4_pullOf 36 = .ok (.getfield 91, 3) := by decide +kernel
theorem dX4_pullOf_39 : decode cX4_pullOf 39 = .ok (.isub, 1) := by decide +kernel
theorem dX4_pullOf_40 : decode cX4_pullOf 40 = .ok (.goto 4, 3) := by decide +kernel
theorem dX4_pullOf_43 : decode cX4_pullOf 43 = .ok (.iload_n 1, 1) := by decide +kernel
theorem dX4_pullOf_44 : decode cX4_pullOf 44 = .ok (.ireturn, 1) := by decide +kernel
theorem dX4_isAtOrBehind_0 : decode cX4_isAtOrBehind 0 = .ok (.aload_n 1, 1) := by decide +kernel
theorem dX4_isAtOrBehind_1 : decode cX4_isAtOrBehind 1 = .ok (.astore_n 2, 1) := by decide +kernel
theorem dX4_isAtOrBehind_2 : decode cX4_isAtOrBehind 2 = .ok (.aload_n 2, 1) := by decide +kernel
theorem dX4_isAtOrBehind_3 : decode cX4_isAtOrBehind 3 = .ok (.ifnull 18, 3) := by decide +kernel
theorem dX4_isAtOrBehind_6 : decode cX4_isAtOrBehind 6 = .ok (.aload_n 2, 1) := by decide +kernel
theorem dX4_isAtOrBehind_7 : decode cX4_isAtOrBehind 7 = .ok (.aload_n 0, 1) := by decide +kernel
theorem dX4_isAtOrBehind_8 : decode cX4_isAtOrBehind 8 = .ok (.if_acmp .ne 5, 3) := by decide +kernel
theorem dX4_isAtOrBehind_11 : decode cX4_isAtOrBehind 11 = .ok (.iconst 1, 1) := by decide +kernel
theorem dX4_isAtOrBehind_12 : decode cX4_isAtOrBehind 12 = .ok (.ireturn, 1) := by decide +kernel
theorem dX4_isAtOrBehind_13 : decode cX4_isAtOrBehind 13 = .ok (.aload_n 2, 1) := by decide +kernel
theorem dX4_isAtOrBehind_14 : decode cX4_isAtOrBehind 14 = .ok (.getfield 51, 3) := by decide +kernel
theorem dX4_isAtOrBehind_17 : decode cX4_isAtOrBehind 17 = .ok (.astore_n 2, 1) := by decide +kernel
theorem dX4_isAtOrBehind_18 : decode cX4_isAtOrBehind 18 = .ok (.goto (-16), 3) := by decide +kernel
theorem dX4_isAtOrBehind_21 : decode cX4_isAtOrBehind 21 = .ok (.iconst 0, 1) := by decide +kernel
theorem dX4_isAtOrBehind_22 : decode cX4_isAtOrBehind 22 = .ok (.ireturn, 1) := by decide +kernel
theorem dX4_numberOf_0 : decode cX4_numberOf 0 = .ok (.aload_n 0, 1) := by decide +kernel
theorem dX4_numberOf_1 : decode cX4_numberOf 1 = .ok (.ifnonnull 7, 3) := by decide +kernel
theorem dX4_numberOf_4 : decode cX4_numberOf 4 = .ok (.iconst (-1), 1) := by decide +kernel
theorem dX4_numberOf_5 : decode cX4_numberOf 5 = .ok (.goto 7, 3) := by decide +kernel
theorem dX4_numberOf_8 : decode cX4_numberOf 8 = .ok (.aload_n 0, 1) := by decide +kernel
theorem dX4_numberOf_9 : decode cX4_numberOf 9 = .ok (.getfield 88, 3) := by decide +kernel
theorem dX4_numberOf_12 : decode cX4_numberOf 12 = .ok (.ireturn, 1) := by decide +kernel
theorem dX4_tell_0 : decode cX4_tell 0 = .ok (.aload_n 0, 1) := by decide +kernel
theorem dX4_tell_1 : decode cX4_tell 1 = .ok (.iload_n 1, 1) := by decide +kernel
theorem dX4_tell_2 : decode cX4_tell 2 = .ok (.putfield 149, 3) := by decide +kernel
theorem dX4_tell_5 : decode cX4_tell 5 = .ok (.aload_n 0, 1) := by decide +kernel
theorem dX4_tell_6 : decode cX4_tell 6 = .ok (.iload_n 2, 1) := by decide +kernel
theorem dX4_tell_7 : decode cX4_tell 7 = .ok (.putfield 152, 3) := by decide +kernel
theorem dX4_tell_10 : decode cX4_tell 10 = .ok (.aload_n 0, 1) := by decide +kernel
theorem dX4_tell_11 : decode cX4_tell 11 = .ok (.iconst 0, 1) := by decide +kernel
theorem dX4_tell_12 : decode cX4_tell 12 = .ok (.putfield 146, 3) := by decide +kernel
theorem dX4_tell_15 : decode cX4_tell 15 = .ok (.return_, 1) := by decide +kernel
set_option maxRecDepth 20000 in
theorem ggX4_succeed_X4_tell : GoodIn wsX4_succeed wsX4_tell := goodIn_r _ [5, 6, 7, 8, 9, 10, 11, 12, 13, 14, 15, 16] (by decide +kernel) (by decide +kernel)
set_option maxRecDepth 20000 in
theorem gX4_succeed_X4_tell : GoodIn wsX4_succeed (wsV RX4 161 RX4 yX4_tell wsX4_tell) := goodIn_app (goodIn_of _ (by decide +kernel)) ggX4_succeed_X4_tell
theorem dX4_succeed_0 : decode cX4_succeed 0 = .ok (.aload_n 0, 1) := by decide +kernel
theorem dX4_succeed_1 : decode cX4_succeed 1 = .ok (.iconst 0, 1) := by decide +kernel
theorem dX4_succeed_2 : decode cX4_succeed 2 = .ok (.iload_n 1, 1) := by decide +kernel
theorem dX4_succeed_3 : decode cX4_succeed 3 = .ok (.invokevirtual 161, 3) := by decide +kernel
theorem dX4_succeed_6 : decode cX4_succeed 6 = .ok (.iload_n 2, 1) := by decide +kernel
theorem dX4_succeed_7 : decode cX4_succeed 7 = .ok (.ireturn, 1) := by decide +kernel
set_option maxRecDepth 20000 in
theorem ggX4_fail_X4_tell : GoodIn wsX4_fail wsX4_tell := goodIn_r _ [5, 6, 7, 8, 9, 10, 11, 12, 13, 14, 15, 16] (by decide +kernel) (by decide +kernel)
set_option maxRecDepth 20000 in
theorem gX4_fail_X4_tell : GoodIn wsX4_fail (wsV RX4 161 RX4 yX4_tell wsX4_tell) := goodIn_app (goodIn_of _ (by decide +kernel)) ggX4_fail_X4_tell
theorem dX4_fail_0 : decode cX4_fail 0 = .ok (.aload_n 0, 1) := by decide +kernel
theorem dX4_fail_1 : decode cX4_fail 1 = .ok (.iload_n 1, 1) := by decide +kernel
theorem dX4_fail_2 : decode cX4_fail 2 = .ok (.iload_n 2, 1) := by decide +kernel
theorem dX4_fail_3 : decode cX4_fail 3 = .ok (.invokevirtual 161, 3) := by decide +kernel
theorem dX4_fail_6 : decode cX4_fail 6 = .ok (.sipush (-200), 3) := by decide +kernel
theorem dX4_fail_9 : decode cX4_fail 9 = .ok (.iload_n 1, 1) := by decide +kernel
theorem dX4_fail_10 : decode cX4_fail 10 = .ok (.isub, 1) := by decide +kernel
theorem dX4_fail_11 : decode cX4_fail 11 = .ok (.ireturn, 1) := by decide +kernel
theorem dX5_init_0 : decode cX5_init 0 = .ok (.aload_n 0, 1) := by decide +kernel
theorem dX5_init_1 : decode cX5_init 1 = .ok (.invokespecial 1, 3) := by decide +kernel
theorem dX5_init_4 : decode cX5_init 4 = .ok (.aload_n 0, 1) := by decide +kernel
theorem dX5_init_5 : decode cX5_init 5 = .ok (.bipush 40, 2) := by decide +kernel
theorem dX5_init_7 : decode cX5_init 7 = .ok (.newarray .int, 2) := by decide +kernel
theorem dX5_init_9 : decode cX5_init 9 = .ok (.putfield 7, 3) := by decide +kernel
theorem dX5_init_12 : decode cX5_init 12 = .ok (.aload_n 0, 1) := by decide +kernel
theorem dX5_init_13 : decode cX5_init 13 = .ok (.bipush 40, 2) := by decide +kernel
theorem dX5_init_15 : decode cX5_init 15 = .ok (.newarray .int, 2) := by decide +kernel
theorem dX5_init_17 : decode cX5_init 17 = .ok (.putfield 13, 3) := by decide +kernel
theorem dX5_init_20 : decode cX5_init 20 = .ok (.aload_n 0, 1) := by decide +kernel
theorem dX5_init_21 : decode cX5_init 21 = .ok (.bipush 40, 2) := by decide +kernel
theorem dX5_init_23 : decode cX5_init 23 = .ok (.newarray .int, 2) := by decide +kernel
theorem dX5_init_25 : decode cX5_init 25 = .ok (.putfield 16, 3) := by decide +kernel
theorem dX5_init_28 : decode cX5_init 28 = .ok (.aload_n 0, 1) := by decide +kernel
theorem dX5_init_29 : decode cX5_init 29 = .ok (.bipush 6, 2) := by decide +kernel
theorem dX5_init_31 : decode cX5_init 31 = .ok (.newarray .int, 2) := by decide +kernel
theorem dX5_init_33 : decode cX5_init 33 = .ok (.putfield 19, 3) := by decide +kernel
theorem dX5_init_36 : decode cX5_init 36 = .ok (.aload_n 0, 1) := by decide +kernel
theorem dX5_init_37 : decode cX5_init 37 = .ok (.bipush 6, 2) := by decide +kernel
theorem dX5_init_39 : decode cX5_init 39 = .ok (.newarray .int, 2) := by decide +kernel
theorem dX5_init_41 : decode cX5_init 41 = .ok (.putfield 22, 3) := by decide +kernel
theorem dX5_init_44 : decode cX5_init 44 = .ok (.aload_n 0, 1) := by decide +kernel
theorem dX5_init_45 : decode cX5_init 45 = .ok (.iconst 4, 1) := by decide +kernel
theorem dX5_init_46 : decode cX5_init 46 = .ok (.newarray .int, 2) := by decide +kernel
theorem dX5_init_48 : decode cX5_init 48 = .ok (.putfield 25, 3) := by decide +kernel
theorem dX5_init_51 : decode cX5_init 51 = .ok (.aload_n 0, 1) := by decide +kernel
theorem dX5_init_52 : decode cX5_init 52 = .ok (.iconst 4, 1) := by decide +kernel
theorem dX5_init_53 : decode cX5_init 53 = .ok (.newarray .int, 2) := by decide +kernel
theorem dX5_init_55 : decode cX5_init 55 = .ok (.putfield 28, 3) := by decide +kernel
theorem dX5_init_58 : decode cX5_init 58 = .ok (.aload_n 0, 1) := by decide +kernel
theorem dX5_init_59 : decode cX5_init 59 = .ok (.bipush 48, 2) := by decide +kernel
theorem dX5_init_61 : decode cX5_init 61 = .ok (.newarray .int, 2) := by decide +kernel
theorem dX5_init_63 : decode cX5_init 63 = .ok (.putfield 31, 3) := by decide +kernel
theorem dX5_init_66 : decode cX5_init 66 = .ok (.aload_n 0, 1) := by decide +kernel
theorem dX5_init_67 : decode cX5_init 67 = .ok (.iconst 2, 1) := by decide +kernel
theorem dX5_init_68 : decode cX5_init 68 = .ok (.newarray .int, 2) := by decide +kernel
theorem dX5_init_70 : decode cX5_init 70 = .ok (.putfield 34, 3) := by decide +kernel
theorem dX5_init_73 : decode cX5_init 73 = .ok (.aload_n 0, 1) := by decide +kernel
theorem dX5_init_74 : decode cX5_init 74 = .ok (.iconst 2, 1) := by decide +kernel
theorem dX5_init_75 : decode cX5_init 75 = .ok (.newarray .int, 2) := by decide +kernel
theorem dX5_init_77 : decode cX5_init 77 = .ok (.putfield 37, 3) := by decide +kernel
theorem dX5_init_80 : decode cX5_init 80 = .ok (.aload_n 0, 1) := by decide +kernel
theorem dX5_init_81 : decode cX5_init 81 = .ok (.sipush 144, 3) := by decide +kernel
theorem dX5_init_84 : decode cX5_init 84 = .ok (.newarray .int, 2) := by decide +kernel
theorem dX5_init_86 : decode cX5_init 86 = .ok (.putfield 40, 3) := by decide +kernel
theorem dX5_init_89 : decode cX5_init 89 = .ok (.iconst 0, 1) := by decide +kernel
theorem dX5_init_90 : decode cX5_init 90 = .ok (.istore_n 1, 1) := by decide +kernel
theorem dX5_init_91 : decode cX5_init 91 = .ok (.iload_n 1, 1) := by decide +kernel
theorem dX5_init_92 : decode cX5_init 92 = .ok (.bipush 6, 2) := by decide +kernel
theorem dX5_init_94 : decode cX5_init 94 = .ok (.if_icmp .ge 23, 3) := by decide +kernel
theorem dX5_init_97 : decode cX5_init 97 = .ok (.aload_n 0, 1) := by decide +kernel
theorem dX5_init_98 : decode cX5_init 98 = .ok (.getfield 19, 3) := by decide +kernel
theorem dX5_init_101 : decode cX5_init 101 = .ok (.iload_n 1, 1) := by decide +kernel
theorem dX5_init_102 : decode cX5_init 102 = .ok (.iconst (-1), 1) := by decide +kernel
theorem dX5_init_103 : decode cX5_init 103 = .ok (.iastore, 1) := by decide +kernel
theorem dX5_init_104 : decode cX5_init 104 = .ok (.aload_n 0, 1) := by decide +kernel
theorem dX5_init_105 : decode cX5_init 105 = .ok (.getfield 22, 3) := by decide +kernel
theorem dX5_init_108 : decode cX5_init 108 = .ok (.iload_n 1, 1) := by decide +kernel
theorem dX5_init_109 : decode cX5_init 109 = .ok (.iconst (-1), 1) := by decide +kernel
theorem dX5_init_110 : decode cX5_init 110 = .ok (.iastore, 1) := by decide +kernel
theorem dX5_init_111 : decode cX5_init 111 = .ok (.iinc 1 1, 3) := by decide +kernel
theorem dX5_init_114 : decode cX5_init 114 = .ok (.goto (-23), 3) := by decide +kernel
theorem dX5_init_117 : decode cX5_init 117 = .ok (.iconst 0, 1) := by decide +kernel
theorem dX5_init_118 : decode cX5_init 118 = .ok (.istore_n 1, 1) := by decide +kernel
theorem dX5_init_119 : decode cX5_init 119 = .ok (.iload_n 1, 1) := by decide +kernel
theorem dX5_init_120 : decode cX5_init 120 = .ok (.iconst 4, 1) := by decide +kernel
theorem dX5_init_121 : decode cX5_init 121 = .ok (.if_icmp .ge 16, 3) := by decide +kernel
theorem dX5_init_124 : decode cX5_init 124 = .ok (.aload_n 0, 1) := by decide +kernel
theorem dX5_init_125 : decode cX5_init 125 = .ok (.getfield 25, 3) := by decide +kernel
theorem dX5_init_128 : decode cX5_init 128 = .ok (.iload_n 1, 1) := by decide +kernel
theorem dX5_init_129 : decode cX5_init 129 = .ok (.iconst (-1), 1) := by decide +kernel
theorem dX5_init_130 : decode cX5_init 130 = .ok (.iastore, 1) := by decide +kernel
theorem dX5_init_131 : decode cX5_init 131 = .ok (.iinc 1 1, 3) := by decide +kernel
theorem dX5_init_134 : decode cX5_init 134 = .ok (.goto (-15), 3) := by decide +kernel
theorem dX5_init_137 : decode cX5_init 137 = .ok (.aload_n 0, 1) := by decide +kernel
theorem dX5_init_138 : decode cX5_init 138 = .ok (.getfield 34, 3) := by decide +kernel
theorem dX5_init_141 : decode cX5_init 141 = .ok (.iconst 0, 1) := by decide +kernel
theorem dX5_init_142 : decode cX5_init 142 = .ok (.iconst (-1), 1) := by decide +kernel
theorem dX5_init_143 : decode cX5_init 143 = .ok (.iastore, 1) := by decide +kernel
theorem dX5_init_144 : decode cX5_init 144 = .ok (.aload_n 0, 1) := by decide +kernel
theorem dX5_init_145 : decode cX5_init 145 = .ok (.getfield 34, 3) := by decide +kernel
theorem dX5_init_148 : decode cX5_init 148 = .ok (.iconst 1, 1) := by decide +kernel
theorem dX5_init_149 : decode cX5_init 149 = .ok (.iconst (-1), 1) := by decide +kernel
theorem dX5_init_150 : decode cX5_init 150 = .ok (.iastore, 1) := by decide +kernel
theorem dX5_init_151 : decode cX5_init 151 = .ok (.return_, 1) := by decide +kernel
theorem dX5_in_0 : decode cX5_in 0 = .ok (.iload_n 0, 1) := by decide +kernel
theorem dX5_in_1 : decode cX5_in 1 = .ok (.iload_n 1, 1) := by decide +kernel
theorem dX5_in_2 : decode cX5_in 2 = .ok (.if_icmp .lt 12, 3) := by decide +kernel
theorem dX5_in_5 : decode cX5_in 5 = .ok (.iload_n 0, 1) := by decide +kernel
theorem dX5_in_6 : decode cX5_in 6 = .ok (.iload_n 2, 1) := by decide +kernel
theorem dX5_in_7 : decode cX5_in 7 = .ok (.if_icmp .gt 7, 3) := by decide +kernel
theorem dX5_in_10 : decode cX5_in 10 = .ok (.iconst 1, 1) := by decide +kernel
theorem dX5_in_11 : decode cX5_in 11 = .ok (.goto 4, 3) := by decide +kernel
theorem dX5_in_14 : decode cX5_in 14 = .ok (.iconst 0, 1) := by decide +kernel
theorem dX5_in_15 : decode cX5_in 15 = .ok (.ireturn, 1) := by decide +kernel
set_option maxRecDepth 20000 in
theorem ggX5_isWagon_X5_in : GoodIn wsX5_isWagon wsX5_in := goodIn_r _ [5] (by decide +kernel) (by decide +kernel)
set_option maxRecDepth 20000 in
theorem gX5_isWagon_X5_in : GoodIn wsX5_isWagon (va_wsS RX5 47 yX5_in wsX5_in) := goodIn_app (goodIn_of _ (by decide +kernel)) ggX5_isWagon_X5_in
theorem dX5_isWagon_0 : decode cX5_isWagon 0 = .ok (.iload_n 1, 1) := by decide +kernel
theorem dX5_isWagon_1 : decode cX5_isWagon 1 = .ok (.iconst 0, 1) := by decide +kernel
theorem dX5_isWagon_2 : decode cX5_isWagon 2 = .ok (.aload_n 0, 1) := by decide +kernel
theorem dX5_isWagon_3 : decode cX5_isWagon 3 = .ok (.getfield 43, 3) := by decide +kernel
theorem dX5_isWagon_6 : decode cX5_isWagon 6 = .ok (.iconst 1, 1) := by decide +kernel
theorem dX5_isWagon_7 : decode cX5_isWagon 7 = .ok (.isub, 1) := by decide +kernel
theorem dX5_isWagon_8 : decode cX5_isWagon 8 = .ok (.invokestatic 47, 3) := by decide +kernel
theorem dX5_isWagon_11 : decode cX5_isWagon 11 = .ok (.ireturn, 1) := by decide +kernel
set_option maxRecDepth 20000 in
theorem ggX5_isTrack_X5_in : GoodIn wsX5_isTrack wsX5_in := goodIn_r _ [4] (by decide +kernel) (by decide +kernel)
set_option maxRecDepth 20000 in
theorem gX5_isTrack_X5_in : GoodIn wsX5_isTrack (va_wsS RX5 47 yX5_in wsX5_in) := goodIn_app (goodIn_of _ (by decide +kernel)) ggX5_isTrack_X5_in
theorem dX5_isTrack_0 : decode cX5_isTrack 0 = .ok (.iload_n 0, 1) := by decide +kernel
theorem dX5_isTrack_1 : decode cX5_isTrack 1 = .ok (.iconst 0, 1) := by decide +kernel
theorem dX5_isTrack_2 : decode cX5_isTrack 2 = .ok (.iconst 5, 1) := by decide +kernel
theorem dX5_isTrack_3 : decode cX5_isTrack 3 = .ok (.invokestatic 47, 3) := by decide +kernel
theorem dX5_isTrack_6 : decode cX5_isTrack 6 = .ok (.ireturn, 1) := by decide +kernel
set_option maxRecDepth 20000 in
theorem ggX5_isRake_X5_in : GoodIn wsX5_isRake wsX5_in := goodIn_r _ [4] (by decide +kernel) (by decide +kernel)
set_option maxRecDepth 20000 in
theorem gX5_isRake_X5_in : GoodIn wsX5_isRake (va_wsS RX5 47 yX5_in wsX5_in) := goodIn_app (goodIn_of _ (by decide +kernel)) ggX5_isRake_X5_in
theorem dX5_isRake_0 : decode cX5_isRake 0 = .ok (.iload_n 0, 1) := by decide +kernel
theorem dX5_isRake_1 : decode cX5_isRake 1 = .ok (.iconst 0, 1) := by decide +kernel
theorem dX5_isRake_2 : decode cX5_isRake 2 = .ok (.iconst 3, 1) := by decide +kernel
theorem dX5_isRake_3 : decode cX5_isRake 3 = .ok (.invokestatic 47, 3) := by decide +kernel
theorem dX5_isRake_6 : decode cX5_isRake 6 = .ok (.ireturn, 1) := by decide +kernel
set_option maxRecDepth 20000 in
theorem ggX5_isKind_X5_in : GoodIn wsX5_isKind wsX5_in := goodIn_r _ [4] (by decide +kernel) (by decide +kernel)
set_option maxRecDepth 20000 in
theorem gX5_isKind_X5_in : GoodIn wsX5_isKind (va_wsS RX5 47 yX5_in wsX5_in) := goodIn_app (goodIn_of _ (by decide +kernel)) ggX5_isKind_X5_in
theorem dX5_isKind_0 : decode cX5_isKind 0 = .ok (.iload_n 0, 1) := by decide +kernel
theorem dX5_isKind_1 : decode cX5_isKind 1 = .ok (.iconst 0, 1) := by decide +kernel
theorem dX5_isKind_2 : decode cX5_isKind 2 = .ok (.iconst 4, 1) := by decide +kernel
theorem dX5_isKind_3 : decode cX5_isKind 3 = .ok (.invokestatic 47, 3) := by decide +kernel
theorem dX5_isKind_6 : decode cX5_isKind 6 = .ok (.ireturn, 1) := by decide +kernel
theorem dX5_isOf_0 : decode cX5_isOf 0 = .ok (.iload_n 1, 1) := by decide +kernel
theorem dX5_isOf_1 : decode cX5_isOf 1 = .ok (.ifCond .eq 28, 3) := by decide +kernel
theorem dX5_isOf_4 : decode cX5_isOf 4 = .ok (.iload_n 0, 1) := by decide +kernel
theorem dX5_isOf_5 : decode cX5_isOf 5 = .ok (.iload_n 1, 1) := by decide +kernel
theorem dX5_isOf_6 : decode cX5_isOf 6 = .ok (.if_icmp .eq 23, 3) := by decide +kernel
theorem dX5_isOf_9 : decode cX5_isOf 9 = .ok (.iload_n 1, 1) := by decide +kernel
theorem dX5_isOf_10 : decode cX5_isOf 10 = .ok (.iconst 1, 1) := by decide +kernel
theorem dX5_isOf_11 : decode cX5_isOf 11 = .ok (.if_icmp .ne 8, 3) := by decide +kernel
theorem dX5_isOf_14 : decode cX5_isOf 14 = .ok (.iload_n 0, 1) := by decide +kernel
theorem dX5_isOf_15 : decode cX5_isOf 15 = .ok (.iconst 2, 1) := by decide +kernel
theorem dX5_isOf_16 : decode cX5_isOf 16 = .ok (.if_icmp .eq 13, 3) := by decide +kernel
theorem dX5_isOf_19 : decode cX5_isOf 19 = .ok (.iload_n 1, 1) := by decide +kernel
theorem dX5_isOf_20 : decode cX5_isOf 20 = .ok (.iconst 3, 1) := by decide +kernel
theorem dX5_isOf_21 : decode cX5_isOf 21 = .ok (.if_icmp .ne 12, 3) := by decide +kernel
theorem dX5_isOf_24 : decode cX5_isOf 24 = .ok (.iload_n 0, 1) := by decide +kernel
theorem dX5_isOf_25 : decode cX5_isOf 25 = .ok (.iconst 4, 1) := by decide +kernel
theorem dX5_isOf_26 : decode cX5_isOf 26 = .ok (.if_icmp .ne 7, 3) := by decide +kernel
theorem dX5_isOf_29 : decode cX5_isOf 29 = .ok (.iconst 1, 1) := by decide +kernel
theorem dX5_isOf_30 : decode cX5_isOf 30 = .ok (.goto 4, 3) := by decide +kernel
theorem dX5_isOf_33 : decode cX5_isOf 33 = .ok (.iconst 0, 1) := by decide +kernel
theorem dX5_isOf_34 : decode cX5_isOf 34 = .ok (.ireturn, 1) := by decide +kernel
set_option maxRecDepth 20000 in
theorem ggX5_wagon_X5_isKind : GoodIn wsX5_wagon wsX5_isKind := goodIn_r _ [8, 9, 10, 7, 11] (by decide +kernel) (by decide +kernel)
set_option maxRecDepth 20000 in
theorem gX5_wagon_X5_isKind : GoodIn wsX5_wagon (va_wsS RX5 51 yX5_isKind wsX5_isKind) := goodIn_app (goodIn_of _ (by decide +kernel)) ggX5_wagon_X5_isKind
theorem dX5_wagon_0 : decode cX5_wagon 0 = .ok (.iload_n 1, 1) := by decide +kernel
theorem dX5_wagon_1 : decode cX5_wagon 1 = .ok (.invokestatic 51, 3) := by decide +kernel
theorem dX5_wagon_4 : decode cX5_wagon 4 = .ok (.ifCond .ne 6, 3) := by decide +kernel
theorem dX5_wagon_7 : decode cX5_wagon 7 = .ok (.bipush (-102), 2) := by decide +kernel
theorem dX5_wagon_9 : decode cX5_wagon 9 = .ok (.ireturn, 1) := by decide +kernel
theorem dX5_wagon_10 : decode cX5_wagon 10 = .ok (.aload_n 0, 1) := by decide +kernel
theorem dX5_wagon_11 : decode cX5_wagon 11 = .ok (.getfield 43, 3) := by decide +kernel
theorem dX5_wagon_14 : decode cX5_wagon 14 = .ok (.bipush 40, 2) := by decide +kernel
theorem dX5_wagon_16 : decode cX5_wagon 16 = .ok (.if_icmp .ne 6, 3) := by decide +kernel
theorem dX5_wagon_19 : decode cX5_wagon 19 = .ok (.bipush (-104), 2) := by decide +kernel
theorem dX5_wagon_21 : decode cX5_wagon 21 = .ok (.ireturn, 1) := by decide +kernel
theorem dX5_wagon_22 : decode cX5_wagon 22 = .ok (.aload_n 0, 1) := by decide +kernel
theorem dX5_wagon_23 : decode cX5_wagon 23 = .ok (.getfield 7, 3) := by decide +kernel
theorem dX5_wagon_26 : decode cX5_wagon 26 = .ok (.aload_n 0, 1) := by decide +kernel
theorem dX5_wagon_27 : decode cX5_wagon 27 = .ok (.getfield 43, 3) := by decide +kernel
theorem dX5_wagon_30 : decode cX5_wagon 30 = .ok (.iload_n 1, 1) := by decide +kernel
theorem dX5_wagon_31 : decode cX5_wagon 31 = .ok (.iastore, 1) := by decide +kernel
theorem dX5_wagon_32 : decode cX5_wagon 32 = .ok (.aload_n 0, 1) := by decide +kernel
theorem dX5_wagon_33 : decode cX5_wagon 33 = .ok (.getfield 13, 3) := by decide +kernel
theorem dX5_wagon_36 : decode cX5_wagon 36 = .ok (.aload_n 0, 1) := by decide +kernel
theorem dX5_wagon_37 : decode cX5_wagon 37 = .ok (.getfield 43, 3) := by decide +kernel
theorem dX5_wagon_40 : decode cX5_wagon 40 = .ok (.iload_n 2, 1) := by decide +kernel
theorem dX5_wagon_41 : decode cX5_wagon 41 = .ok (.iastore, 1) := by decide +kernel
theorem dX5_wagon_42 : decode cX5_wagon 42 = .ok (.aload_n 0, 1) := by decide +kernel
theorem dX5_wagon_43 : decode cX5_wagon 43 = .ok (.getfield 16, 3) := by decide +kernel
theorem dX5_wagon_46 : decode cX5_wagon 46 = .ok (.aload_n 0, 1) := by decide +kernel
theorem dX5_wagon_47 : decode cX5_wagon 47 = .ok (.getfield 43, 3) := by decide +kernel
theorem dX5_wagon_50 : decode cX5_wagon 50 = .ok (.iconst (-1), 1) := by decide +kernel
theorem dX5_wagon_51 : decode cX5_wagon 51 = .ok (.iastore, 1) := by decide +kernel
theorem dX5_wagon_52 : decode cX5_wagon 52 = .ok (.aload_n 0, 1) := by decide +kernel
theorem dX5_wagon_53 : decode cX5_wagon 53 = .ok (.dup, 1) := by decide +kernel
theorem dX5_wagon_54 : decode cX5_wagon 54 = .ok (.getfield 43, 3) := by decide +kernel
theorem dX5_wagon_57 : decode cX5_wagon 57 = .ok (.iconst 1, 1) := by decide +kernel
theorem dX5_wagon_58 : decode cX5_wagon 58 = .ok (.iadd, 1) := by decide +kernel
theorem dX5_wagon_59 : decode cX5_wagon 59 = .ok (.putfield 43, 3) := by decide +kernel
theorem dX5_wagon_62 : decode cX5_wagon 62 = .ok (.aload_n 0, 1) := by decide +kernel
theorem dX5_wagon_63 : decode cX5_wagon 63 = .ok (.getfield 43, 3) := by decide +kernel
theorem dX5_wagon_66 : decode cX5_wagon 66 = .ok (.iconst 1, 1) := by decide +kernel
theorem dX5_wagon_67 : decode cX5_wagon 67 = .ok (.isub, 1) := by decide +kernel
theorem dX5_wagon_68 : decode cX5_wagon 68 = .ok (.ireturn, 1) := by decide +kernel
theorem dX5_hasAhead_0 : decode cX5_hasAhead 0 = .ok (.iconst 0, 1) := by decide +kernel
theorem dX5_hasAhead_1 : decode cX5_hasAhead 1 = .ok (.istore_n 2, 1) := by decide +kernel
theorem dX5_hasAhead_2 : decode cX5_hasAhead 2 = .ok (.iconst 0, 1) := by decide +kernel
theorem dX5_hasAhead_3 : decode cX5_hasAhead 3 = .ok (.istore_n 3, 1) := by decide +kernel
theorem dX5_hasAhead_4 : decode cX5_hasAhead 4 = .ok (.iload_n 3, 1) := by decide +kernel
theorem dX5_hasAhead_5 : decode cX5_hasAhead 5 = .ok (.aload_n 0, 1) := by decide +kernel
theorem dX5_hasAhead_6 : decode cX5_hasAhead 6 = .ok (.getfield 43, 3) := by decide +kernel
theorem dX5_hasAhead_9 : decode cX5_hasAhead 9 = .ok (.if_icmp .ge 29, 3) := by decide +kernel
theorem dX5_hasAhead_12 : decode cX5_hasAhead 12 = .ok (.iload_n 2, 1) := by decide +kernel
theorem dX5_hasAhead_13 : decode cX5_hasAhead 13 = .ok (.ifCond .ne 13, 3) := by decide +kernel
theorem dX5_hasAhead_16 : decode cX5_hasAhead 16 = .ok (.aload_n 0, 1) := by decide +kernel
theorem dX5_hasAhead_17 : decode cX5_hasAhead 17 = .ok (.getfield 16, 3) := by decide +kernel
theorem dX5_hasAhead_20 : decode cX5_hasAhead 20 = .ok (.iload_n 3, 1) := by decide +kernel
theorem dX5_hasAhead_21 : decode cX5_hasAhead 21 = .ok (.iaload, 1) := by decide +kernel
theorem dX5_hasAhead_22 : decode cX5_hasAhead 22 = .ok (.iload_n 1, 1) := by decide +kernel
theorem dX5_hasAhead_23 : decode cX5_hasAhead 23 = .ok (.if_icmp .ne 7, 3) := by decide +kernel
theorem dX5_hasAhead_26 : decode cX5_hasAhead 26 = .ok (.iconst 1, 1) := by decide +kernel
theorem dX5_hasAhead_27 : decode cX5_hasAhead 27 = .ok (.goto 4, 3) := by decide +kernel
theorem dX5_hasAhead_30 : decode cX5_hasAhead 30 = .ok (.iconst 0, 1) := by decide +kernel
theorem dX5_hasAhead_31 : decode cX5_hasAhead 31 = .ok (.istore_n 2, 1) := by decide +kernel
theorem dX5_hasAhead_32 : decode cX5_hasAhead 32 = .ok (.iinc 3 1, 3) := by decide +kernel
theorem dX5_hasAhead_35 : decode cX5_hasAhead 35 = .ok (.goto (-31), 3) := by decide +kernel
theorem dX5_hasAhead_38 : decode cX5_hasAhead 38 = .ok (.iload_n 2, 1) := by decide +kernel
theorem dX5_hasAhead_39 : decode cX5_hasAhead 39 = .ok (.ireturn, 1) := by decide +kernel
theorem dX5_trackOf_0 : decode cX5_trackOf 0 = .ok (.iconst (-1), 1) := by decide +kernel
theorem dX5_trackOf_1 : decode cX5_trackOf 1 = .ok (.istore_n 2, 1) := by decide +kernel
theorem dX5_trackOf_2 : decode cX5_trackOf 2 = .ok (.iconst 5, 1) := by decide +kernel
theorem dX5_trackOf_3 : decode cX5_trackOf 3 = .ok (.istore_n 3, 1) := by decide +kernel
theorem dX5_trackOf_4 : decode cX5_trackOf 4 = .ok (.iload_n 3, 1) := by decide +kernel
theorem dX5_trackOf_5 : decode cX5_trackOf 5 = .ok (.ifCond .lt 25, 3) := by decide +kernel
theorem dX5_trackOf_8 : decode cX5_trackOf 8 = .ok (.aload_n 0, 1) := by decide +kernel
theorem dX5_trackOf_9 : decode cX5_trackOf 9 = .ok (.getfield 19, 3) := by decide +kernel
theorem dX5_trackOf_12 : decode cX5_trackOf 12 = .ok (.iload_n 3, 1) := by decide +kernel
theorem dX5_trackOf_13 : decode cX5_trackOf 13 = .ok (.iaload, 1) := by decide +kernel
theorem dX5_trackOf_14 : decode cX5_trackOf 14 = .ok (.iload_n 1, 1) := by decide +kernel
theorem dX5_trackOf_15 : decode cX5_trackOf 15 = .ok (.if_icmp .ne 7, 3) := by decide +kernel
theorem dX5_trackOf_18 : decode cX5_trackOf 18 = .ok (.iload_n 3, 1) := by decide +kernel
theorem dX5_trackOf_19 : decode cX5_trackOf 19 = .ok (.goto 4, 3) := by decide +kernel
theorem dX5_trackOf_22 : decode cX5_trackOf 22 = .ok (.iload_n 2, 1) := by decide +kernel
theorem dX5_trackOf_23 : decode cX5_trackOf 23 = .ok (.istore_n 2, 1) := by decide +kernel
theorem dX5_trackOf_24 : decode cX5_trackOf 24 = .ok (.iinc 3 (-1), 3) := by decide +kernel
theorem dX5_trackOf_27 : decode cX5_trackOf 27 = .ok (.goto (-23), 3) := by decide +kernel
theorem dX5_trackOf_30 : decode cX5_trackOf 30 = .ok (.iload_n 2, 1) := by decide +kernel
theorem dX5_trackOf_31 : decode cX5_trackOf 31 = .ok (.ireturn, 1) := by decide +kernel
set_option maxRecDepth 20000 in
theorem ggX5_couple_X5_isWagon : GoodIn wsX5_couple wsX5_isWagon := goodIn_r _ [6, 7, 8, 9, 5, 10, 20, 21, 22, 23, 24, 25, 26, 27, 28, 29, 30, 31, 32, 33, 34] (by decide +kernel) (by decide +kernel)
set_option maxRecDepth 20000 in
theorem gX5_couple_X5_isWagon : GoodIn wsX5_couple (wsV RX5 55 RX5 yX5_isWagon wsX5_isWagon) := goodIn_app (goodIn_of _ (by decide +kernel)) ggX5_couple_X5_isWagon
set_option maxRecDepth 20000 in
theorem ggX5_couple_X5_hasAhead : GoodIn wsX5_couple wsX5_hasAhead := goodIn_r _ [14, 7, 1, 20, 21, 22, 23, 24, 25, 26, 27, 28, 29, 30, 31, 32, 33, 34] (by decide +kernel) (by decide +kernel)
set_option maxRecDepth 20000 in
theorem gX5_couple_X5_hasAhead : GoodIn wsX5_couple (wsV RX5 58 RX5 yX5_hasAhead wsX5_hasAhead) := goodIn_app (goodIn_of _ (by decide +kernel)) ggX5_couple_X5_hasAhead
set_option maxRecDepth 20000 in
theorem ggX5_couple_X5_trackOf : GoodIn wsX5_couple wsX5_trackOf := goodIn_r _ [18, 19, 20, 21, 22, 23, 24, 25, 26, 27, 28, 29, 30, 31, 32, 33, 34] (by decide +kernel) (by decide +kernel)
set_option maxRecDepth 20000 in
theorem gX5_couple_X5_trackOf : GoodIn wsX5_couple (wsV RX5 61 RX5 yX5_trackOf wsX5_trackOf) := goodIn_app (goodIn_of _ (by decide +kernel)) ggX5_couple_X5_trackOf
theorem dX5_couple_0 : decode cX5_couple 0 = .ok (.aload_n 0, 1) := by decide +kernel
theorem dX5_couple_1 : decode cX5_couple 1 = .ok (.iload_n 1, 1) := by decide +kernel
theorem dX5_couple_2 : decode cX5_couple 2 = .ok (.invokevirtual 55, 3) := by decide +kernel
theorem dX5_couple_5 : decode cX5_couple 5 = .ok (.ifCond .eq 11, 3) := by decide +kernel
theorem dX5_couple_8 : decode cX5_couple 8 = .ok (.aload_n 0, 1) := by decide +kernel
theorem dX5_couple_9 : decode cX5_couple 9 = .ok (.iload_n 2, 1) := by decide +kernel
theorem dX5_couple_10 : decode cX5_couple 10 = .ok (.invokevirtual 55, 3) := by decide +kernel
theorem dX5_couple_13 : decode cX5_couple 13 = .ok (.ifCond .ne 6, 3) := by decide +kernel
theorem dX5_couple_16 : decode cX5_couple 16 = .ok (.bipush (-101), 2) := by decide +kernel
theorem dX5_couple_18 : decode cX5_couple 18 = .ok (.ireturn, 1) := by decide +kernel
theorem dX5_couple_19 : decode cX5_couple 19 = .ok (.aload_n 0, 1) := by decide +kernel
theorem dX5_couple_20 : decode cX5_couple 20 = .ok (.getfield 16, 3) := by decide +kernel
theorem dX5_couple_23 : decode cX5_couple 23 = .ok (.iload_n 1, 1) := by decide +kernel
theorem dX5_couple_24 : decode cX5_couple 24 = .ok (.iaload, 1) := by decide +kernel
theorem dX5_couple_25 : decode cX5_couple 25 = .ok (.iconst (-1), 1) := by decide +kernel
theorem dX5_couple_26 : decode cX5_couple 26 = .ok (.if_icmp .ne 20, 3) := by decide +kernel
theorem dX5_couple_29 : decode cX5_couple 29 = .ok (.aload_n 0, 1) := by decide +kernel
theorem dX5_couple_30 : decode cX5_couple 30 = .ok (.iload_n 2, 1) := by decide +kernel
theorem dX5_couple_31 : decode cX5_couple 31 = .ok (.invokevirtual 58, 3) := by decide +kernel
theorem dX5_couple_34 : decode cX5_couple 34 = .ok (.ifCond .ne 12, 3) := by decide +kernel
theorem dX5_couple_37 : decode cX5_couple 37 = .ok (.aload_n 0, 1) := by decide +kernel
theorem dX5_couple_38 : decode cX5_couple 38 = .ok (.iload_n 2, 1) := by decide +kernel
theorem dX5_couple_39 : decode cX5_couple 39 = .ok (.invokevirtual 61, 3) := by decide +kernel
theorem dX5_couple_42 : decode cX5_couple 42 = .ok (.iconst (-1), 1) := by decide +kernel
theorem dX5_couple_43 : decode cX5_couple 43 = .ok (.if_icmp .eq 6, 3) := by decide +kernel
theorem dX5_couple_46 : decode cX5_couple 46 = .ok (.bipush (-103), 2) := by decide +kernel
theorem dX5_couple_48 : decode cX5_couple 48 = .ok (.ireturn, 1) := by decide +kernel
theorem dX5_couple_49 : decode cX5_couple 49 = .ok (.iload_n 2, 1) := by decide +kernel
theorem dX5_couple_50 : decode cX5_couple 50 = .ok (.istore_n 3, 1) := by decide +kernel
theorem dX5_couple_51 : decode cX5_couple 51 = .ok (.iload_n 3, 1) := by decide +kernel
theorem dX5_couple_52 : decode cX5_couple 52 = .ok (.iconst (-1), 1) := by decide +kernel
theorem dX5_couple_53 : decode cX5_couple 53 = .ok (.if_icmp .eq 21, 3) := by decide +kernel
theorem dX5_couple_56 : decode cX5_couple 56 = .ok (.iload_n 3, 1) := by decide +kernel
theorem dX5_couple_57 : decode cX5_couple 57 = .ok (.iload_n 1, 1) := by decide +kernel
theorem dX5_couple_58 : decode cX5_couple 58 = .ok (.if_icmp .ne 6, 3) := by decide +kernel
theorem dX5_couple_61 : decode cX5_couple 61 = .ok (.bipush (-103), 2) := by decide +kernel
theorem dX5_couple_63 : decode cX5_couple 63 = .ok (.ireturn, 1) := by decide +kernel
theorem dX5_couple_64 : decode cX5_couple 64 = .ok (.aload_n 0, 1) := by decide +kernel
theorem dX5_couple_65 : decode cX5_couple 65 = .ok (.getfield 16, 3) := by decide +kernel
theorem dX5_couple_68 : decode cX5_couple 68 = .ok (.iload_n 3, 1) := by decide +kernel
theorem dX5_couple_69 : decode cX5_couple 69 = .ok (.iaload, 1) := by decide +kernel
theorem dX5_couple_70 : decode cX5_couple 70 = .ok (.istore_n 3, 1) := by decide +kernel
theorem dX5_couple_71 : decode cX5_couple 71 = .ok (.goto (-20), 3) := by decide +kernel
theorem dX5_couple_74 : decode cX5_couple 74 = .ok (.aload_n 0, 1) := by decide +kernel
theorem dX5_couple_75 : decode cX5_couple 75 = .ok (.getfield 16, 3) := by decide +kernel
theorem dX5_couple_78 : decode cX5_couple 78 = .ok (.iload_n 1, 1) := by decide +kernel
theorem dX5_couple_79 : decode cX5_couple 79 = .ok (.iload_n 2, 1) := by decide +kernel
theorem dX5_couple_80 : decode cX5_couple 80 = .ok (.iastore, 1) := by decide +kernel
theorem dX5_couple_81 : decode cX5_couple 81 = .ok (.iconst 1, 1) := by decide +kernel
theorem dX5_couple_82 : decode cX5_couple 82 = .ok (.ireturn, 1) := by decide +kernel
set_option maxRecDepth 20000 in
theorem ggX5_stand_X5_isTrack : GoodIn wsX5_stand wsX5_isTrack := goodIn_r _ [5, 6, 7, 4, 8] (by decide +kernel) (by decide +kernel)
set_option maxRecDepth 20000 in
theorem gX5_stand_X5_isTrack : GoodIn wsX5_stand (va_wsS RX5 65 yX5_isTrack wsX5_isTrack) := goodIn_app (goodIn_of _ (by decide +kernel)) ggX5_stand_X5_isTrack
set_option maxRecDepth 20000 in
theorem ggX5_stand_X5_isWagon : GoodIn wsX5_stand wsX5_isWagon := goodIn_r _ [12, 13, 6, 7, 4, 8, 23, 24, 25, 26, 27, 28, 29, 30, 31, 32, 33, 34, 35, 36, 37] (by decide +kernel) (by decide +kernel)
set_option maxRecDepth 20000 in
theorem gX5_stand_X5_isWagon : GoodIn wsX5_stand (wsV RX5 55 RX5 yX5_isWagon wsX5_isWagon) := goodIn_app (goodIn_of _ (by decide +kernel)) ggX5_stand_X5_isWagon
set_option maxRecDepth 20000 in
theorem ggX5_stand_X5_hasAhead : GoodIn wsX5_stand wsX5_hasAhead := goodIn_r _ [17, 13, 18, 23, 24, 25, 26, 27, 28, 29, 30, 31, 32, 33, 34, 35, 36, 37] (by decide +kernel) (by decide +kernel)
set_option maxRecDepth 20000 in
theorem gX5_stand_X5_hasAhead : GoodIn wsX5_stand (wsV RX5 58 RX5 yX5_hasAhead wsX5_hasAhead) := goodIn_app (goodIn_of _ (by decide +kernel)) ggX5_stand_X5_hasAhead
set_option maxRecDepth 20000 in
theorem ggX5_stand_X5_trackOf : GoodIn wsX5_stand wsX5_trackOf := goodIn_r _ [22, 1, 23, 24, 25, 26, 27, 28, 29, 30, 31, 32, 33, 34, 35, 36, 37] (by decide +kernel) (by decide +kernel)
set_option maxRecDepth 20000 in
theorem gX5_stand_X5_trackOf : GoodIn wsX5_stand (wsV RX5 61 RX5 yX5_trackOf wsX5_trackOf) := goodIn_app (goodIn_of _ (by decide +kernel)) ggX5_stand_X5_trackOf
theorem dX5_stand_0 : decode cX5_stand 0 = .ok (.iload_n 1, 1) := by decide +kernel
theorem dX5_stand_1 : decode cX5_stand 1 = .ok (.invokestatic 65, 3) := by decide +kernel
theorem dX5_stand_4 : decode cX5_stand 4 = .ok (.ifCond .eq 16, 3) := by decide +kernel
theorem dX5_stand_7 : decode cX5_stand 7 = .ok (.iload_n 2, 1) := by decide +kernel
theorem dX5_stand_8 : decode cX5_stand 8 = .ok (.iconst (-1), 1) := by decide +kernel
theorem dX5_stand_9 : decode cX5_stand 9 = .ok (.if_icmp .eq 14, 3) := by decide +kernel
theorem dX5_stand_12 : decode cX5_stand 12 = .ok (.aload_n 0, 1) := by decide +kernel
theorem dX5_stand_13 : decode cX5_stand 13 = .ok (.iload_n 2, 1) := by decide +kernel
theorem dX5_stand_14 : decode cX5_stand 14 = .ok (.invokevirtual 55, 3) := by decide +kernel
theorem dX5_stand_17 : decode cX5_stand 17 = .ok (.ifCond .ne 6, 3) := by decide +kernel
theorem dX5_stand_20 : decode cX5_stand 20 = .ok (.bipush (-101), 2) := by decide +kernel
theorem dX5_stand_22 : decode cX5_stand 22 = .ok (.ireturn, 1) := by decide +kernel
theorem dX5_stand_23 : decode cX5_stand 23 = .ok (.iload_n 2, 1) := by decide +kernel
theorem dX5_stand_24 : decode cX5_stand 24 = .ok (.iconst (-1), 1) := by decide +kernel
theorem dX5_stand_25 : decode cX5_stand 25 = .ok (.if_icmp .eq 23, 3) := by decide +kernel
theorem dX5_stand_28 : decode cX5_stand 28 = .ok (.aload_n 0, 1) := by decide +kernel
theorem dX5_stand_29 : decode cX5_stand 29 = .ok (.iload_n 2, 1) := by decide +kernel
theorem dX5_stand_30 : decode cX5_stand 30 = .ok (.invokevirtual 58, 3) := by decide +kernel
theorem dX5_stand_33 : decode cX5_stand 33 = .ok (.ifCond .ne 12, 3) := by decide +kernel
theorem dX5_stand_36 : decode cX5_stand 36 = .ok (.aload_n 0, 1) := by decide +kernel
theorem dX5_stand_37 : decode cX5_stand 37 = .ok (.iload_n 2, 1) := by decide +kernel
theorem dX5_stand_38 : decode cX5_stand 38 = .ok (.invokevirtual 61, 3) := by decide +kernel
theorem dX5_stand_41 : decode cX5_stand 41 = .ok (.iconst (-1), 1) := by decide +kernel
theorem dX5_stand_42 : decode cX5_stand 42 = .ok (.if_icmp .eq 6, 3) := by decide +kernel
theorem dX5_stand_45 : decode cX5_stand 45 = .ok (.bipush (-103), 2) := by decide +kernel
theorem dX5_stand_47 : decode cX5_stand 47 = .ok (.ireturn, 1) := by decide +kernel
theorem dX5_stand_48 : decode cX5_stand 48 = .ok (.aload_n 0, 1) := by decide +kernel
theorem dX5_stand_49 : decode cX5_stand 49 = .ok (.getfield 19, 3) := by decide +kernel
theorem dX5_stand_52 : decode cX5_stand 52 = .ok (.iload_n 1, 1) := by decide +kernel
theorem dX5_stand_53 : decode cX5_stand 53 = .ok (.iaload, 1) := by decide +kernel
theorem dX5_stand_54 : decode cX5_stand 54 = .ok (.istore_n 3, 1) := by decide +kernel
theorem dX5_stand_55 : decode cX5_stand 55 = .ok (.aload_n 0, 1) := by decide +kernel
theorem dX5_stand_56 : decode cX5_stand 56 = .ok (.getfield 19, 3) := by decide +kernel
theorem dX5_stand_59 : decode cX5_stand 59 = .ok (.iload_n 1, 1) := by decide +kernel
theorem dX5_stand_60 : decode cX5_stand 60 = .ok (.iload_n 2, 1) := by decide +kernel
theorem dX5_stand_61 : decode cX5_stand 61 = .ok (.iastore, 1) := by decide +kernel
theorem dX5_stand_62 : decode cX5_stand 62 = .ok (.iload_n 3, 1) := by decide +kernel
theorem dX5_stand_63 : decode cX5_stand 63 = .ok (.ireturn, 1) := by decide +kernel
set_option maxRecDepth 20000 in
theorem ggX5_signal_X5_isTrack : GoodIn wsX5_signal wsX5_isTrack := goodIn_r _ [5, 6, 7, 4, 8] (by decide +kernel) (by decide +kernel)
set_option maxRecDepth 20000 in
theorem gX5_signal_X5_isTrack : GoodIn wsX5_signal (va_wsS RX5 65 yX5_isTrack wsX5_isTrack) := goodIn_app (goodIn_of _ (by decide +kernel)) ggX5_signal_X5_isTrack
theorem dX5_signal_0 : decode cX5_signal 0 = .ok (.iload_n 1, 1) := by decide +kernel
theorem dX5_signal_1 : decode cX5_signal 1 = .ok (.invokestatic 65, 3) := by decide +kernel
theorem dX5_signal_4 : decode cX5_signal 4 = .ok (.ifCond .ne 6, 3) := by decide +kernel
theorem dX5_signal_7 : decode cX5_signal 7 = .ok (.bipush (-101), 2) := by decide +kernel
theorem dX5_signal_9 : decode cX5_signal 9 = .ok (.ireturn, 1) := by decide +kernel
theorem dX5_signal_10 : decode cX5_signal 10 = .ok (.iload_n 2, 1) := by decide +kernel
theorem dX5_signal_11 : decode cX5_signal 11 = .ok (.iconst (-1), 1) := by decide +kernel
theorem dX5_signal_12 : decode cX5_signal 12 = .ok (.if_icmp .ge 6, 3) := by decide +kernel
theorem dX5_signal_15 : decode cX5_signal 15 = .ok (.bipush (-102), 2) := by decide +kernel
theorem dX5_signal_17 : decode cX5_signal 17 = .ok (.ireturn, 1) := by decide +kernel
theorem dX5_signal_18 : decode cX5_signal 18 = .ok (.aload_n 0, 1) := by decide +kernel
theorem dX5_signal_19 : decode cX5_signal 19 = .ok (.getfield 22, 3) := by decide +kernel
theorem dX5_signal_22 : decode cX5_signal 22 = .ok (.iload_n 1, 1) := by decide +kernel
theorem dX5_signal_23 : decode cX5_signal 23 = .ok (.iaload, 1) := by decide +kernel
theorem dX5_signal_24 : decode cX5_signal 24 = .ok (.istore_n 3, 1) := by decide +kernel
theorem dX5_signal_25 : decode cX5_signal 25 = .ok (.aload_n 0, 1) := by decide +kernel
theorem dX5_signal_26 : decode cX5_signal 26 = .ok (.getfield 22, 3) := by decide +kernel
theorem dX5_signal_29 : decode cX5_signal 29 = .ok (.iload_n 1, 1) := by decide +kernel
theorem dX5_signal_30 : decode cX5_signal 30 = .ok (.iload_n 2, 1) := by decide +kernel
theorem dX5_signal_31 : decode cX5_signal 31 = .ok (.iastore, 1) := by decide +kernel
theorem dX5_signal_32 : decode cX5_signal 32 = .ok (.iload_n 3, 1) := by decide +kernel
theorem dX5_signal_33 : decode cX5_signal 33 = .ok (.ireturn, 1) := by decide +kernel
theorem dX5_ends_0 : decode cX5_ends 0 = .ok (.aload_n 0, 1) := by decide +kernel
theorem dX5_ends_1 : decode cX5_ends 1 = .ok (.iload_n 1, 1) := by decide +kernel
theorem dX5_ends_2 : decode cX5_ends 2 = .ok (.putfield 68, 3) := by decide +kernel
theorem dX5_ends_5 : decode cX5_ends 5 = .ok (.aload_n 0, 1) := by decide +kernel
theorem dX5_ends_6 : decode cX5_ends 6 = .ok (.iload_n 2, 1) := by decide +kernel
theorem dX5_ends_7 : decode cX5_ends 7 = .ok (.putfield 71, 3) := by decide +kernel
theorem dX5_ends_10 : decode cX5_ends 10 = .ok (.aload_n 0, 1) := by decide +kernel
theorem dX5_ends_11 : decode cX5_ends 11 = .ok (.iconst 0, 1) := by decide +kernel
theorem dX5_ends_12 : decode cX5_ends 12 = .ok (.putfield 74, 3) := by decide +kernel
theorem dX5_ends_15 : decode cX5_ends 15 = .ok (.sipush (-200), 3) := by decide +kernel
theorem dX5_ends_18 : decode cX5_ends 18 = .ok (.iload_n 1, 1) := by decide +kernel
theorem dX5_ends_19 : decode cX5_ends 19 = .ok (.isub, 1) := by decide +kernel
theorem dX5_ends_20 : decode cX5_ends 20 = .ok (.ireturn, 1) := by decide +kernel
set_option maxRecDepth 20000 in
theorem ggX5_well_X5_ends : GoodIn wsX5_well wsX5_ends := goodIn_r _ [5, 6, 7, 8, 9, 10, 11, 12, 13, 14, 15, 16, 17, 18, 19, 20, 21, 22, 23] (by decide +kernel) (by decide +kernel)
set_option maxRecDepth 20000 in
theorem gX5_well_X5_ends : GoodIn wsX5_well (wsV RX5 77 RX5 yX5_ends wsX5_ends) := goodIn_app (goodIn_of _ (by decide +kernel)) ggX5_well_X5_ends
theorem dX5_well_0 : decode cX5_well 0 = .ok (.aload_n 0, 1) := by decide +kernel
theorem dX5_well_1 : decode cX5_well 1 = .ok (.iconst 0, 1) := by decide +kernel
theorem dX5_well_2 : decode cX5_well 2 = .ok (.iload_n 2, 1) := by decide +kernel
theorem dX5_well_3 : decode cX5_well 3 = .ok (.invokevirtual 77, 3) := by decide +kernel
theorem dX5_well_6 : decode cX5_well 6 = .ok (.pop, 1) := by decide +kernel
theorem dX5_well_7 : decode cX5_well 7 = .ok (.iload_n 1, 1) := by decide +kernel
theorem dX5_well_8 : decode cX5_well 8 = .ok (.ireturn, 1) := by decide +kernel
set_option maxRecDepth 20000 in
theorem ggX5_refused_X5_isTrack : GoodIn wsX5_refused wsX5_isTrack := goodIn_r _ [4, 5, 6, 3, 7] (by decide +kernel) (by decide +kernel)
set_option maxRecDepth 20000 in
theorem gX5_refused_X5_isTrack : GoodIn wsX5_refused (va_wsS RX5 65 yX5_isTrack wsX5_isTrack) := goodIn_app (goodIn_of _ (by decide +kernel)) ggX5_refused_X5_isTrack
set_option maxRecDepth 20000 in
theorem ggX5_refused_X5_in : GoodIn wsX5_refused wsX5_in := goodIn_r _ [7] (by decide +kernel) (by decide +kernel)
set_option maxRecDepth 20000 in
theorem gX5_refused_X5_in : GoodIn wsX5_refused (va_wsS RX5 47 yX5_in wsX5_in) := goodIn_app (goodIn_of _ (by decide +kernel)) ggX5_refused_X5_in
theorem dX5_refused_0 : decode cX5_refused 0 = .ok (.iload_n 0, 1) := by decide +kernel
theorem dX5_refused_1 : decode cX5_refused 1 = .ok (.invokestatic 65, 3) := by decide +kernel
theorem dX5_refused_4 : decode cX5_refused 4 = .ok (.ifCond .ne 8, 3) := by decide +kernel
theorem dX5_refused_7 : decode cX5_refused 7 = .ok (.bipush (-101), 2) := by decide +kernel
theorem dX5_refused_9 : decode cX5_refused 9 = .ok (.goto 19, 3) := by decide +kernel
theorem dX5_refused_12 : decode cX5_refused 12 = .ok (.iload_n 1, 1) := by decide +kernel
theorem dX5_refused_13 : decode cX5_refused 13 = .ok (.iconst 0, 1) := by decide +kernel
theorem dX5_refused_14 : decode cX5_refused 14 = .ok (.bipush 40, 2) := by decide +kernel
theorem dX5_refused_16 : decode cX5_refused 16 = .ok (.invokestatic 47, 3) := by decide +kernel
theorem dX5_refused_19 : decode cX5_refused 19 = .ok (.ifCond .ne 8, 3) := by decide +kernel
theorem dX5_refused_22 : decode cX5_refused 22 = .ok (.bipush (-102), 2) := by decide +kernel
theorem dX5_refused_24 : decode cX5_refused 24 = .ok (.goto 4, 3) := by decide +kernel
theorem dX5_refused_27 : decode cX5_refused 27 = .ok (.iconst 0, 1) := by decide +kernel
theorem dX5_refused_28 : decode cX5_refused 28 = .ok (.ireturn, 1) := by decide +kernel
set_option maxRecDepth 20000 in
theorem ggX5_nth_X5_ends : GoodIn wsX5_nth wsX5_ends := goodIn_r _ [7, 8, 9, 10, 11, 12, 13, 14, 15, 16, 17, 18, 19, 20, 21, 22, 23, 24, 25] (by decide +kernel) (by decide +kernel)
set_option maxRecDepth 20000 in
theorem gX5_nth_X5_ends : GoodIn wsX5_nth (wsV RX5 77 RX5 yX5_ends wsX5_ends) := goodIn_app (goodIn_of _ (by decide +kernel)) ggX5_nth_X5_ends
theorem dX5_nth_0 : decode cX5_nth 0 = .ok (.aload_n 0, 1) := by decide +kernel
theorem dX5_nth_1 : decode cX5_nth 1 = .ok (.getfield 19, 3) := by decide +kernel
theorem dX5_nth_4 : decode cX5_nth 4 = .ok (.iload_n 1, 1) := by decide +kernel
theorem dX5_nth_5 : decode cX5_nth 5 = .ok (.iaload, 1) := by decide +kernel
theorem dX5_nth_6 : decode cX5_nth 6 = .ok (.istore_n 3, 1) := by decide +kernel
theorem dX5_nth_7 : decode cX5_nth 7 = .ok (.iconst 0, 1) := by decide +kernel
theorem dX5_nth_8 : decode cX5_nth 8 = .ok (.istore 4, 2) := by decide +kernel
theorem dX5_nth_10 : decode cX5_nth 10 = .ok (.iload_n 3, 1) := by decide +kernel
theorem dX5_nth_11 : decode cX5_nth 11 = .ok (.iconst (-1), 1) := by decide +kernel
theorem dX5_nth_12 : decode cX5_nth 12 = .ok (.if_icmp .eq 22, 3) := by decide +kernel
theorem dX5_nth_15 : decode cX5_nth 15 = .ok (.iload 4, 2) := by decide +kernel
theorem dX5_nth_17 : decode cX5_nth 17 = .ok (.iload_n 2, 1) := by decide +kernel
theorem dX5_nth_18 : decode cX5_nth 18 = .ok (.if_icmp .ge 16, 3) := by decide +kernel
theorem dX5_nth_21 : decode cX5_nth 21 = .ok (.aload_n 0, 1) := by decide +kernel
theorem dX5_nth_22 : decode cX5_nth 22 = .ok (.getfield 16, 3) := by decide +kernel
theorem dX5_nth_25 : decode cX5_nth 25 = .ok (.iload_n 3, 1) := by decide +kernel
theorem dX5_nth_26 : decode cX5_nth 26 = .ok (.iaload, 1) := by decide +kernel
theorem dX5_nth_27 : decode cX5_nth 27 = .ok (.istore_n 3, 1) := by decide +kernel
theorem dX5_nth_28 : decode cX5_nth 28 = .ok (.iinc 4 1, 3) := by decide +kernel
theorem dX5_nth_31 : decode cX5_nth 31 = .ok (.goto (-21), 3) := by decide +kernel
theorem dX5_nth_34 : decode cX5_nth 34 = .ok (.iload_n 3, 1) := by decide +kernel
theorem dX5_nth_35 : decode cX5_nth 35 = .ok (.iconst (-1), 1) := by decide +kernel
theorem dX5_nth_36 : decode cX5_nth 36 = .ok (.if_icmp .ne 11, 3) := by decide +kernel
theorem dX5_nth_39 : decode cX5_nth 39 = .ok (.aload_n 0, 1) := by decide +kernel
theorem dX5_nth_40 : decode cX5_nth 40 = .ok (.iconst 1, 1) := by decide +kernel
theorem dX5_nth_41 : decode cX5_nth 41 = .ok (.iload 4, 2) := by decide +kernel
theorem dX5_nth_43 : decode cX5_nth 43 = .ok (.invokevirtual 77, 3) := by decide +kernel
theorem dX5_nth_46 : decode cX5_nth 46 = .ok (.pop, 1) := by decide +kernel
theorem dX5_nth_47 : decode cX5_nth 47 = .ok (.iload_n 3, 1) := by decide +kernel
theorem dX5_nth_48 : decode cX5_nth 48 = .ok (.ireturn, 1) := by decide +kernel
set_option maxRecDepth 20000 in
theorem ggX5_wagonAt_X5_refused : GoodIn wsX5_wagonAt wsX5_refused := goodIn_r _ [4, 5, 6, 3, 7, 8, 9, 10] (by decide +kernel) (by decide +kernel)
set_option maxRecDepth 20000 in
theorem gX5_wagonAt_X5_refused : GoodIn wsX5_wagonAt (va_wsS RX5 81 yX5_refused wsX5_refused) := goodIn_app (goodIn_of _ (by decide +kernel)) ggX5_wagonAt_X5_refused
set_option maxRecDepth 20000 in
theorem ggX5_wagonAt_X5_nth : GoodIn wsX5_wagonAt wsX5_nth := goodIn_r _ [14, 15, 16, 17, 18, 19, 3, 20, 21, 22, 23, 28, 29, 30, 31, 32, 33, 34, 35, 36, 37, 38, 39, 40, 41, 42] (by decide +kernel) (by decide +kernel)
set_option maxRecDepth 20000 in
theorem gX5_wagonAt_X5_nth : GoodIn wsX5_wagonAt (wsV RX5 84 RX5 yX5_nth wsX5_nth) := goodIn_app (goodIn_of _ (by decide +kernel)) ggX5_wagonAt_X5_nth
set_option maxRecDepth 20000 in
theorem ggX5_wagonAt_X5_well : GoodIn wsX5_wagonAt wsX5_well := goodIn_r _ [27, 17, 18, 19, 3, 20, 21, 22, 23, 28, 29, 30, 31, 32, 33, 34, 35, 36, 37, 38, 39, 40, 41, 42] (by decide +kernel) (by decide +kernel)
set_option maxRecDepth 20000 in
theorem gX5_wagonAt_X5_well : GoodIn wsX5_wagonAt (wsV RX5 87 RX5 yX5_well wsX5_well) := goodIn_app (goodIn_of _ (by decide +kernel)) ggX5_wagonAt_X5_well
theorem dX5_wagonAt_0 : decode cX5_wagonAt 0 = .ok (.iload_n 1, 1) := by decide +kernel
theorem dX5_wagonAt_1 : decode cX5_wagonAt 1 = .ok (.iload_n 2, 1) := by decide +kernel
theorem dX5_wagonAt_2 : decode cX5_wagonAt 2 = .ok (.invokestatic 81, 3) := by decide +kernel
theorem dX5_wagonAt_5 : decode cX5_wagonAt 5 = .ok (.istore_n 3, 1) := by decide +kernel
theorem dX5_wagonAt_6 : decode cX5_wagonAt 6 = .ok (.iload_n 3, 1) := by decide +kernel
theorem dX5_wagonAt_7 : decode cX5_wagonAt 7 = .ok (.ifCond .eq 5, 3) := by decide +kernel
theorem dX5_wagonAt_10 : decode cX5_wagonAt 10 = .ok (.iload_n 3, 1) := by decide +kernel
theorem dX5_wagonAt_11 : decode cX5_wagonAt 11 = .ok (.ireturn, 1) := by decide +kernel
theorem dX5_wagonAt_12 : decode cX5_wagonAt 12 = .ok (.aload_n 0, 1) := by decide +kernel
theorem dX5_wagonAt_13 : decode cX5_wagonAt 13 = .ok (.iload_n 1, 1) := by decide +kernel
theorem dX5_wagonAt_14 : decode cX5_wagonAt 14 = .ok (.iload_n 2, 1) := by decide +kernel
theorem dX5_wagonAt_15 : decode cX5_wagonAt 15 = .ok (.invokevirtual 84, 3) := by decide +kernel
theorem dX5_wagonAt_18 : decode cX5_wagonAt 18 = .ok (.istore 4, 2) := by decide +kernel
theorem dX5_wagonAt_20 : decode cX5_wagonAt 20 = .ok (.iload 4, 2) := by decide +kernel
theorem dX5_wagonAt_22 : decode cX5_wagonAt 22 = .ok (.iconst (-1), 1) := by decide +kernel
theorem dX5_wagonAt_23 : decode cX5_wagonAt 23 = .ok (.if_icmp .ne 9, 3) := by decide +kernel
theorem dX5_wagonAt_26 : decode cX5_wagonAt 26 = .ok (.sipush (-201), 3) := by decide +kernel
theorem dX5_wagonAt_29 : decode cX5_wagonAt 29 = .ok (.goto 10, 3) := by decide +kernel
theorem dX5_wagonAt_32 : decode cX5_wagonAt 32 = .ok (.aload_n 0, 1) := by decide +kernel
theorem dX5_wagonAt_33 : decode cX5_wagonAt 33 = .ok (.iload 4, 2) := by decide +kernel
theorem dX5_wagonAt_35 : decode cX5_wagonAt 35 = .ok (.iload_n 2, 1) := by decide +kernel
theorem dX5_wagonAt_36 : decode cX5_wagonAt 36 = .ok (.invokevirtual 87, 3) := by decide +kernel
theorem dX5_wagonAt_39 : decode cX5_wagonAt 39 = .ok (.ireturn, 1) := by decide +kernel
set_option maxRecDepth 20000 in
theorem ggX5_load_X5_refused : GoodIn wsX5_load wsX5_refused := goodIn_r _ [5, 6, 7, 4, 8, 9, 10, 11] (by decide +kernel) (by decide +kernel)
set_option maxRecDepth 20000 in
theorem gX5_load_X5_refused : GoodIn wsX5_load (va_wsS RX5 81 yX5_refused wsX5_refused) := goodIn_app (goodIn_of _ (by decide +kernel)) ggX5_load_X5_refused
set_option maxRecDepth 20000 in
theorem ggX5_load_X5_nth : GoodIn wsX5_load wsX5_nth := goodIn_r _ [15, 16, 17, 18, 19, 20, 4, 21, 22, 23, 24, 29, 30, 31, 32, 33, 34, 35, 36, 37, 38, 39, 40, 41, 42, 43] (by decide +kernel) (by decide +kernel)
set_option maxRecDepth 20000 in
theorem gX5_load_X5_nth : GoodIn wsX5_load (wsV RX5 84 RX5 yX5_nth wsX5_nth) := goodIn_app (goodIn_of _ (by decide +kernel)) ggX5_load_X5_nth
set_option maxRecDepth 20000 in
theorem ggX5_load_X5_well : GoodIn wsX5_load wsX5_well := goodIn_r _ [28, 18, 19, 20, 4, 21, 22, 23, 24, 29, 30, 31, 32, 33, 34, 35, 36, 37, 38, 39, 40, 41, 42, 43] (by decide +kernel) (by decide +kernel)
set_option maxRecDepth 20000 in
theorem gX5_load_X5_well : GoodIn wsX5_load (wsV RX5 87 RX5 yX5_well wsX5_well) := goodIn_app (goodIn_of _ (by decide +kernel)) ggX5_load_X5_well
theorem dX5_load_0 : decode cX5_load 0 = .ok (.iload_n 1, 1) := by decide +kernel
theorem dX5_load_1 : decode cX5_load 1 = .ok (.iload_n 2, 1) := by decide +kernel
theorem dX5_load_2 : decode cX5_load 2 = .ok (.invokestatic 81, 3) := by decide +kernel
theorem dX5_load_5 : decode cX5_load 5 = .ok (.istore 4, 2) := by decide +kernel
theorem dX5_load_7 : decode cX5_load 7 = .ok (.iload 4, 2) := by decide +kernel
theorem dX5_load_9 : decode cX5_load 9 = .ok (.ifCond .eq 6, 3) := by decide +kernel
theorem dX5_load_12 : decode cX5_load 12 = .ok (.iload 4, 2) := by decide +kernel
theorem dX5_load_14 : decode cX5_load 14 = .ok (.ireturn, 1) := by decide +kernel
theorem dX5_load_15 : decode cX5_load 15 = .ok (.aload_n 0, 1) := by decide +kernel
theorem dX5_load_16 : decode cX5_load 16 = .ok (.iload_n 1, 1) := by decide +kernel
theorem dX5_load_17 : decode cX5_load 17 = .ok (.iload_n 2, 1) := by decide +kernel
theorem dX5_load_18 : decode cX5_load 18 = .ok (.invokevirtual 84, 3) := by decide +kernel
theorem dX5_load_21 : decode cX5_load 21 = .ok (.istore 5, 2) := by decide +kernel
theorem dX5_load_23 : decode cX5_load 23 = .ok (.iload 5, 2) := by decide +kernel
theorem dX5_load_25 : decode cX5_load 25 = .ok (.iconst (-1), 1) := by decide +kernel
theorem dX5_load_26 : decode cX5_load 26 = .ok (.if_icmp .ne 7, 3) := by decide +kernel
theorem dX5_load_29 : decode cX5_load 29 = .ok (.sipush (-201), 3) := by decide +kernel
theorem dX5_load_32 : decode cX5_load 32 = .ok (.ireturn, 1) := by decide +kernel
theorem dX5_load_33 : decode cX5_load 33 = .ok (.aload_n 0, 1) := by decide +kernel
theorem dX5_load_34 : decode cX5_load 34 = .ok (.getfield 13, 3) := by decide +kernel
theorem dX5_load_37 : decode cX5_load 37 = .ok (.iload 5, 2) := by decide +kernel
theorem dX5_load_39 : decode cX5_load 39 = .ok (.iload_n 3, 1) := by decide +kernel
theorem dX5_load_40 : decode cX5_load 40 = .ok (.iastore, 1) := by decide +kernel
theorem dX5_load_41 : decode cX5_load 41 = .ok (.aload_n 0, 1) := by decide +kernel
theorem dX5_load_42 : decode cX5_load 42 = .ok (.iconst 1, 1) := by decide +kernel
theorem dX5_load_43 : decode cX5_load 43 = .ok (.iload_n 2, 1) := by decide +kernel
theorem dX5_load_44 : decode cX5_load 44 = .ok (.invokevirtual 87, 3) := by decide +kernel
theorem dX5_load_47 : decode cX5_load 47 = .ok (.ireturn, 1) := by decide +kernel
set_option maxRecDepth 20000 in
theorem ggX5_cut_X5_refused : GoodIn wsX5_cut wsX5_refused := goodIn_r _ [5, 6, 7, 4, 8, 9, 10, 11] (by decide +kernel) (by decide +kernel)
set_option maxRecDepth 20000 in
theorem gX5_cut_X5_refused : GoodIn wsX5_cut (va_wsS RX5 81 yX5_refused wsX5_refused) := goodIn_app (goodIn_of _ (by decide +kernel)) ggX5_cut_X5_refused
set_option maxRecDepth 20000 in
theorem ggX5_cut_X5_nth : GoodIn wsX5_cut wsX5_nth := goodIn_r _ [15, 16, 1, 17, 18, 19, 4, 20, 21, 22, 23, 28, 29, 30, 31, 32, 33, 34, 35, 36, 37, 38, 39, 40, 41, 42] (by decide +kernel) (by decide +kernel)
set_option maxRecDepth 20000 in
theorem gX5_cut_X5_nth : GoodIn wsX5_cut (wsV RX5 84 RX5 yX5_nth wsX5_nth) := goodIn_app (goodIn_of _ (by decide +kernel)) ggX5_cut_X5_nth
set_option maxRecDepth 20000 in
theorem ggX5_cut_X5_well : GoodIn wsX5_cut wsX5_well := goodIn_r _ [27, 17, 18, 19, 4, 20, 21, 22, 23, 28, 29, 30, 31, 32, 33, 34, 35, 36, 37, 38, 39, 40, 41, 42] (by decide +kernel) (by decide +kernel)
set_option maxRecDepth 20000 in
theorem gX5_cut_X5_well : GoodIn wsX5_cut (wsV RX5 87 RX5 yX5_well wsX5_well) := goodIn_app (goodIn_of _ (by decide +kernel)) ggX5_cut_X5_well
theorem dX5_cut_0 : decode cX5_cut 0 = .ok (.iload_n 1, 1) := by decide +kernel
theorem dX5_cut_1 : decode cX5_cut 1 = .ok (.iload_n 2, 1) := by decide +kernel
theorem dX5_cut_2 : decode cX5_cut 2 = .ok (.invokestatic 81, 3) := by decide +kernel
theorem dX5_cut_5 : decode cX5_cut 5 = .ok (.istore_n 3, 1) := by decide +kernel
theorem dX5_cut_6 : decode cX5_cut 6 = .ok (.iload_n 3, 1) := by decide +kernel
theorem dX5_cut_7 : decode cX5_cut 7 = .ok (.ifCond .eq 5, 3) := by decide +kernel
theorem dX5_cut_10 : decode cX5_cut 10 = .ok (.iload_n 3, 1) := by decide +kernel
theorem dX5_cut_11 : decode cX5_cut 11 = .ok (.ireturn, 1) := by decide +kernel
theorem dX5_cut_12 : decode cX5_cut 12 = .ok (.aload_n 0, 1) := by decide +kernel
theorem dX5_cut_13 : decode cX5_cut 13 = .ok (.iload_n 1, 1) := by decide +kernel
theorem dX5_cut_14 : decode cX5_cut 14 = .ok (.iload_n 2, 1) := by decide +kernel
theorem dX5_cut_15 : decode cX5_cut 15 = .ok (.invokevirtual 84, 3) := by decide +kernel
theorem dX5_cut_18 : decode cX5_cut 18 = .ok (.istore 4, 2) := by decide +kernel
theorem dX5_cut_20 : decode cX5_cut 20 = .ok (.iload 4, 2) := by decide +kernel
theorem dX5_cut_22 : decode cX5_cut 22 = .ok (.iconst (-1), 1) := by decide +kernel
theorem dX5_cut_23 : decode cX5_cut 23 = .ok (.if_icmp .ne 7, 3) := by decide +kernel
theorem dX5_cut_26 : decode cX5_cut 26 = .ok (.sipush (-201), 3) := by decide +kernel
theorem dX5_cut_29 : decode cX5_cut 29 = .ok (.ireturn, 1) := by decide +kernel
theorem dX5_cut_30 : decode cX5_cut 30 = .ok (.aload_n 0, 1) := by decide +kernel
theorem dX5_cut_31 : decode cX5_cut 31 = .ok (.getfield 16, 3) := by decide +kernel
theorem dX5_cut_34 : decode cX5_cut 34 = .ok (.iload 4, 2) := by decide +kernel
theorem dX5_cut_36 : decode cX5_cut 36 = .ok (.iconst (-1), 1) := by decide +kernel
theorem dX5_cut_37 : decode cX5_cut 37 = .ok (.iastore, 1) := by decide +kernel
theorem dX5_cut_38 : decode cX5_cut 38 = .ok (.aload_n 0, 1) := by decide +kernel
theorem dX5_cut_39 : decode cX5_cut 39 = .ok (.iconst 1, 1) := by decide +kernel
theorem dX5_cut_40 : decode cX5_cut 40 = .ok (.iload_n 2, 1) := by decide +kernel
theorem dX5_cut_41 : decode cX5_cut 41 = .ok (.invokevirtual 87, 3) := by decide +kernel
theorem dX5_cut_44 : decode cX5_cut 44 = .ok (.ireturn, 1) := by decide +kernel
set_option maxRecDepth 20000 in
theorem ggX5_hoot_X5_refused : GoodIn wsX5_hoot wsX5_refused := goodIn_r _ [6, 7, 8, 5, 9, 10, 11, 12] (by decide +kernel) (by decide +kernel)
set_option maxRecDepth 20000 in
theorem gX5_hoot_X5_refused : GoodIn wsX5_hoot (va_wsS RX5 81 yX5_refused wsX5_refused) := goodIn_app (goodIn_of _ (by decide +kernel)) ggX5_hoot_X5_refused
set_option maxRecDepth 20000 in
theorem ggX5_hoot_X5_nth : GoodIn wsX5_hoot wsX5_nth := goodIn_r _ [16, 17, 18, 19, 20, 21, 5, 22, 23, 24, 25, 30, 31, 32, 33, 34, 35, 36, 37, 38, 39, 40, 41, 42, 43, 44] (by decide +kernel) (by decide +kernel)
set_option maxRecDepth 20000 in
theorem gX5_hoot_X5_nth : GoodIn wsX5_hoot (wsV RX5 84 RX5 yX5_nth wsX5_nth) := goodIn_app (goodIn_of _ (by decide +kernel)) ggX5_hoot_X5_nth
set_option maxRecDepth 20000 in
theorem ggX5_hoot_X5_well : GoodIn wsX5_hoot wsX5_well := goodIn_r _ [29, 19, 20, 21, 5, 22, 23, 24, 25, 30, 31, 32, 33, 34, 35, 36, 37, 38, 39, 40, 41, 42, 43, 44] (by decide +kernel) (by decide +kernel)
set_option maxRecDepth 20000 in
theorem gX5_hoot_X5_well : GoodIn wsX5_hoot (wsV RX5 87 RX5 yX5_well wsX5_well) := goodIn_app (goodIn_of _ (by decide +kernel)) ggX5_hoot_X5_well
theorem dX5_hoot_0 : decode cX5_hoot 0 = .ok (.iload_n 1, 1) := by decide +kernel
theorem dX5_hoot_1 : decode cX5_hoot 1 = .ok (.iload_n 2, 1) := by decide +kernel
theorem dX5_hoot_2 : decode cX5_hoot 2 = .ok (.invokestatic 81, 3) := by decide +kernel
theorem dX5_hoot_5 : decode cX5_hoot 5 = .ok (.istore_n 3, 1) := by decide +kernel
theorem dX5_hoot_6 : decode cX5_hoot 6 = .ok (.iload_n 3, 1) := by decide +kernel
theorem dX5_hoot_7 : decode cX5_hoot 7 = .ok (.ifCond .eq 5, 3) := by decide +kernel
theorem dX5_hoot_10 : decode cX5_hoot 10 = .ok (.iload_n 3, 1) := by decide +kernel
theorem dX5_hoot_11 : decode cX5_hoot 11 = .ok (.ireturn, 1) := by decide +kernel
theorem dX5_hoot_12 : decode cX5_hoot 12 = .ok (.aload_n 0, 1) := by decide +kernel
theorem dX5_hoot_13 : decode cX5_hoot 13 = .ok (.iload_n 1, 1) := by decide +kernel
theorem dX5_hoot_14 : decode cX5_hoot 14 = .ok (.iload_n 2, 1) := by decide +kernel
theorem dX5_hoot_15 : decode cX5_hoot 15 = .ok (.invokevirtual 84, 3) := by decide +kernel
theorem dX5_hoot_18 : decode cX5_hoot 18 = .ok (.istore 4, 2) := by decide +kernel
theorem dX5_hoot_20 : decode cX5_hoot 20 = .ok (.iload 4, 2) := by decide +kernel
theorem dX5_hoot_22 : decode cX5_hoot 22 = .ok (.iconst (-1), 1) := by decide +kernel
theorem dX5_hoot_23 : decode cX5_hoot 23 = .ok (.if_icmp .ne 7, 3) := by decide +kernel
theorem dX5_hoot_26 : decode cX5_hoot 26 = .ok (.sipush (-201), 3) := by decide +kernel
theorem dX5_hoot_29 : decode cX5_hoot 29 = .ok (.ireturn, 1) := by decide +kernel
theorem dX5_hoot_30 : decode cX5_hoot 30 = .ok (.aload_n 0, 1) := by decide +kernel
theorem dX5_hoot_31 : decode cX5_hoot 31 = .ok (.getfield 7, 3) := by decide +kernel
theorem dX5_hoot_34 : decode cX5_hoot 34 = .ok (.iload 4, 2) := by decide +kernel
theorem dX5_hoot_36 : decode cX5_hoot 36 = .ok (.iaload, 1) := by decide +kernel
theorem dX5_hoot_37 : decode cX5_hoot 37 = .ok (.istore 5, 2) := by decide +kernel
theorem dX5_hoot_39 : decode cX5_hoot 39 = .ok (.aload_n 0, 1) := by decide +kernel
theorem dX5_hoot_40 : decode cX5_hoot 40 = .ok (.getfield 13, 3) := by decide +kernel
theorem dX5_hoot_43 : decode cX5_hoot 43 = .ok (.iload 4, 2) := by decide +kernel
theorem dX5_hoot_45 : decode cX5_hoot 45 = .ok (.iaload, 1) := by decide +kernel
theorem dX5_hoot_46 : decode cX5_hoot 46 = .ok (.istore 6, 2) := by decide +kernel
theorem dX5_hoot_48 : decode cX5_hoot 48 = .ok (.aload_n 0, 1) := by decide +kernel
theorem dX5_hoot_49 : decode cX5_hoot 49 = .ok (.iload 5, 2) := by decide +kernel
theorem dX5_hoot_51 : decode cX5_hoot 51 = .ok (.ifCond .ne 8, 3) := by decide +kernel
theorem dX5_hoot_54 : decode cX5_hoot 54 = .ok (.iload 6, 2) := by decide +kernel
theorem dX5_hoot_56 : decode cX5_hoot 56 = .ok (.goto 37, 3) := by decide +kernel
theorem dX5_hoot_59 : decode cX5_hoot 59 = .ok (.iload 5, 2) := by decide +kernel
theorem dX5_hoot_61 : decode cX5_hoot 61 = .ok (.iconst 3, 1) := by decide +kernel
theorem dX5_hoot_62 : decode cX5_hoot 62 = .ok (.if_icmp .ge 10, 3) := by decide +kernel
theorem dX5_hoot_65 : decode cX5_hoot 65 = .ok (.iload 6, 2) := by decide +kernel
theorem dX5_hoot_67 : decode cX5_hoot 67 = .ok (.iconst 1, 1) := by decide +kernel
theorem dX5_hoot_68 : decode cX5_hoot 68 = .ok (.iadd, 1) := by decide +kernel
theorem dX5_hoot_69 : decode cX5_hoot 69 = .ok (.goto 24, 3) := by decide +kernel
theorem dX5_hoot_72 : decode cX5_hoot 72 = .ok (.iload 5, 2) := by decide +kernel
theorem dX5_hoot_74 : decode cX5_hoot 74 = .ok (.iconst 3, 1) := by decide +kernel
theorem dX5_hoot_75 : decode cX5_hoot 75 = .ok (.if_icmp .ne 11, 3) := by decide +kernel
theorem dX5_hoot_78 : decode cX5_hoot 78 = .ok (.bipush 10, 2) := by decide +kernel
theorem dX5_hoot_80 : decode cX5_hoot 80 = .ok (.iload 6, 2) := by decide +kernel
theorem dX5_hoot_82 : decode cX5_hoot 82 = .ok (.imul, 1) := by decide +kernel
theorem dX5_hoot_83 : decode cX5_hoot 83 = .ok (.goto 10, 3) := by decide +kernel
theorem dX5_hoot_86 : decode cX5_hoot 86 = .ok (.bipush 10, 2) := by decide +kernel
theorem dX5_hoot_88 : decode cX5_hoot 88 = .ok (.iload 6, 2) := by decide +kernel
theorem dX5_hoot_90 : decode cX5_hoot 90 = .ok (.imul, 1) := by decide +kernel
theorem dX5_hoot_91 : decode cX5_hoot 91 = .ok (.iconst 1, 1) := by decide +kernel
theorem dX5_hoot_92 : decode cX5_hoot 92 = .ok (.isub, 1) := by decide +kernel
theorem dX5_hoot_93 : decode cX5_hoot 93 = .ok (.iload_n 2, 1) := by decide +kernel
theorem dX5_hoot_94 : decode cX5_hoot 94 = .ok (.invokevirtual 87, 3) := by decide +kernel
theorem dX5_hoot_97 : decode cX5_hoot 97 = .ok (.ireturn, 1) := by decide +kernel
set_option maxRecDepth 20000 in
theorem ggX5_pull_X5_refused : GoodIn wsX5_pull wsX5_refused := goodIn_r _ [7, 8, 9, 6, 10, 11, 12, 13] (by decide +kernel) (by decide +kernel)
set_option maxRecDepth 20000 in
theorem gX5_pull_X5_refused : GoodIn wsX5_pull (va_wsS RX5 81 yX5_refused wsX5_refused) := goodIn_app (goodIn_of _ (by decide +kernel)) ggX5_pull_X5_refused
set_option maxRecDepth 20000 in
theorem ggX5_pull_X5_nth : GoodIn wsX5_pull wsX5_nth := goodIn_r _ [17, 18, 3, 19, 20, 21, 6, 22, 23, 24, 25, 30, 31, 32, 33, 34, 35, 36, 37, 38, 39, 40, 41, 42, 43, 44] (by decide +kernel) (by decide +kernel)
set_option maxRecDepth 20000 in
theorem gX5_pull_X5_nth : GoodIn wsX5_pull (wsV RX5 84 RX5 yX5_nth wsX5_nth) := goodIn_app (goodIn_of _ (by decide +kernel)) ggX5_pull_X5_nth
set_option maxRecDepth 20000 in
theorem ggX5_pull_X5_ends : GoodIn wsX5_pull wsX5_ends := goodIn_r _ [22, 23, 24, 25, 30, 31, 32, 33, 34, 35, 36, 37, 38, 39, 40, 41, 42, 43, 44] (by decide +kernel) (by decide +kernel)
set_option maxRecDepth 20000 in
theorem gX5_pull_X5_ends : GoodIn wsX5_pull (wsV RX5 77 RX5 yX5_ends wsX5_ends) := goodIn_app (goodIn_of _ (by decide +kernel)) ggX5_pull_X5_ends
set_option maxRecDepth 20000 in
theorem ggX5_pull_X5_well : GoodIn wsX5_pull wsX5_well := goodIn_r _ [29, 19, 20, 21, 6, 22, 23, 24, 25, 30, 31, 32, 33, 34, 35, 36, 37, 38, 39, 40, 41, 42, 43, 44] (by decide +kernel) (by decide +kernel)
set_option maxRecDepth 20000 in
theorem gX5_pull_X5_well : GoodIn wsX5_pull (wsV RX5 87 RX5 yX5_well wsX5_well) := goodIn_app (goodIn_of _ (by decide +kernel)) ggX5_pull_X5_well
theorem dX5_pull_0 : decode cX5_pull 0 = .ok (.iload_n 1, 1) := by decide +kernel
theorem dX5_pull_1 : decode cX5_pull 1 = .ok (.iload_n 2, 1) := by decide +kernel
theorem dX5_pull_2 : decode cX5_pull 2 = .ok (.invokestatic 81, 3) := by decide +kernel
theorem dX5_pull_5 : decode cX5_pull 5 = .ok (.istore_n 3, 1) := by decide +kernel
theorem dX5_pull_6 : decode cX5_pull 6 = .ok (.iload_n 3, 1) := by decide +kernel
theorem dX5_pull_7 : decode cX5_pull 7 = .ok (.ifCond .eq 5, 3) := by decide +kernel
theorem dX5_pull_10 : decode cX5_pull 10 = .ok (.iload_n 3, 1) := by decide +kernel
theorem dX5_pull_11 : decode cX5_pull 11 = .ok (.ireturn, 1) := by decide +kernel
theorem dX5_pull_12 : decode cX5_pull 12 = .ok (.aload_n 0, 1) := by decide +kernel
theorem dX5_pull_13 : decode cX5_pull 13 = .ok (.iload_n 1, 1) := by decide +kernel
theorem dX5_pull_14 : decode cX5_pull 14 = .ok (.iload_n 2, 1) := by decide +kernel
theorem dX5_pull_15 : decode cX5_pull 15 = .ok (.invokevirtual 84, 3) := by decide +kernel
theorem dX5_pull_18 : decode cX5_pull 18 = .ok (.istore 4, 2) := by decide +kernel
theorem dX5_pull_20 : decode cX5_pull 20 = .ok (.iload 4, 2) := by decide +kernel
theorem dX5_pull_22 : decode cX5_pull 22 = .ok (.iconst (-1), 1) := by decide +kernel
theorem dX5_pull_23 : decode cX5_pull 23 = .ok (.if_icmp .ne 7, 3) := by decide +kernel
theorem dX5_pull_26 : decode cX5_pull 26 = .ok (.sipush (-201), 3) := by decide +kernel
theorem dX5_pull_29 : decode cX5_pull 29 = .ok (.ireturn, 1) := by decide +kernel
theorem dX5_pull_30 : decode cX5_pull 30 = .ok (.aload_n 0, 1) := by decide +kernel
theorem dX5_pull_31 : decode cX5_pull 31 = .ok (.getfield 7, 3) := by decide +kernel
theorem dX5_pull_34 : decode cX5_pull 34 = .ok (.iload 4, 2) := by decide +kernel
theorem dX5_pull_36 : decode cX5_pull 36 = .ok (.iaload, 1) := by decide +kernel
theorem dX5_pull_37 : decode cX5_pull 37 = .ok (.iconst 3, 1) := by decide +kernel
theorem dX5_pull_38 : decode cX5_pull 38 = .ok (.if_icmp .ge 10, 3) := by decide +kernel
theorem dX5_pull_41 : decode cX5_pull 41 = .ok (.aload_n 0, 1) := by decide +kernel
theorem dX5_pull_42 : decode cX5_pull 42 = .ok (.iconst 4, 1) := by decide +kernel
theorem dX5_pull_43 : decode cX5_pull 43 = .ok (.iload_n 2, 1) := by decide +kernel
theorem dX5_pull_44 : decode cX5_pull 44 = .ok (.invokevirtual 77, 3) := by decide +kernel
theorem dX5_pull_47 : decode cX5_pull 47 = .ok (.ireturn, 1) := by decide +kernel
theorem dX5_pull_48 : decode cX5_pull 48 = .ok (.aload_n 0, 1) := by decide +kernel
theorem dX5_pull_49 : decode cX5_pull 49 = .ok (.getfield 7, 3) := by decide +kernel
theorem dX5_pull_52 : decode cX5_pull 52 = .ok (.iload 4, 2) := by decide +kernel
theorem dX5_pull_54 : decode cX5_pull 54 = .ok (.iaload, 1) := by decide +kernel
theorem dX5_pull_55 : decode cX5_pull 55 = .ok (.iconst 4, 1) := by decide +kernel
theorem dX5_pull_56 : decode cX5_pull 56 = .ok (.if_icmp .ne 14, 3) := by decide +kernel
theorem dX5_pull_59 : decode cX5_pull 59 = .ok (.aload_n 0, 1) := by decide +kernel
theorem dX5_pull_60 : decode cX5_pull 60 = .ok (.getfield 13, 3) := by decide +kernel
theorem dX5_pull_63 : decode cX5_pull 63 = .ok (.iload 4, 2) := by decide +kernel
theorem dX5_pull_65 : decode cX5_pull 65 = .ok (.iaload, 1) := by decide +kernel
theorem dX5_pull_66 : decode cX5_pull 66 = .ok (.ineg, 1) := by decide +kernel
theorem dX5_pull_67 : decode cX5_pull 67 = .ok (.goto 4, 3) := by decide +kernel
theorem dX5_pull_70 : decode cX5_pull 70 = .ok (.iconst 0, 1) := by decide +kernel
theorem dX5_pull_71 : decode cX5_pull 71 = .ok (.istore 5, 2) := by decide +kernel
theorem dX5_pull_73 : decode cX5_pull 73 = .ok (.aload_n 0, 1) := by decide +kernel
theorem dX5_pull_74 : decode cX5_pull 74 = .ok (.getfield 16, 3) := by decide +kernel
theorem dX5_pull_77 : decode cX5_pull 77 = .ok (.iload 4, 2) := by decide +kernel
theorem dX5_pull_79 : decode cX5_pull 79 = .ok (.iaload, 1) := by decide +kernel
theorem dX5_pull_80 : decode cX5_pull 80 = .ok (.istore 6, 2) := by decide +kernel
theorem dX5_pull_82 : decode cX5_pull 82 = .ok (.iload 6, 2) := by decide +kernel
theorem dX5_pull_84 : decode cX5_pull 84 = .ok (.iconst (-1), 1) := by decide +kernel
theorem dX5_pull_85 : decode cX5_pull 85 = .ok (.if_icmp .eq 27, 3) := by decide +kernel
theorem dX5_pull_88 : decode cX5_pull 88 = .ok (.iload 5, 2) := by decide +kernel
theorem dX5_pull_90 : decode cX5_pull 90 = .ok (.aload_n 0, 1) := by decide +kernel
theorem dX5_pull_91 : decode cX5_pull 91 = .ok (.getfield 13, 3) := by decide +kernel
theorem dX5_pull_94 : decode cX5_pull 94 = .ok (.iload 6, 2) := by decide +kernel
theorem dX5_pull_96 : decode cX5_pull 96 = .ok (.iaload, 1) := by decide +kernel
theorem dX5_pull_97 : decode cX5_pull 97 = .ok (.iadd, 1) := by decide +kernel
theorem dX5_pull_98 : decode cX5_pull 98 = .ok (.istore 5, 2) := by decide +kernel
theorem dX5_pull_100 : decode cX5_pull 100 = .ok (.aload_n 0, 1) := by decide +kernel
theorem dX5_pull_101 : decode cX5_pull 101 = .ok (.getfield 16, 3) := by decide +kernel
theorem dX5_pull_104 : decode cX5_pull 104 = .ok (.iload 6, 2) := by decide +kernel
theorem dX5_pull_106 : decode cX5_pull 106 = .ok (.iaload, 1) := by decide +kernel
theorem dX5_pull_107 : decode cX5_pull 107 = .ok (.istore 6, 2) := by decide +kernel
theorem dX5_pull_109 : decode cX5_pull 109 = .ok (.goto (-27), 3) := by decide +kernel
theorem dX5_pull_112 : decode cX5_pull 112 = .ok (.aload_n 0, 1) := by decide +kernel
theorem dX5_pull_113 : decode cX5_pull 113 = .ok (.iload 5, 2) := by decide +kernel
theorem dX5_pull_115 : decode cX5_pull 115 = .ok (.iload_n 2, 1) := by decide +kernel
theorem dX5_pull_116 : decode cX5_pull 116 = .ok (.invokevirtual 87, 3) := by decide +kernel
theorem dX5_pull_119 : decode cX5_pull 119 = .ok (.ireturn, 1) := by decide +kernel
set_option maxRecDepth 20000 in
theorem ggX5_loadAs_X5_refused : GoodIn wsX5_loadAs wsX5_refused := goodIn_r _ [6, 7, 8, 5, 9, 10, 11, 12] (by decide +kernel) (by decide +kernel)
set_option maxRecDepth 20000 in
theorem gX5_loadAs_X5_refused : GoodIn wsX5_loadAs (va_wsS RX5 81 yX5_refused wsX5_refused) := goodIn_app (goodIn_of _ (by decide +kernel)) ggX5_loadAs_X5_refused
set_option maxRecDepth 20000 in
theorem ggX5_loadAs_X5_isKind : GoodIn wsX5_loadAs wsX5_isKind := goodIn_r _ [15, 10, 11, 5, 12] (by decide +kernel) (by decide +kernel)
set_option maxRecDepth 20000 in
theorem gX5_loadAs_X5_isKind : GoodIn wsX5_loadAs (va_wsS RX5 51 yX5_isKind wsX5_isKind) := goodIn_app (goodIn_of _ (by decide +kernel)) ggX5_loadAs_X5_isKind
set_option maxRecDepth 20000 in
theorem ggX5_loadAs_X5_nth : GoodIn wsX5_loadAs wsX5_nth := goodIn_r _ [19, 20, 21, 22, 23, 24, 5, 25, 26, 27, 28, 36, 37, 38, 39, 40, 41, 42, 43, 44, 45, 46, 47, 48, 49, 50] (by decide +kernel) (by decide +kernel)
set_option maxRecDepth 20000 in
theorem gX5_loadAs_X5_nth : GoodIn wsX5_loadAs (wsV RX5 84 RX5 yX5_nth wsX5_nth) := goodIn_app (goodIn_of _ (by decide +kernel)) ggX5_loadAs_X5_nth
set_option maxRecDepth 20000 in
theorem ggX5_loadAs_X5_isOf : GoodIn wsX5_loadAs wsX5_isOf := goodIn_r _ [31] (by decide +kernel) (by decide +kernel)
set_option maxRecDepth 20000 in
theorem gX5_loadAs_X5_isOf : GoodIn wsX5_loadAs (va_wsS RX5 90 yX5_isOf wsX5_isOf) := goodIn_app (goodIn_of _ (by decide +kernel)) ggX5_loadAs_X5_isOf
set_option maxRecDepth 20000 in
theorem ggX5_loadAs_X5_well : GoodIn wsX5_loadAs wsX5_well := goodIn_r _ [35, 22, 23, 24, 5, 25, 26, 27, 28, 36, 37, 38, 39, 40, 41, 42, 43, 44, 45, 46, 47, 48, 49, 50] (by decide +kernel) (by decide +kernel)
set_option maxRecDepth 20000 in
theorem gX5_loadAs_X5_well : GoodIn wsX5_loadAs (wsV RX5 87 RX5 yX5_well wsX5_well) := goodIn_app (goodIn_of _ (by decide +kernel)) ggX5_loadAs_X5_well
set_option maxRecDepth 20000 in
theorem ggX5_loadAs_X5_ends : GoodIn wsX5_loadAs wsX5_ends := goodIn_r _ [25, 26, 27, 28, 36, 37, 38, 39, 40, 41, 42, 43, 44, 45, 46, 47, 48, 49, 50] (by decide +kernel) (by decide +kernel)
set_option maxRecDepth 20000 in
theorem gX5_loadAs_X5_ends : GoodIn wsX5_loadAs (wsV RX5 77 RX5 yX5_ends wsX5_ends) := goodIn_app (goodIn_of _ (by decide +kernel)) ggX5_loadAs_X5_ends
theorem dX5_loadAs_0 : decode cX5_loadAs 0 = .ok (.iload_n 1, 1) := by decide +kernel
theorem dX5_loadAs_1 : decode cX5_loadAs 1 = .ok (.iload_n 2, 1) := by decide +kernel
theorem dX5_loadAs_2 : decode cX5_loadAs 2 = .ok (.invokestatic 81, 3) := by decide +kernel
theorem dX5_loadAs_5 : decode cX5_loadAs 5 = .ok (.istore 4, 2) := by decide +kernel
theorem dX5_loadAs_7 : decode cX5_loadAs 7 = .ok (.iload 4, 2) := by decide +kernel
theorem dX5_loadAs_9 : decode cX5_loadAs 9 = .ok (.ifCond .eq 6, 3) := by decide +kernel
theorem dX5_loadAs_12 : decode cX5_loadAs 12 = .ok (.iload 4, 2) := by decide +kernel
theorem dX5_loadAs_14 : decode cX5_loadAs 14 = .ok (.ireturn, 1) := by decide +kernel
theorem dX5_loadAs_15 : decode cX5_loadAs 15 = .ok (.iload_n 3, 1) := by decide +kernel
theorem dX5_loadAs_16 : decode cX5_loadAs 16 = .ok (.invokestatic 51, 3) := by decide +kernel
theorem dX5_loadAs_19 : decode cX5_loadAs 19 = .ok (.ifCond .ne 6, 3) := by decide +kernel
theorem dX5_loadAs_22 : decode cX5_loadAs 22 = .ok (.bipush (-102), 2) := by decide +kernel
theorem dX5_loadAs_24 : decode cX5_loadAs 24 = .ok (.ireturn, 1) := by decide +kernel
theorem dX5_loadAs_25 : decode cX5_loadAs 25 = .ok (.aload_n 0, 1) := by decide +kernel
theorem dX5_loadAs_26 : decode cX5_loadAs 26 = .ok (.iload_n 1, 1) := by decide +kernel
theorem dX5_loadAs_27 : decode cX5_loadAs 27 = .ok (.iload_n 2, 1) := by decide +kernel
theorem dX5_loadAs_28 : decode cX5_loadAs 28 = .ok (.invokevirtual 84, 3) := by decide +kernel
theorem dX5_loadAs_31 : decode cX5_loadAs 31 = .ok (.istore 5, 2) := by decide +kernel
theorem dX5_loadAs_33 : decode cX5_loadAs 33 = .ok (.iload 5, 2) := by decide +kernel
theorem dX5_loadAs_35 : decode cX5_loadAs 35 = .ok (.iconst (-1), 1) := by decide +kernel
theorem dX5_loadAs_36 : decode cX5_loadAs 36 = .ok (.if_icmp .ne 7, 3) := by decide +kernel
theorem dX5_loadAs_39 : decode cX5_loadAs 39 = .ok (.sipush (-201), 3) := by decide +kernel
theorem dX5_loadAs_42 : decode cX5_loadAs 42 = .ok (.ireturn, 1) := by decide +kernel
theorem dX5_loadAs_43 : decode cX5_loadAs 43 = .ok (.aload_n 0, 1) := by decide +kernel
theorem dX5_loadAs_44 : decode cX5_loadAs 44 = .ok (.getfield 7, 3) := by decide +kernel
theorem dX5_loadAs_47 : decode cX5_loadAs 47 = .ok (.iload 5, 2) := by decide +kernel
theorem dX5_loadAs_49 : decode cX5_loadAs 49 = .ok (.iaload, 1) := by decide +kernel
theorem dX5_loadAs_50 : decode cX5_loadAs 50 = .ok (.iload_n 3, 1) := by decide +kernel
theorem dX5_loadAs_51 : decode cX5_loadAs 51 = .ok (.invokestatic 90, 3) := by decide +kernel
theorem dX5_loadAs_54 : decode cX5_loadAs 54 = .ok (.ifCond .eq 18, 3) := by decide +kernel
theorem dX5_loadAs_57 : decode cX5_loadAs 57 = .ok (.aload_n 0, 1) := by decide +kernel
theorem dX5_loadAs_58 : decode cX5_loadAs 58 = .ok (.aload_n 0, 1) := by decide +kernel
theorem dX5_loadAs_59 : decode cX5_loadAs 59 = .ok (.getfield 13, 3) := by decide +kernel
theorem dX5_loadAs_62 : decode cX5_loadAs 62 = .ok (.iload 5, 2) := by decide +kernel
theorem dX5_loadAs_64 : decode cX5_loadAs 64 = .ok (.iaload, 1) := by decide +kernel
theorem dX5_loadAs_65 : decode cX5_loadAs 65 = .ok (.iload_n 2, 1) := by decide +kernel
theorem dX5_loadAs_66 : decode cX5_loadAs 66 = .ok (.invokevirtual 87, 3) := by decide +kernel
theorem dX5_loadAs_69 : decode cX5_loadAs 69 = .ok (.goto 9, 3) := by decide +kernel
theorem dX5_loadAs_72 : decode cX5_loadAs 72 = .ok (.aload_n 0, 1) := by decide +kernel
theorem dX5_loadAs_73 : decode cX5_loadAs 73 = .ok (.iconst 4, 1) := by decide +kernel
theorem dX5_loadAs_74 : decode cX5_loadAs 74 = .ok (.iload_n 2, 1) := by decide +kernel
theorem dX5_loadAs_75 : decode cX5_loadAs 75 = .ok (.invokevirtual 77, 3) := by decide +kernel
theorem dX5_loadAs_78 : decode cX5_loadAs 78 = .ok (.ireturn, 1) := by decide +kernel
set_option maxRecDepth 20000 in
theorem ggX5_rake_X5_isRake : GoodIn wsX5_rake wsX5_isRake := goodIn_r _ [7, 8, 9, 6, 10] (by decide +kernel) (by decide +kernel)
set_option maxRecDepth 20000 in
theorem gX5_rake_X5_isRake : GoodIn wsX5_rake (va_wsS RX5 94 yX5_isRake wsX5_isRake) := goodIn_app (goodIn_of _ (by decide +kernel)) ggX5_rake_X5_isRake
set_option maxRecDepth 20000 in
theorem ggX5_rake_X5_isKind : GoodIn wsX5_rake wsX5_isKind := goodIn_r _ [13, 8, 9, 6, 10] (by decide +kernel) (by decide +kernel)
set_option maxRecDepth 20000 in
theorem gX5_rake_X5_isKind : GoodIn wsX5_rake (va_wsS RX5 51 yX5_isKind wsX5_isKind) := goodIn_app (goodIn_of _ (by decide +kernel)) ggX5_rake_X5_isKind
set_option maxRecDepth 20000 in
theorem ggX5_rake_X5_ends : GoodIn wsX5_rake wsX5_ends := goodIn_r _ [17, 18, 19, 20, 25, 26, 27, 28, 29, 30, 31, 32, 33, 34, 35, 36, 37, 38, 39] (by decide +kernel) (by decide +kernel)
set_option maxRecDepth 20000 in
theorem gX5_rake_X5_ends : GoodIn wsX5_rake (wsV RX5 77 RX5 yX5_ends wsX5_ends) := goodIn_app (goodIn_of _ (by decide +kernel)) ggX5_rake_X5_ends
set_option maxRecDepth 20000 in
theorem ggX5_rake_X5_well : GoodIn wsX5_rake wsX5_well := goodIn_r _ [24, 14, 15, 16, 6, 17, 18, 19, 20, 25, 26, 27, 28, 29, 30, 31, 32, 33, 34, 35, 36, 37, 38, 39] (by decide +kernel) (by decide +kernel)
set_option maxRecDepth 20000 in
theorem gX5_rake_X5_well : GoodIn wsX5_rake (wsV RX5 87 RX5 yX5_well wsX5_well) := goodIn_app (goodIn_of _ (by decide +kernel)) ggX5_rake_X5_well
theorem dX5_rake_0 : decode cX5_rake 0 = .ok (.iload_n 1, 1) := by decide +kernel
theorem dX5_rake_1 : decode cX5_rake 1 = .ok (.invokestatic 94, 3) := by decide +kernel
theorem dX5_rake_4 : decode cX5_rake 4 = .ok (.ifCond .ne 6, 3) := by decide +kernel
theorem dX5_rake_7 : decode cX5_rake 7 = .ok (.bipush (-101), 2) := by decide +kernel
theorem dX5_rake_9 : decode cX5_rake 9 = .ok (.ireturn, 1) := by decide +kernel
theorem dX5_rake_10 : decode cX5_rake 10 = .ok (.iload_n 2, 1) := by decide +kernel
theorem dX5_rake_11 : decode cX5_rake 11 = .ok (.invokestatic 51, 3) := by decide +kernel
theorem dX5_rake_14 : decode cX5_rake 14 = .ok (.ifCond .eq 9, 3) := by decide +kernel
theorem dX5_rake_17 : decode cX5_rake 17 = .ok (.iload_n 3, 1) := by decide +kernel
theorem dX5_rake_18 : decode cX5_rake 18 = .ok (.bipush 12, 2) := by decide +kernel
theorem dX5_rake_20 : decode cX5_rake 20 = .ok (.if_icmp .le 6, 3) := by decide +kernel
theorem dX5_rake_23 : decode cX5_rake 23 = .ok (.bipush (-102), 2) := by decide +kernel
theorem dX5_rake_25 : decode cX5_rake 25 = .ok (.ireturn, 1) := by decide +kernel
theorem dX5_rake_26 : decode cX5_rake 26 = .ok (.iload_n 3, 1) := by decide +kernel
theorem dX5_rake_27 : decode cX5_rake 27 = .ok (.ifCond .ge 10, 3) := by decide +kernel
theorem dX5_rake_30 : decode cX5_rake 30 = .ok (.aload_n 0, 1) := by decide +kernel
theorem dX5_rake_31 : decode cX5_rake 31 = .ok (.iconst 2, 1) := by decide +kernel
theorem dX5_rake_32 : decode cX5_rake 32 = .ok (.iconst 0, 1) := by decide +kernel
theorem dX5_rake_33 : decode cX5_rake 33 = .ok (.invokevirtual 77, 3) := by decide +kernel
theorem dX5_rake_36 : decode cX5_rake 36 = .ok (.ireturn, 1) := by decide +kernel
theorem dX5_rake_37 : decode cX5_rake 37 = .ok (.aload_n 0, 1) := by decide +kernel
theorem dX5_rake_38 : decode cX5_rake 38 = .ok (.getfield 25, 3) := by decide +kernel
theorem dX5_rake_41 : decode cX5_rake 41 = .ok (.iload_n 1, 1) := by decide +kernel
theorem dX5_rake_42 : decode cX5_rake 42 = .ok (.iload_n 3, 1) := by decide +kernel
theorem dX5_rake_43 : decode cX5_rake 43 = .ok (.iastore, 1) := by decide +kernel
theorem dX5_rake_44 : decode cX5_rake 44 = .ok (.aload_n 0, 1) := by decide +kernel
theorem dX5_rake_45 : decode cX5_rake 45 = .ok (.getfield 28, 3) := by decide +kernel
theorem dX5_rake_48 : decode cX5_rake 48 = .ok (.iload_n 1, 1) := by decide +kernel
theorem dX5_rake_49 : decode cX5_rake 49 = .ok (.iload_n 2, 1) := by decide +kernel
theorem dX5_rake_50 : decode cX5_rake 50 = .ok (.iastore, 1) := by decide +kernel
theorem dX5_rake_51 : decode cX5_rake 51 = .ok (.iconst 0, 1) := by decide +kernel
theorem dX5_rake_52 : decode cX5_rake 52 = .ok (.istore 4, 2) := by decide +kernel
theorem dX5_rake_54 : decode cX5_rake 54 = .ok (.iload 4, 2) := by decide +kernel
theorem dX5_rake_56 : decode cX5_rake 56 = .ok (.iload_n 3, 1) := by decide +kernel
theorem dX5_rake_57 : decode cX5_rake 57 = .ok (.if_icmp .ge 22, 3) := by decide +kernel
theorem dX5_rake_60 : decode cX5_rake 60 = .ok (.aload_n 0, 1) := by decide +kernel
theorem dX5_rake_61 : decode cX5_rake 61 = .ok (.getfield 31, 3) := by decide +kernel
theorem dX5_rake_64 : decode cX5_rake 64 = .ok (.bipush 12, 2) := by decide +kernel
theorem dX5_rake_66 : decode cX5_rake 66 = .ok (.iload_n 1, 1) := by decide +kernel
theorem dX5_rake_67 : decode cX5_rake 67 = .ok (.imul, 1) := by decide +kernel
theorem dX5_rake_68 : decode cX5_rake 68 = .ok (.iload 4, 2) := by decide +kernel
theorem dX5_rake_70 : decode cX5_rake 70 = .ok (.iadd, 1) := by decide +kernel
theorem dX5_rake_71 : decode cX5_rake 71 = .ok (.iconst (-1), 1) := by decide +kernel
theorem dX5_rake_72 : decode cX5_rake 72 = .ok (.iastore, 1) := by decide +kernel
theorem dX5_rake_73 : decode cX5_rake 73 = .ok (.iinc 4 1, 3) := by decide +kernel
theorem dX5_rake_76 : decode cX5_rake 76 = .ok (.goto (-22), 3) := by decide +kernel
theorem dX5_rake_79 : decode cX5_rake 79 = .ok (.aload_n 0, 1) := by decide +kernel
theorem dX5_rake_80 : decode cX5_rake 80 = .ok (.iconst 1, 1) := by decide +kernel
theorem dX5_rake_81 : decode cX5_rake 81 = .ok (.iconst 0, 1) := by decide +kernel
theorem dX5_rake_82 : decode cX5_rake 82 = .ok (.invokevirtual 87, 3) := by decide +kernel
theorem dX5_rake_85 : decode cX5_rake 85 = .ok (.ireturn, 1) := by decide +kernel
set_option maxRecDepth 20000 in
theorem ggX5_drop_X5_isRake : GoodIn wsX5_drop wsX5_isRake := goodIn_r _ [5, 6, 7, 4, 8] (by decide +kernel) (by decide +kernel)
set_option maxRecDepth 20000 in
theorem gX5_drop_X5_isRake : GoodIn wsX5_drop (va_wsS RX5 94 yX5_isRake wsX5_isRake) := goodIn_app (goodIn_of _ (by decide +kernel)) ggX5_drop_X5_isRake
theorem dX5_drop_0 : decode cX5_drop 0 = .ok (.iload_n 1, 1) := by decide +kernel
theorem dX5_drop_1 : decode cX5_drop 1 = .ok (.invokestatic 94, 3) := by decide +kernel
theorem dX5_drop_4 : decode cX5_drop 4 = .ok (.ifCond .ne 6, 3) := by decide +kernel
theorem dX5_drop_7 : decode cX5_drop 7 = .ok (.bipush (-101), 2) := by decide +kernel
theorem dX5_drop_9 : decode cX5_drop 9 = .ok (.ireturn, 1) := by decide +kernel
theorem dX5_drop_10 : decode cX5_drop 10 = .ok (.aload_n 0, 1) := by decide +kernel
theorem dX5_drop_11 : decode cX5_drop 11 = .ok (.getfield 25, 3) := by decide +kernel
theorem dX5_drop_14 : decode cX5_drop 14 = .ok (.iload_n 1, 1) := by decide +kernel
theorem dX5_drop_15 : decode cX5_drop 15 = .ok (.iconst (-1), 1) := by decide +kernel
theorem dX5_drop_16 : decode cX5_drop 16 = .ok (.iastore, 1) := by decide +kernel
theorem dX5_drop_17 : decode cX5_drop 17 = .ok (.iconst 1, 1) := by decide +kernel
theorem dX5_drop_18 : decode cX5_drop 18 = .ok (.ireturn, 1) := by decide +kernel
set_option maxRecDepth 20000 in
theorem ggX5_lay_X5_isRake : GoodIn wsX5_lay wsX5_isRake := goodIn_r _ [10, 11, 12, 9, 13] (by decide +kernel) (by decide +kernel)
set_option maxRecDepth 20000 in
theorem gX5_lay_X5_isRake : GoodIn wsX5_lay (va_wsS RX5 94 yX5_isRake wsX5_isRake) := goodIn_app (goodIn_of _ (by decide +kernel)) ggX5_lay_X5_isRake
set_option maxRecDepth 20000 in
theorem ggX5_lay_X5_isTrack : GoodIn wsX5_lay wsX5_isTrack := goodIn_r _ [16, 11, 12, 9, 13] (by decide +kernel) (by decide +kernel)
set_option maxRecDepth 20000 in
theorem gX5_lay_X5_isTrack : GoodIn wsX5_lay (va_wsS RX5 65 yX5_isTrack wsX5_isTrack) := goodIn_app (goodIn_of _ (by decide +kernel)) ggX5_lay_X5_isTrack
set_option maxRecDepth 20000 in
theorem ggX5_lay_X5_ends : GoodIn wsX5_lay wsX5_ends := goodIn_r _ [20, 21, 22, 23, 31, 32, 33, 34, 35, 36, 37, 38, 39, 40, 41, 42, 43, 44, 45] (by decide +kernel) (by decide +kernel)
set_option maxRecDepth 20000 in
theorem gX5_lay_X5_ends : GoodIn wsX5_lay (wsV RX5 77 RX5 yX5_ends wsX5_ends) := goodIn_app (goodIn_of _ (by decide +kernel)) ggX5_lay_X5_ends
set_option maxRecDepth 20000 in
theorem ggX5_lay_X5_isOf : GoodIn wsX5_lay wsX5_isOf := goodIn_r _ [26] (by decide +kernel) (by decide +kernel)
set_option maxRecDepth 20000 in
theorem gX5_lay_X5_isOf : GoodIn wsX5_lay (va_wsS RX5 90 yX5_isOf wsX5_isOf) := goodIn_app (goodIn_of _ (by decide +kernel)) ggX5_lay_X5_isOf
set_option maxRecDepth 20000 in
theorem ggX5_lay_X5_well : GoodIn wsX5_lay wsX5_well := goodIn_r _ [30, 17, 18, 19, 9, 20, 21, 22, 23, 31, 32, 33, 34, 35, 36, 37, 38, 39, 40, 41, 42, 43, 44, 45] (by decide +kernel) (by decide +kernel)
set_option maxRecDepth 20000 in
theorem gX5_lay_X5_well : GoodIn wsX5_lay (wsV RX5 87 RX5 yX5_well wsX5_well) := goodIn_app (goodIn_of _ (by decide +kernel)) ggX5_lay_X5_well
theorem dX5_lay_0 : decode cX5_lay 0 = .ok (.iload_n 1, 1) := by decide +kernel
theorem dX5_lay_1 : decode cX5_lay 1 = .ok (.invokestatic 94, 3) := by decide +kernel
theorem dX5_lay_4 : decode cX5_lay 4 = .ok (.ifCond .eq 10, 3) := by decide +kernel
theorem dX5_lay_7 : decode cX5_lay 7 = .ok (.iload_n 2, 1) := by decide +kernel
theorem dX5_lay_8 : decode cX5_lay 8 = .ok (.invokestatic 65, 3) := by decide +kernel
theorem dX5_lay_11 : decode cX5_lay 11 = .ok (.ifCond .ne 6, 3) := by decide +kernel
theorem dX5_lay_14 : decode cX5_lay 14 = .ok (.bipush (-101), 2) := by decide +kernel
theorem dX5_lay_16 : decode cX5_lay 16 = .ok (.ireturn, 1) := by decide +kernel
theorem dX5_lay_17 : decode cX5_lay 17 = .ok (.aload_n 0, 1) := by decide +kernel
theorem dX5_lay_18 : decode cX5_lay 18 = .ok (.getfield 19, 3) := by decide +kernel
theorem dX5_lay_21 : decode cX5_lay 21 = .ok (.iload_n 2, 1) := by decide +kernel
theorem dX5_lay_22 : decode cX5_lay 22 = .ok (.iaload, 1) := by decide +kernel
theorem dX5_lay_23 : decode cX5_lay 23 = .ok (.iconst (-1), 1) := by decide +kernel
theorem dX5_lay_24 : decode cX5_lay 24 = .ok (.if_icmp .eq 13, 3) := by decide +kernel
theorem dX5_lay_27 : decode cX5_lay 27 = .ok (.aload_n 0, 1) := by decide +kernel
theorem dX5_lay_28 : decode cX5_lay 28 = .ok (.getfield 25, 3) := by decide +kernel
theorem dX5_lay_31 : decode cX5_lay 31 = .ok (.iload_n 1, 1) := by decide +kernel
theorem dX5_lay_32 : decode cX5_lay 32 = .ok (.iaload, 1) := by decide +kernel
theorem dX5_lay_33 : decode cX5_lay 33 = .ok (.iconst (-1), 1) := by decide +kernel
theorem dX5_lay_34 : decode cX5_lay 34 = .ok (.if_icmp .ne 10, 3) := by decide +kernel
theorem dX5_lay_37 : decode cX5_lay 37 = .ok (.aload_n 0, 1) := by decide +kernel
theorem dX5_lay_38 : decode cX5_lay 38 = .ok (.iconst 1, 1) := by decide +kernel
theorem dX5_lay_39 : decode cX5_lay 39 = .ok (.iconst 0, 1) := by decide +kernel
theorem dX5_lay_40 : decode cX5_lay 40 = .ok (.invokevirtual 77, 3) := by decide +kernel
theorem dX5_lay_43 : decode cX5_lay 43 = .ok (.ireturn, 1) := by decide +kernel
theorem dX5_lay_44 : decode cX5_lay 44 = .ok (.iconst 0, 1) := by decide +kernel
theorem dX5_lay_45 : decode cX5_lay 45 = .ok (.istore_n 3, 1) := by decide +kernel
theorem dX5_lay_46 : decode cX5_lay 46 = .ok (.aload_n 0, 1) := by decide +kernel
theorem dX5_lay_47 : decode cX5_lay 47 = .ok (.getfield 19, 3) := by decide +kernel
theorem dX5_lay_50 : decode cX5_lay 50 = .ok (.iload_n 2, 1) := by decide +kernel
theorem dX5_lay_51 : decode cX5_lay 51 = .ok (.iaload, 1) := by decide +kernel
theorem dX5_lay_52 : decode cX5_lay 52 = .ok (.istore 4, 2) := by decide +kernel
theorem dX5_lay_54 : decode cX5_lay 54 = .ok (.iload 4, 2) := by decide +kernel
theorem dX5_lay_56 : decode cX5_lay 56 = .ok (.iconst (-1), 1) := by decide +kernel
theorem dX5_lay_57 : decode cX5_lay 57 = .ok (.if_icmp .eq 74, 3) := by decide +kernel
theorem dX5_lay_60 : decode cX5_lay 60 = .ok (.iload_n 3, 1) := by decide +kernel
theorem dX5_lay_61 : decode cX5_lay 61 = .ok (.aload_n 0, 1) := by decide +kernel
theorem dX5_lay_62 : decode cX5_lay 62 = .ok (.getfield 25, 3) := by decide +kernel
theorem dX5_lay_65 : decode cX5_lay 65 = .ok (.iload_n 1, 1) := by decide +kernel
theorem dX5_lay_66 : decode cX5_lay 66 = .ok (.iaload, 1) := by decide +kernel
theorem dX5_lay_67 : decode cX5_lay 67 = .ok (.if_icmp .ne 10, 3) := by decide +kernel
theorem dX5_lay_70 : decode cX5_lay 70 = .ok (.aload_n 0, 1) := by decide +kernel
theorem dX5_lay_71 : decode cX5_lay 71 = .ok (.iconst 3, 1) := by decide +kernel
theorem dX5_lay_72 : decode cX5_lay 72 = .ok (.iload_n 3, 1) := by decide +kernel
theorem dX5_lay_73 : decode cX5_lay 73 = .ok (.invokevirtual 77, 3) := by decide +kernel
theorem dX5_lay_76 : decode cX5_lay 76 = .ok (.ireturn, 1) := by decide +kernel
theorem dX5_lay_77 : decode cX5_lay 77 = .ok (.aload_n 0, 1) := by decide +kernel
theorem dX5_lay_78 : decode cX5_lay 78 = .ok (.getfield 7, 3) := by decide +kernel
theorem dX5_lay_81 : decode cX5_lay 81 = .ok (.iload 4, 2) := by decide +kernel
theorem dX5_lay_83 : decode cX5_lay 83 = .ok (.iaload, 1) := by decide +kernel
theorem dX5_lay_84 : decode cX5_lay 84 = .ok (.aload_n 0, 1) := by decide +kernel
theorem dX5_lay_85 : decode cX5_lay 85 = .ok (.getfield 28, 3) := by decide +kernel
theorem dX5_lay_88 : decode cX5_lay 88 = .ok (.iload_n 1, 1) := by decide +kernel
theorem dX5_lay_89 : decode cX5_lay 89 = .ok (.iaload, 1) := by decide +kernel
theorem dX5_lay_90 : decode cX5_lay 90 = .ok (.invokestatic 90, 3) := by decide +kernel
theorem dX5_lay_93 : decode cX5_lay 93 = .ok (.ifCond .ne 10, 3) := by decide +kernel
theorem dX5_lay_96 : decode cX5_lay 96 = .ok (.aload_n 0, 1) := by decide +kernel
theorem dX5_lay_97 : decode cX5_lay 97 = .ok (.iconst 5, 1) := by decide +kernel
theorem dX5_lay_98 : decode cX5_lay 98 = .ok (.iload_n 3, 1) := by decide +kernel
theorem dX5_lay_99 : decode cX5_lay 99 = .ok (.invokevirtual 77, 3) := by decide +kernel
theorem dX5_lay_102 : decode cX5_lay 102 = .ok (.ireturn, 1) := by decide +kernel
theorem dX5_lay_103 : decode cX5_lay 103 = .ok (.aload_n 0, 1) := by decide +kernel
theorem dX5_lay_104 : decode cX5_lay 104 = .ok (.getfield 31, 3) := by decide +kernel
theorem dX5_lay_107 : decode cX5_lay 107 = .ok (.bipush 12, 2) := by decide +kernel
theorem dX5_lay_109 : decode cX5_lay 109 = .ok (.iload_n 1, 1) := by decide +kernel
theorem dX5_lay_110 : decode cX5_lay 110 = .ok (.imul, 1) := by decide +kernel
theorem dX5_lay_111 : decode cX5_lay 111 = .ok (.iload_n 3, 1) := by decide +kernel
theorem dX5_lay_112 : decode cX5_lay 112 = .ok (.iadd, 1) := by decide +kernel
theorem dX5_lay_113 : decode cX5_lay 113 = .ok (.iload 4, 2) := by decide +kernel
theorem dX5_lay_115 : decode cX5_lay 115 = .ok (.iastore, 1) := by decide +kernel
theorem dX5_lay_116 : decode cX5_lay 116 = .ok (.iinc 3 1, 3) := by decide +kernel
theorem dX5_lay_119 : decode cX5_lay 119 = .ok (.aload_n 0, 1) := by decide +kernel
theorem dX5_lay_120 : decode cX5_lay 120 = .ok (.getfield 16, 3) := by decide +kernel
theorem dX5_lay_123 : decode cX5_lay 123 = .ok (.iload 4, 2) := by decide +kernel
theorem dX5_lay_125 : decode cX5_lay 125 = .ok (.iaload, 1) := by decide +kernel
theorem dX5_lay_126 : decode cX5_lay 126 = .ok (.istore 4, 2) := by decide +kernel
theorem dX5_lay_128 : decode cX5_lay 128 = .ok (.goto (-74), 3) := by decide +kernel
theorem dX5_lay_131 : decode cX5_lay 131 = .ok (.aload_n 0, 1) := by decide +kernel
theorem dX5_lay_132 : decode cX5_lay 132 = .ok (.iload_n 3, 1) := by decide +kernel
theorem dX5_lay_133 : decode cX5_lay 133 = .ok (.iload_n 3, 1) := by decide +kernel
theorem dX5_lay_134 : decode cX5_lay 134 = .ok (.invokevirtual 87, 3) := by decide +kernel
theorem dX5_lay_137 : decode cX5_lay 137 = .ok (.ireturn, 1) := by decide +kernel
set_option maxRecDepth 20000 in
theorem ggX5_places_X5_isRake : GoodIn wsX5_places wsX5_isRake := goodIn_r _ [5, 6, 7, 4, 8] (by decide +kernel) (by decide +kernel)
set_option maxRecDepth 20000 in
theorem gX5_places_X5_isRake : GoodIn wsX5_places (va_wsS RX5 94 yX5_isRake wsX5_isRake) := goodIn_app (goodIn_of _ (by decide +kernel)) ggX5_places_X5_isRake
set_option maxRecDepth 20000 in
theorem ggX5_places_X5_ends : GoodIn wsX5_places wsX5_ends := goodIn_r _ [12, 13, 14, 15, 20, 21, 22, 23, 24, 25, 26, 27, 28, 29, 30, 31, 32, 33, 34] (by decide +kernel) (by decide +kernel)
set_option maxRecDepth 20000 in
theorem gX5_places_X5_ends : GoodIn wsX5_places (wsV RX5 77 RX5 yX5_ends wsX5_ends) := goodIn_app (goodIn_of _ (by decide +kernel)) ggX5_places_X5_ends
set_option maxRecDepth 20000 in
theorem ggX5_places_X5_well : GoodIn wsX5_places wsX5_well := goodIn_r _ [19, 9, 10, 11, 4, 12, 13, 14, 15, 20, 21, 22, 23, 24, 25, 26, 27, 28, 29, 30, 31, 32, 33, 34] (by decide +kernel) (by decide +kernel)
set_option maxRecDepth 20000 in
theorem gX5_places_X5_well : GoodIn wsX5_places (wsV RX5 87 RX5 yX5_well wsX5_well) := goodIn_app (goodIn_of _ (by decide +kernel)) ggX5_places_X5_well
theorem dX5_places_0 : decode cX5_places 0 = .ok (.iload_n 1, 1) := by decide +kernel
theorem dX5_places_1 : decode cX5_places 1 = .ok (.invokestatic 94, 3) := by decide +kernel
theorem dX5_places_4 : decode cX5_places 4 = .ok (.ifCond .ne 6, 3) := by decide +kernel
theorem dX5_places_7 : decode cX5_places 7 = .ok (.bipush (-101), 2) := by decide +kernel
theorem dX5_places_9 : decode cX5_places 9 = .ok (.ireturn, 1) := by decide +kernel
theorem dX5_places_10 : decode cX5_places 10 = .ok (.aload_n 0, 1) := by decide +kernel
theorem dX5_places_11 : decode cX5_places 11 = .ok (.getfield 25, 3) := by decide +kernel
theorem dX5_places_14 : decode cX5_places 14 = .ok (.iload_n 1, 1) := by decide +kernel
theorem dX5_places_15 : decode cX5_places 15 = .ok (.iaload, 1) := by decide +kernel
theorem dX5_places_16 : decode cX5_places 16 = .ok (.iconst (-1), 1) := by decide +kernel
theorem dX5_places_17 : decode cX5_places 17 = .ok (.if_icmp .ne 12, 3) := by decide +kernel
theorem dX5_places_20 : decode cX5_places 20 = .ok (.aload_n 0, 1) := by decide +kernel
theorem dX5_places_21 : decode cX5_places 21 = .ok (.iconst 1, 1) := by decide +kernel
theorem dX5_places_22 : decode cX5_places 22 = .ok (.iconst 0, 1) := by decide +kernel
theorem dX5_places_23 : decode cX5_places 23 = .ok (.invokevirtual 77, 3) := by decide +kernel
theorem dX5_places_26 : decode cX5_places 26 = .ok (.goto 14, 3) := by decide +kernel
theorem dX5_places_29 : decode cX5_places 29 = .ok (.aload_n 0, 1) := by decide +kernel
theorem dX5_places_30 : decode cX5_places 30 = .ok (.aload_n 0, 1) := by decide +kernel
theorem dX5_places_31 : decode cX5_places 31 = .ok (.getfield 25, 3) := by decide +kernel
theorem dX5_places_34 : decode cX5_places 34 = .ok (.iload_n 1, 1) := by decide +kernel
theorem dX5_places_35 : decode cX5_places 35 = .ok (.iaload, 1) := by decide +kernel
theorem dX5_places_36 : decode cX5_places 36 = .ok (.iconst 0, 1) := by decide +kernel
theorem dX5_places_37 : decode cX5_places 37 = .ok (.invokevirtual 87, 3) := by decide +kernel
theorem dX5_places_40 : decode cX5_places 40 = .ok (.ireturn, 1) := by decide +kernel
set_option maxRecDepth 20000 in
theorem ggX5_loadOn_X5_isRake : GoodIn wsX5_loadOn wsX5_isRake := goodIn_r _ [7, 8, 9, 6, 10] (by decide +kernel) (by decide +kernel)
set_option maxRecDepth 20000 in
theorem gX5_loadOn_X5_isRake : GoodIn wsX5_loadOn (va_wsS RX5 94 yX5_isRake wsX5_isRake) := goodIn_app (goodIn_of _ (by decide +kernel)) ggX5_loadOn_X5_isRake
set_option maxRecDepth 20000 in
theorem ggX5_loadOn_X5_ends : GoodIn wsX5_loadOn wsX5_ends := goodIn_r _ [14, 15, 16, 17, 22, 23, 24, 25, 26, 27, 28, 29, 30, 31, 32, 33, 34, 35, 36] (by decide +kernel) (by decide +kernel)
set_option maxRecDepth 20000 in
theorem gX5_loadOn_X5_ends : GoodIn wsX5_loadOn (wsV RX5 77 RX5 yX5_ends wsX5_ends) := goodIn_app (goodIn_of _ (by decide +kernel)) ggX5_loadOn_X5_ends
set_option maxRecDepth 20000 in
theorem ggX5_loadOn_X5_in : GoodIn wsX5_loadOn wsX5_in := goodIn_r _ [10] (by decide +kernel) (by decide +kernel)
set_option maxRecDepth 20000 in
theorem gX5_loadOn_X5_in : GoodIn wsX5_loadOn (va_wsS RX5 47 yX5_in wsX5_in) := goodIn_app (goodIn_of _ (by decide +kernel)) ggX5_loadOn_X5_in
set_option maxRecDepth 20000 in
theorem ggX5_loadOn_X5_well : GoodIn wsX5_loadOn wsX5_well := goodIn_r _ [21, 11, 12, 13, 6, 14, 15, 16, 17, 22, 23, 24, 25, 26, 27, 28, 29, 30, 31, 32, 33, 34, 35, 36] (by decide +kernel) (by decide +kernel)
set_option maxRecDepth 20000 in
theorem gX5_loadOn_X5_well : GoodIn wsX5_loadOn (wsV RX5 87 RX5 yX5_well wsX5_well) := goodIn_app (goodIn_of _ (by decide +kernel)) ggX5_loadOn_X5_well
theorem dX5_loadOn_0 : decode cX5_loadOn 0 = .ok (.iload_n 1, 1) := by decide +kernel
theorem dX5_loadOn_1 : decode cX5_loadOn 1 = .ok (.invokestatic 94, 3) := by decide +kernel
theorem dX5_loadOn_4 : decode cX5_loadOn 4 = .ok (.ifCond .ne 6, 3) := by decide +kernel
theorem dX5_loadOn_7 : decode cX5_loadOn 7 = .ok (.bipush (-101), 2) := by decide +kernel
theorem dX5_loadOn_9 : decode cX5_loadOn 9 = .ok (.ireturn, 1) := by decide +kernel
theorem dX5_loadOn_10 : decode cX5_loadOn 10 = .ok (.aload_n 0, 1) := by decide +kernel
theorem dX5_loadOn_11 : decode cX5_loadOn 11 = .ok (.getfield 25, 3) := by decide +kernel
theorem dX5_loadOn_14 : decode cX5_loadOn 14 = .ok (.iload_n 1, 1) := by decide +kernel
theorem dX5_loadOn_15 : decode cX5_loadOn 15 = .ok (.iaload, 1) := by decide +kernel
theorem dX5_loadOn_16 : decode cX5_loadOn 16 = .ok (.iconst (-1), 1) := by decide +kernel
theorem dX5_loadOn_17 : decode cX5_loadOn 17 = .ok (.if_icmp .ne 10, 3) := by decide +kernel
theorem dX5_loadOn_20 : decode cX5_loadOn 20 = .ok (.aload_n 0, 1) := by decide +kernel
theorem dX5_loadOn_21 : decode cX5_loadOn 21 = .ok (.iconst 1, 1) := by decide +kernel
theorem dX5_loadOn_22 : decode cX5_loadOn 22 = .ok (.iconst 0, 1) := by decide +kernel
theorem dX5_loadOn_23 : decode cX5_loadOn 23 = .ok (.invokevirtual 77, 3) := by decide +kernel
theorem dX5_loadOn_26 : decode cX5_loadOn 26 = .ok (.ireturn, 1) := by decide +kernel
theorem dX5_loadOn_27 : decode cX5_loadOn 27 = .ok (.iload_n 2, 1) := by decide +kernel
theorem dX5_loadOn_28 : decode cX5_loadOn 28 = .ok (.iconst 0, 1) := by decide +kernel
theorem dX5_loadOn_29 : decode cX5_loadOn 29 = .ok (.aload_n 0, 1) := by decide +kernel
theorem dX5_loadOn_30 : decode cX5_loadOn 30 = .ok (.getfield 25, 3) := by decide +kernel
theorem dX5_loadOn_33 : decode cX5_loadOn 33 = .ok (.iload_n 1, 1) := by decide +kernel
theorem dX5_loadOn_34 : decode cX5_loadOn 34 = .ok (.iaload, 1) := by decide +kernel
theorem dX5_loadOn_35 : decode cX5_loadOn 35 = .ok (.iconst 1, 1) := by decide +kernel
theorem dX5_loadOn_36 : decode cX5_loadOn 36 = .ok (.isub, 1) := by decide +kernel
theorem dX5_loadOn_37 : decode cX5_loadOn 37 = .ok (.invokestatic 47, 3) := by decide +kernel
theorem dX5_loadOn_40 : decode cX5_loadOn 40 = .ok (.ifCond .ne 10, 3) := by decide +kernel
theorem dX5_loadOn_43 : decode cX5_loadOn 43 = .ok (.aload_n 0, 1) := by decide +kernel
theorem dX5_loadOn_44 : decode cX5_loadOn 44 = .ok (.iconst 3, 1) := by decide +kernel
theorem dX5_loadOn_45 : decode cX5_loadOn 45 = .ok (.iconst 0, 1) := by decide +kernel
theorem dX5_loadOn_46 : decode cX5_loadOn 46 = .ok (.invokevirtual 77, 3) := by decide +kernel
theorem dX5_loadOn_49 : decode cX5_loadOn 49 = .ok (.ireturn, 1) := by decide +kernel
theorem dX5_loadOn_50 : decode cX5_loadOn 50 = .ok (.aload_n 0, 1) := by decide +kernel
theorem dX5_loadOn_51 : decode cX5_loadOn 51 = .ok (.getfield 31, 3) := by decide +kernel
theorem dX5_loadOn_54 : decode cX5_loadOn 54 = .ok (.bipush 12, 2) := by decide +kernel
theorem dX5_loadOn_56 : decode cX5_loadOn 56 = .ok (.iload_n 1, 1) := by decide +kernel
theorem dX5_loadOn_57 : decode cX5_loadOn 57 = .ok (.imul, 1) := by decide +kernel
theorem dX5_loadOn_58 : decode cX5_loadOn 58 = .ok (.iload_n 2, 1) := by decide +kernel
theorem dX5_loadOn_59 : decode cX5_loadOn 59 = .ok (.iadd, 1) := by decide +kernel
theorem dX5_loadOn_60 : decode cX5_loadOn 60 = .ok (.iaload, 1) := by decide +kernel
theorem dX5_loadOn_61 : decode cX5_loadOn 61 = .ok (.istore_n 3, 1) := by decide +kernel
theorem dX5_loadOn_62 : decode cX5_loadOn 62 = .ok (.iload_n 3, 1) := by decide +kernel
theorem dX5_loadOn_63 : decode cX5_loadOn 63 = .ok (.iconst (-1), 1) := by decide +kernel
theorem dX5_loadOn_64 : decode cX5_loadOn 64 = .ok (.if_icmp .ne 12, 3) := by decide +kernel
theorem dX5_loadOn_67 : decode cX5_loadOn 67 = .ok (.aload_n 0, 1) := by decide +kernel
theorem dX5_loadOn_68 : decode cX5_loadOn 68 = .ok (.iconst 1, 1) := by decide +kernel
theorem dX5_loadOn_69 : decode cX5_loadOn 69 = .ok (.iconst 0, 1) := by decide +kernel
theorem dX5_loadOn_70 : decode cX5_loadOn 70 = .ok (.invokevirtual 77, 3) := by decide +kernel
theorem dX5_loadOn_73 : decode cX5_loadOn 73 = .ok (.goto 14, 3) := by decide +kernel
theorem dX5_loadOn_76 : decode cX5_loadOn 76 = .ok (.aload_n 0, 1) := by decide +kernel
theorem dX5_loadOn_77 : decode cX5_loadOn 77 = .ok (.aload_n 0, 1) := by decide +kernel
theorem dX5_loadOn_78 : decode cX5_loadOn 78 = .ok (.getfield 13, 3) := by decide +kernel
theorem dX5_loadOn_81 : decode cX5_loadOn 81 = .ok (.iload_n 3, 1) := by decide +kernel
theorem dX5_loadOn_82 : decode cX5_loadOn 82 = .ok (.iaload, 1) := by decide +kernel
theorem dX5_loadOn_83 : decode cX5_loadOn 83 = .ok (.iconst 0, 1) := by decide +kernel
theorem dX5_loadOn_84 : decode cX5_loadOn 84 = .ok (.invokevirtual 87, 3) := by decide +kernel
theorem dX5_loadOn_87 : decode cX5_loadOn 87 = .ok (.ireturn, 1) := by decide +kernel
set_option maxRecDepth 20000 in
theorem ggX5_table_X5_in : GoodIn wsX5_table wsX5_in := goodIn_r _ [7] (by decide +kernel) (by decide +kernel)
set_option maxRecDepth 20000 in
theorem gX5_table_X5_in : GoodIn wsX5_table (va_wsS RX5 47 yX5_in wsX5_in) := goodIn_app (goodIn_of _ (by decide +kernel)) ggX5_table_X5_in
set_option maxRecDepth 20000 in
theorem ggX5_table_X5_ends : GoodIn wsX5_table wsX5_ends := goodIn_r _ [11, 12, 13, 14, 19, 20, 21, 22, 23, 24, 25, 26, 27, 28, 29, 30, 31, 32, 33] (by decide +kernel) (by decide +kernel)
set_option maxRecDepth 20000 in
theorem gX5_table_X5_ends : GoodIn wsX5_table (wsV RX5 77 RX5 yX5_ends wsX5_ends) := goodIn_app (goodIn_of _ (by decide +kernel)) ggX5_table_X5_ends
set_option maxRecDepth 20000 in
theorem ggX5_table_X5_well : GoodIn wsX5_table wsX5_well := goodIn_r _ [18, 8, 9, 10, 6, 11, 12, 13, 14, 19, 20, 21, 22, 23, 24, 25, 26, 27, 28, 29, 30, 31, 32, 33] (by decide +kernel) (by decide +kernel)
set_option maxRecDepth 20000 in
theorem gX5_table_X5_well : GoodIn wsX5_table (wsV RX5 87 RX5 yX5_well wsX5_well) := goodIn_app (goodIn_of _ (by decide +kernel)) ggX5_table_X5_well
theorem dX5_table_0 : decode cX5_table 0 = .ok (.iload_n 1, 1) := by decide +kernel
theorem dX5_table_1 : decode cX5_table 1 = .ok (.iconst 0, 1) := by decide +kernel
theorem dX5_table_2 : decode cX5_table 2 = .ok (.iconst 1, 1) := by decide +kernel
theorem dX5_table_3 : decode cX5_table 3 = .ok (.invokestatic 47, 3) := by decide +kernel
theorem dX5_table_6 : decode cX5_table 6 = .ok (.ifCond .ne 6, 3) := by decide +kernel
theorem dX5_table_9 : decode cX5_table 9 = .ok (.bipush (-101), 2) := by decide +kernel
theorem dX5_table_11 : decode cX5_table 11 = .ok (.ireturn, 1) := by decide +kernel
theorem dX5_table_12 : decode cX5_table 12 = .ok (.iload_n 2, 1) := by decide +kernel
theorem dX5_table_13 : decode cX5_table 13 = .ok (.bipush 12, 2) := by decide +kernel
theorem dX5_table_15 : decode cX5_table 15 = .ok (.if_icmp .gt 13, 3) := by decide +kernel
theorem dX5_table_18 : decode cX5_table 18 = .ok (.iload_n 3, 1) := by decide +kernel
theorem dX5_table_19 : decode cX5_table 19 = .ok (.iconst 0, 1) := by decide +kernel
theorem dX5_table_20 : decode cX5_table 20 = .ok (.bipush 6, 2) := by decide +kernel
theorem dX5_table_22 : decode cX5_table 22 = .ok (.invokestatic 47, 3) := by decide +kernel
theorem dX5_table_25 : decode cX5_table 25 = .ok (.ifCond .ne 6, 3) := by decide +kernel
theorem dX5_table_28 : decode cX5_table 28 = .ok (.bipush (-102), 2) := by decide +kernel
theorem dX5_table_30 : decode cX5_table 30 = .ok (.ireturn, 1) := by decide +kernel
theorem dX5_table_31 : decode cX5_table 31 = .ok (.iload_n 2, 1) := by decide +kernel
theorem dX5_table_32 : decode cX5_table 32 = .ok (.ifCond .ge 10, 3) := by decide +kernel
theorem dX5_table_35 : decode cX5_table 35 = .ok (.aload_n 0, 1) := by decide +kernel
theorem dX5_table_36 : decode cX5_table 36 = .ok (.iconst 2, 1) := by decide +kernel
theorem dX5_table_37 : decode cX5_table 37 = .ok (.iconst 0, 1) := by decide +kernel
theorem dX5_table_38 : decode cX5_table 38 = .ok (.invokevirtual 77, 3) := by decide +kernel
theorem dX5_table_41 : decode cX5_table 41 = .ok (.ireturn, 1) := by decide +kernel
theorem dX5_table_42 : decode cX5_table 42 = .ok (.aload_n 0, 1) := by decide +kernel
theorem dX5_table_43 : decode cX5_table 43 = .ok (.getfield 34, 3) := by decide +kernel
theorem dX5_table_46 : decode cX5_table 46 = .ok (.iload_n 1, 1) := by decide +kernel
theorem dX5_table_47 : decode cX5_table 47 = .ok (.iload_n 2, 1) := by decide +kernel
theorem dX5_table_48 : decode cX5_table 48 = .ok (.iastore, 1) := by decide +kernel
theorem dX5_table_49 : decode cX5_table 49 = .ok (.aload_n 0, 1) := by decide +kernel
theorem dX5_table_50 : decode cX5_table 50 = .ok (.getfield 37, 3) := by decide +kernel
theorem dX5_table_53 : decode cX5_table 53 = .ok (.iload_n 1, 1) := by decide +kernel
theorem dX5_table_54 : decode cX5_table 54 = .ok (.iload_n 3, 1) := by decide +kernel
theorem dX5_table_55 : decode cX5_table 55 = .ok (.iastore, 1) := by decide +kernel
theorem dX5_table_56 : decode cX5_table 56 = .ok (.iconst 0, 1) := by decide +kernel
theorem dX5_table_57 : decode cX5_table 57 = .ok (.istore 4, 2) := by decide +kernel
theorem dX5_table_59 : decode cX5_table 59 = .ok (.iload 4, 2) := by decide +kernel
theorem dX5_table_61 : decode cX5_table 61 = .ok (.bipush 72, 2) := by decide +kernel
theorem dX5_table_63 : decode cX5_table 63 = .ok (.if_icmp .ge 22, 3) := by decide +kernel
theorem dX5_table_66 : decode cX5_table 66 = .ok (.aload_n 0, 1) := by decide +kernel
theorem dX5_table_67 : decode cX5_table 67 = .ok (.getfield 40, 3) := by decide +kernel
theorem dX5_table_70 : decode cX5_table 70 = .ok (.bipush 72, 2) := by decide +kernel
theorem dX5_table_72 : decode cX5_table 72 = .ok (.iload_n 1, 1) := by decide +kernel
theorem dX5_table_73 : decode cX5_table 73 = .ok (.imul, 1) := by decide +kernel
theorem dX5_table_74 : decode cX5_table 74 = .ok (.iload 4, 2) := by decide +kernel
theorem dX5_table_76 : decode cX5_table 76 = .ok (.iadd, 1) := by decide +kernel
theorem dX5_table_77 : decode cX5_table 77 = .ok (.iconst 0, 1) := by decide +kernel
theorem dX5_table_78 : decode cX5_table 78 = .ok (.iastore, 1) := by decide +kernel
theorem dX5_table_79 : decode cX5_table 79 = .ok (.iinc 4 1, 3) := by decide +kernel
theorem dX5_table_82 : decode cX5_table 82 = .ok (.goto (-23), 3) := by decide +kernel
theorem dX5_table_85 : decode cX5_table 85 = .ok (.aload_n 0, 1) := by decide +kernel
theorem dX5_table_86 : decode cX5_table 86 = .ok (.iconst 1, 1) := by decide +kernel
theorem dX5_table_87 : decode cX5_table 87 = .ok (.iconst 0, 1) := by decide +kernel
theorem dX5_table_88 : decode cX5_table 88 = .ok (.invokevirtual 87, 3) := by decide +kernel
theorem dX5_table_91 : decode cX5_table 91 = .ok (.ireturn, 1) := by decide +kernel
set_option maxRecDepth 20000 in
theorem ggX5_add_X5_in : GoodIn wsX5_add wsX5_in := goodIn_r _ [7] (by decide +kernel) (by decide +kernel)
set_option maxRecDepth 20000 in
theorem gX5_add_X5_in : GoodIn wsX5_add (va_wsS RX5 47 yX5_in wsX5_in) := goodIn_app (goodIn_of _ (by decide +kernel)) ggX5_add_X5_in
set_option maxRecDepth 20000 in
theorem ggX5_add_X5_ends : GoodIn wsX5_add wsX5_ends := goodIn_r _ [11, 12, 13, 14, 19, 20, 21, 22, 23, 24, 25, 26, 27, 28, 29, 30, 31, 32, 33] (by decide +kernel) (by decide +kernel)
set_option maxRecDepth 20000 in
theorem gX5_add_X5_ends : GoodIn wsX5_add (wsV RX5 77 RX5 yX5_ends wsX5_ends) := goodIn_app (goodIn_of _ (by decide +kernel)) ggX5_add_X5_ends
set_option maxRecDepth 20000 in
theorem ggX5_add_X5_well : GoodIn wsX5_add wsX5_well := goodIn_r _ [18, 8, 9, 10, 6, 11, 12, 13, 14, 19, 20, 21, 22, 23, 24, 25, 26, 27, 28, 29, 30, 31, 32, 33] (by decide +kernel) (by decide +kernel)
set_option maxRecDepth 20000 in
theorem gX5_add_X5_well : GoodIn wsX5_add (wsV RX5 87 RX5 yX5_well wsX5_well) := goodIn_app (goodIn_of _ (by decide +kernel)) ggX5_add_X5_well
theorem dX5_add_0 : decode cX5_add 0 = .ok (.iload_n 1, 1) := by decide +kernel
theorem dX5_add_1 : decode cX5_add 1 = .ok (.iconst 0, 1) := by decide +kernel
theorem dX5_add_2 : decode cX5_add 2 = .ok (.iconst 1, 1) := by decide +kernel
theorem dX5_add_3 : decode cX5_add 3 = .ok (.invokestatic 47, 3) := by decide +kernel
theorem dX5_add_6 : decode cX5_add 6 = .ok (.ifCond .ne 6, 3) := by decide +kernel
theorem dX5_add_9 : decode cX5_add 9 = .ok (.bipush (-101), 2) := by decide +kernel
theorem dX5_add_11 : decode cX5_add 11 = .ok (.ireturn, 1) := by decide +kernel
theorem dX5_add_12 : decode cX5_add 12 = .ok (.aload_n 0, 1) := by decide +kernel
theorem dX5_add_13 : decode cX5_add 13 = .ok (.getfield 34, 3) := by decide +kernel
theorem dX5_add_16 : decode cX5_add 16 = .ok (.iload_n 1, 1) := by decide +kernel
theorem dX5_add_17 : decode cX5_add 17 = .ok (.iaload, 1) := by decide +kernel
theorem dX5_add_18 : decode cX5_add 18 = .ok (.iconst (-1), 1) := by decide +kernel
theorem dX5_add_19 : decode cX5_add 19 = .ok (.if_icmp .ne 10, 3) := by decide +kernel
theorem dX5_add_22 : decode cX5_add 22 = .ok (.aload_n 0, 1) := by decide +kernel
theorem dX5_add_23 : decode cX5_add 23 = .ok (.iconst 1, 1) := by decide +kernel
theorem dX5_add_24 : decode cX5_add 24 = .ok (.iconst 0, 1) := by decide +kernel
theorem dX5_add_25 : decode cX5_add 25 = .ok (.invokevirtual 77, 3) := by decide +kernel
theorem dX5_add_28 : decode cX5_add 28 = .ok (.ireturn, 1) := by decide +kernel
theorem dX5_add_29 : decode cX5_add 29 = .ok (.iload_n 2, 1) := by decide +kernel
theorem dX5_add_30 : decode cX5_add 30 = .ok (.iconst 0, 1) := by decide +kernel
theorem dX5_add_31 : decode cX5_add 31 = .ok (.aload_n 0, 1) := by decide +kernel
theorem dX5_add_32 : decode cX5_add 32 = .ok (.getfield 34, 3) := by decide +kernel
theorem dX5_add_35 : decode cX5_add 35 = .ok (.iload_n 1, 1) := by decide +kernel
theorem dX5_add_36 : decode cX5_add 36 = .ok (.iaload, 1) := by decide +kernel
theorem dX5_add_37 : decode cX5_add 37 = .ok (.iconst 1, 1) := by decide +kernel
theorem dX5_add_38 : decode cX5_add 38 = .ok (.isub, 1) := by decide +kernel
theorem dX5_add_39 : decode cX5_add 39 = .ok (.invokestatic 47, 3) := by decide +kernel
theorem dX5_add_42 : decode cX5_add 42 = .ok (.ifCond .eq 19, 3) := by decide +kernel
theorem dX5_add_45 : decode cX5_add 45 = .ok (.iload_n 3, 1) := by decide +kernel
theorem dX5_add_46 : decode cX5_add 46 = .ok (.iconst 0, 1) := by decide +kernel
theorem dX5_add_47 : decode cX5_add 47 = .ok (.aload_n 0, 1) := by decide +kernel
theorem dX5_add_48 : decode cX5_add 48 = .ok (.getfield 37, 3) := by decide +kernel
theorem dX5_add_51 : decode cX5_add 51 = .ok (.iload_n 1, 1) := by decide +kernel
theorem dX5_add_52 : decode cX5_add 52 = .ok (.iaload, 1) := by decide +kernel
theorem dX5_add_53 : decode cX5_add 53 = .ok (.iconst 1, 1) := by decide +kernel
theorem dX5_add_54 : decode cX5_add 54 = .ok (.isub, 1) := by decide +kernel
theorem dX5_add_55 : decode cX5_add 55 = .ok (.invokestatic 47, 3) := by decide +kernel
theorem dX5_add_58 : decode cX5_add 58 = .ok (.ifCond .ne 10, 3) := by decide +kernel
theorem dX5_add_61 : decode cX5_add 61 = .ok (.aload_n 0, 1) := by decide +kernel
theorem dX5_add_62 : decode cX5_add 62 = .ok (.iconst 3, 1) := by decide +kernel
theorem dX5_add_63 : decode cX5_add 63 = .ok (.iconst 0, 1) := by decide +kernel
theorem dX5_add_64 : decode cX5_add 64 = .ok (.invokevirtual 77, 3) := by decide +kernel
theorem dX5_add_67 : decode cX5_add 67 = .ok (.ireturn, 1) := by decide +kernel
theorem dX5_add_68 : decode cX5_add 68 = .ok (.bipush 72, 2) := by decide +kernel
theorem dX5_add_70 : decode cX5_add 70 = .ok (.iload_n 1, 1) := by decide +kernel
theorem dX5_add_71 : decode cX5_add 71 = .ok (.imul, 1) := by decide +kernel
theorem dX5_add_72 : decode cX5_add 72 = .ok (.bipush 6, 2) := by decide +kernel
theorem dX5_add_74 : decode cX5_add 74 = .ok (.iload_n 2, 1) := by decide +kernel
theorem dX5_add_75 : decode cX5_add 75 = .ok (.imul, 1) := by decide +kernel
theorem dX5_add_76 : decode cX5_add 76 = .ok (.iadd, 1) := by decide +kernel
theorem dX5_add_77 : decode cX5_add 77 = .ok (.iload_n 3, 1) := by decide +kernel
theorem dX5_add_78 : decode cX5_add 78 = .ok (.iadd, 1) := by decide +kernel
theorem dX5_add_79 : decode cX5_add 79 = .ok (.istore 5, 2) := by decide +kernel
theorem dX5_add_81 : decode cX5_add 81 = .ok (.aload_n 0, 1) := by decide +kernel
theorem dX5_add_82 : decode cX5_add 82 = .ok (.getfield 40, 3) := by decide +kernel
theorem dX5_add_85 : decode cX5_add 85 = .ok (.iload 5, 2) := by decide +kernel
theorem dX5_add_87 : decode cX5_add 87 = .ok (.dup2, 1) := by decide +kernel
theorem dX5_add_88 : decode cX5_add 88 = .ok (.iaload, 1) := by decide +kernel
theorem dX5_add_89 : decode cX5_add 89 = .ok (.iload 4, 2) := by decide +kernel
theorem dX5_add_91 : decode cX5_add 91 = .ok (.iadd, 1) := by decide +kernel
theorem dX5_add_92 : decode cX5_add 92 = .ok (.iastore, 1) := by decide +kernel
theorem dX5_add_93 : decode cX5_add 93 = .ok (.aload_n 0, 1) := by decide +kernel
theorem dX5_add_94 : decode cX5_add 94 = .ok (.aload_n 0, 1) := by decide +kernel
theorem dX5_add_95 : decode cX5_add 95 = .ok (.getfield 40, 3) := by decide +kernel
theorem dX5_add_98 : decode cX5_add 98 = .ok (.iload 5, 2) := by decide +kernel
theorem dX5_add_100 : decode cX5_add 100 = .ok (.iaload, 1) := by decide +kernel
theorem dX5_add_101 : decode cX5_add 101 = .ok (.iconst 0, 1) := by decide +kernel
theorem dX5_add_102 : decode cX5_add 102 = .ok (.invokevirtual 87, 3) := by decide +kernel
theorem dX5_add_105 : decode cX5_add 105 = .ok (.ireturn, 1) := by decide +kernel
set_option maxRecDepth 20000 in
theorem ggX5_raise_X5_isTrack : GoodIn wsX5_raise wsX5_isTrack := goodIn_r _ [6, 7, 8, 5, 9] (by decide +kernel) (by decide +kernel)
set_option maxRecDepth 20000 in
theorem gX5_raise_X5_isTrack : GoodIn wsX5_raise (va_wsS RX5 65 yX5_isTrack wsX5_isTrack) := goodIn_app (goodIn_of _ (by decide +kernel)) ggX5_raise_X5_isTrack
set_option maxRecDepth 20000 in
theorem ggX5_raise_X5_ends : GoodIn wsX5_raise wsX5_ends := goodIn_r _ [13, 14, 15, 2, 16, 17, 18, 19, 20, 21, 22, 23, 24, 25, 26, 27, 28, 29, 30] (by decide +kernel) (by decide +kernel)
set_option maxRecDepth 20000 in
theorem gX5_raise_X5_ends : GoodIn wsX5_raise (wsV RX5 77 RX5 yX5_ends wsX5_ends) := goodIn_app (goodIn_of _ (by decide +kernel)) ggX5_raise_X5_ends
theorem dX5_raise_0 : decode cX5_raise 0 = .ok (.iload_n 1, 1) := by decide +kernel
theorem dX5_raise_1 : decode cX5_raise 1 = .ok (.invokestatic 65, 3) := by decide +kernel
theorem dX5_raise_4 : decode cX5_raise 4 = .ok (.ifCond .ne 6, 3) := by decide +kernel
theorem dX5_raise_7 : decode cX5_raise 7 = .ok (.bipush (-101), 2) := by decide +kernel
theorem dX5_raise_9 : decode cX5_raise 9 = .ok (.ireturn, 1) := by decide +kernel
theorem dX5_raise_10 : decode cX5_raise 10 = .ok (.aload_n 0, 1) := by decide +kernel
theorem dX5_raise_11 : decode cX5_raise 11 = .ok (.getfield 22, 3) := by decide +kernel
theorem dX5_raise_14 : decode cX5_raise 14 = .ok (.iload_n 1, 1) := by decide +kernel
theorem dX5_raise_15 : decode cX5_raise 15 = .ok (.iaload, 1) := by decide +kernel
theorem dX5_raise_16 : decode cX5_raise 16 = .ok (.iconst (-1), 1) := by decide +kernel
theorem dX5_raise_17 : decode cX5_raise 17 = .ok (.if_icmp .ne 10, 3) := by decide +kernel
theorem dX5_raise_20 : decode cX5_raise 20 = .ok (.aload_n 0, 1) := by decide +kernel
theorem dX5_raise_21 : decode cX5_raise 21 = .ok (.iconst 1, 1) := by decide +kernel
theorem dX5_raise_22 : decode cX5_raise 22 = .ok (.iconst 0, 1) := by decide +kernel
theorem dX5_raise_23 : decode cX5_raise 23 = .ok (.invokevirtual 77, 3) := by decide +kernel
theorem dX5_raise_26 : decode cX5_raise 26 = .ok (.ireturn, 1) := by decide +kernel
theorem dX5_raise_27 : decode cX5_raise 27 = .ok (.aload_n 0, 1) := by decide +kernel
theorem dX5_raise_28 : decode cX5_raise 28 = .ok (.bipush 6, 2) := by decide +kernel
theorem dX5_raise_30 : decode cX5_raise 30 = .ok (.iconst 0, 1) := by decide +kernel
theorem dX5_raise_31 : decode cX5_raise 31 = .ok (.invokevirtual 77, 3) := by decide +kernel
theorem dX5_raise_34 : decode cX5_raise 34 = .ok (.istore_n 2, 1) := by decide +kernel
theorem dX5_raise_35 : decode cX5_raise 35 = .ok (.aload_n 0, 1) := by decide +kernel
theorem dX5_raise_36 : decode cX5_raise 36 = .ok (.aload_n 0, 1) := by decide +kernel
theorem dX5_raise_37 : decode cX5_raise 37 = .ok (.getfield 22, 3) := by decide +kernel
theorem dX5_raise_40 : decode cX5_raise 40 = .ok (.iload_n 1, 1) := by decide +kernel
theorem dX5_raise_41 : decode cX5_raise 41 = .ok (.iaload, 1) := by decide +kernel
theorem dX5_raise_42 : decode cX5_raise 42 = .ok (.putfield 74, 3) := by decide +kernel
theorem dX5_raise_45 : decode cX5_raise 45 = .ok (.iload_n 2, 1) := by decide +kernel
theorem dX5_raise_46 : decode cX5_raise 46 = .ok (.ireturn, 1) := by decide +kernel
theorem dX5_told_0 : decode cX5_told 0 = .ok (.iload_n 1, 1) := by decide +kernel
theorem dX5_told_1 : decode cX5_told 1 = .ok (.ifCond .ne 10, 3) := by decide +kernel
theorem dX5_told_4 : decode cX5_told 4 = .ok (.aload_n 0, 1) := by decide +kernel
theorem dX5_told_5 : decode cX5_told 5 = .ok (.getfield 68, 3) := by decide +kernel
theorem dX5_told_8 : decode cX5_told 8 = .ok (.goto 29, 3) := by decide +kernel
theorem dX5_told_11 : decode cX5_told 11 = .ok (.iload_n 1, 1) := by decide +kernel
theorem dX5_told_12 : decode cX5_told 12 = .ok (.iconst 1, 1) := by decide +kernel
theorem dX5_told_13 : decode cX5_told 13 = .ok (.if_icmp .ne 10, 3) := by decide +kernel
theorem dX5_told_16 : decode cX5_told 16 = .ok (.aload_n 0, 1) := by decide +kernel
theorem dX5_told_17 : decode cX5_told 17 = .ok (.getfield 71, 3) := by decide +kernel
theorem dX5_told_20 : decode cX5_told 20 = .ok (.goto 17, 3) := by decide +kernel
theorem dX5_told_23 : decode cX5_told 23 = .ok (.iload_n 1, 1) := by decide +kernel
theorem dX5_told_24 : decode cX5_told 24 = .ok (.iconst 2, 1) := by decide +kernel
theorem dX5_told_25 : decode cX5_told 25 = .ok (.if_icmp .ne 10, 3) := by decide +kernel
theorem dX5_told_28 : decode cX5_told 28 = .ok (.aload_n 0, 1) := by decide +kernel
theorem dX5_told_29 : decode cX5_told 29 = .ok (.getfield 74, 3) := by decide +kernel
theorem dX5_told_32 : decode cX5_told 32 = .ok (.goto 5, 3) := by decide +kernel
theorem dX5_told_35 : decode cX5_told 35 = .ok (.bipush (-101), 2) := by decide +kernel
theorem dX5_told_37 : decode cX5_told 37 = .ok (.ireturn, 1) := by decide +kernel
set_option maxRecDepth 20000 in
theorem ggX5_about_X5_isWagon : GoodIn wsX5_about wsX5_isWagon := goodIn_r _ [8, 9, 10, 11, 7, 12, 18, 19, 20, 21, 22, 23, 24, 25, 26, 27, 28, 29, 30, 31, 32] (by decide +kernel) (by decide +kernel)
set_option maxRecDepth 20000 in
theorem gX5_about_X5_isWagon : GoodIn wsX5_about (wsV RX5 55 RX5 yX5_isWagon wsX5_isWagon) := goodIn_app (goodIn_of _ (by decide +kernel)) ggX5_about_X5_isWagon
set_option maxRecDepth 20000 in
theorem ggX5_about_X5_in : GoodIn wsX5_about wsX5_in := goodIn_r _ [12] (by decide +kernel) (by decide +kernel)
set_option maxRecDepth 20000 in
theorem gX5_about_X5_in : GoodIn wsX5_about (va_wsS RX5 47 yX5_in wsX5_in) := goodIn_app (goodIn_of _ (by decide +kernel)) ggX5_about_X5_in
set_option maxRecDepth 20000 in
theorem ggX5_about_X5_trackOf : GoodIn wsX5_about wsX5_trackOf := goodIn_r _ [16, 17, 18, 19, 20, 21, 22, 23, 24, 25, 26, 27, 28, 29, 30, 31, 32] (by decide +kernel) (by decide +kernel)
set_option maxRecDepth 20000 in
theorem gX5_about_X5_trackOf : GoodIn wsX5_about (wsV RX5 61 RX5 yX5_trackOf wsX5_trackOf) := goodIn_app (goodIn_of _ (by decide +kernel)) ggX5_about_X5_trackOf
theorem dX5_about_0 : decode cX5_about 0 = .ok (.aload_n 0, 1) := by decide +kernel
theorem dX5_about_1 : decode cX5_about 1 = .ok (.iload_n 1, 1) := by decide +kernel
theorem dX5_about_2 : decode cX5_about 2 = .ok (.invokevirtual 55, 3) := by decide +kernel
theorem dX5_about_5 : decode cX5_about 5 = .ok (.ifCond .eq 12, 3) := by decide +kernel
theorem dX5_about_8 : decode cX5_about 8 = .ok (.iload_n 2, 1) := by decide +kernel
theorem dX5_about_9 : decode cX5_about 9 = .ok (.iconst 0, 1) := by decide +kernel
theorem dX5_about_10 : decode cX5_about 10 = .ok (.iconst 3, 1) := by decide +kernel
theorem dX5_about_11 : decode cX5_about 11 = .ok (.invokestatic 47, 3) := by decide +kernel
theorem dX5_about_14 : decode cX5_about 14 = .ok (.ifCond .ne 6, 3) := by decide +kernel
theorem dX5_about_17 : decode cX5_about 17 = .ok (.bipush (-101), 2) := by decide +kernel
theorem dX5_about_19 : decode cX5_about 19 = .ok (.ireturn, 1) := by decide +kernel
theorem dX5_about_20 : decode cX5_about 20 = .ok (.iload_n 2, 1) := by decide +kernel
theorem dX5_about_21 : decode cX5_about 21 = .ok (.ifCond .ne 12, 3) := by decide +kernel
theorem dX5_about_24 : decode cX5_about 24 = .ok (.aload_n 0, 1) := by decide +kernel
theorem dX5_about_25 : decode cX5_about 25 = .ok (.getfield 7, 3) := by decide +kernel
theorem dX5_about_28 : decode cX5_about 28 = .ok (.iload_n 1, 1) := by decide +kernel
theorem dX5_about_29 : decode cX5_about 29 = .ok (.iaload, 1) := by decide +kernel
theorem dX5_about_30 : decode cX5_about 30 = .ok (.goto 36, 3) := by decide +kernel
theorem dX5_about_33 : decode cX5_about 33 = .ok (.iload_n 2, 1) := by decide +kernel
theorem dX5_about_34 : decode cX5_about 34 = .ok (.iconst 1, 1) := by decide +kernel
theorem dX5_about_35 : decode cX5_about 35 = .ok (.if_icmp .ne 12, 3) := by decide +kernel
theorem dX5_about_38 : decode cX5_about 38 = .ok (.aload_n 0, 1) := by decide +kernel
theorem dX5_about_39 : decode cX5_about 39 = .ok (.getfield 13, 3) := by decide +kernel
theorem dX5_about_42 : decode cX5_about 42 = .ok (.iload_n 1, 1) := by decide +kernel
theorem dX5_about_43 : decode cX5_about 43 = .ok (.iaload, 1) := by decide +kernel
theorem dX5_about_44 : decode cX5_about 44 = .ok (.goto 22, 3) := by decide +kernel
theorem dX5_about_47 : decode cX5_about 47 = .ok (.iload_n 2, 1) := by decide +kernel
theorem dX5_about_48 : decode cX5_about 48 = .ok (.iconst 2, 1) := by decide +kernel
theorem dX5_about_49 : decode cX5_about 49 = .ok (.if_icmp .ne 12, 3) := by decide +kernel
theorem dX5_about_52 : decode cX5_about 52 = .ok (.aload_n 0, 1) := by decide +kernel
theorem dX5_about_53 : decode cX5_about 53 = .ok (.getfield 16, 3) := by decide +kernel
theorem dX5_about_56 : decode cX5_about 56 = .ok (.iload_n 1, 1) := by decide +kernel
theorem dX5_about_57 : decode cX5_about 57 = .ok (.iaload, 1) := by decide +kernel
theorem dX5_about_58 : decode cX5_about 58 = .ok (.goto 8, 3) := by decide +kernel
theorem dX5_about_61 : decode cX5_about 61 = .ok (.aload_n 0, 1) := by decide +kernel
theorem dX5_about_62 : decode cX5_about 62 = .ok (.iload_n 1, 1) := by decide +kernel
theorem dX5_about_63 : decode cX5_about 63 = .ok (.invokevirtual 61, 3) := by decide +kernel
theorem dX5_about_66 : decode cX5_about 66 = .ok (.ireturn, 1) := by decide +kernel
set_option maxRecDepth 20000 in
theorem ggX5_onRake_X5_isRake : GoodIn wsX5_onRake wsX5_isRake := goodIn_r _ [6, 7, 8, 5, 9] (by decide +kernel) (by decide +kernel)
set_option maxRecDepth 20000 in
theorem gX5_onRake_X5_isRake : GoodIn wsX5_onRake (va_wsS RX5 94 yX5_isRake wsX5_isRake) := goodIn_app (goodIn_of _ (by decide +kernel)) ggX5_onRake_X5_isRake
set_option maxRecDepth 20000 in
theorem ggX5_onRake_X5_in : GoodIn wsX5_onRake wsX5_in := goodIn_r _ [9] (by decide +kernel) (by decide +kernel)
set_option maxRecDepth 20000 in
theorem gX5_onRake_X5_in : GoodIn wsX5_onRake (va_wsS RX5 47 yX5_in wsX5_in) := goodIn_app (goodIn_of _ (by decide +kernel)) ggX5_onRake_X5_in
theorem dX5_onRake_0 : decode cX5_onRake 0 = .ok (.iload_n 1, 1) := by decide +kernel
theorem dX5_onRake_1 : decode cX5_onRake 1 = .ok (.invokestatic 94, 3) := by decide +kernel
theorem dX5_onRake_4 : decode cX5_onRake 4 = .ok (.ifCond .ne 6, 3) := by decide +kernel
theorem dX5_onRake_7 : decode cX5_onRake 7 = .ok (.bipush (-101), 2) := by decide +kernel
theorem dX5_onRake_9 : decode cX5_onRake 9 = .ok (.ireturn, 1) := by decide +kernel
theorem dX5_onRake_10 : decode cX5_onRake 10 = .ok (.iload_n 2, 1) := by decide +kernel
theorem dX5_onRake_11 : decode cX5_onRake 11 = .ok (.iconst 0, 1) := by decide +kernel
theorem dX5_onRake_12 : decode cX5_onRake 12 = .ok (.aload_n 0, 1) := by decide +kernel
theorem dX5_onRake_13 : decode cX5_onRake 13 = .ok (.getfield 25, 3) := by decide +kernel
theorem dX5_onRake_16 : decode cX5_onRake 16 = .ok (.iload_n 1, 1) := by decide +kernel
theorem dX5_onRake_17 : decode cX5_onRake 17 = .ok (.iaload, 1) := by decide +kernel
theorem dX5_onRake_18 : decode cX5_onRake 18 = .ok (.iconst 1, 1) := by decide +kernel
theorem dX5_onRake_19 : decode cX5_onRake 19 = .ok (.isub, 1) := by decide +kernel
theorem dX5_onRake_20 : decode cX5_onRake 20 = .ok (.invokestatic 47, 3) := by decide +kernel
theorem dX5_onRake_23 : decode cX5_onRake 23 = .ok (.ifCond .eq 17, 3) := by decide +kernel
theorem dX5_onRake_26 : decode cX5_onRake 26 = .ok (.aload_n 0, 1) := by decide +kernel
theorem dX5_onRake_27 : decode cX5_onRake 27 = .ok (.getfield 31, 3) := by decide +kernel
theorem dX5_onRake_30 : decode cX5_onRake 30 = .ok (.bipush 12, 2) := by decide +kernel
theorem dX5_onRake_32 : decode cX5_onRake 32 = .ok (.iload_n 1, 1) := by decide +kernel
theorem dX5_onRake_33 : decode cX5_onRake 33 = .ok (.imul, 1) := by decide +kernel
theorem dX5_onRake_34 : decode cX5_onRake 34 = .ok (.iload_n 2, 1) := by decide +kernel
theorem dX5_onRake_35 : decode cX5_onRake 35 = .ok (.iadd, 1) := by decide +kernel
theorem dX5_onRake_36 : decode cX5_onRake 36 = .ok (.iaload, 1) := by decide +kernel
theorem dX5_onRake_37 : decode cX5_onRake 37 = .ok (.goto 4, 3) := by decide +kernel
theorem dX5_onRake_40 : decode cX5_onRake 40 = .ok (.iconst (-1), 1) := by decide +kernel
theorem dX5_onRake_41 : decode cX5_onRake 41 = .ok (.ireturn, 1) := by decide +kernel
set_option maxRecDepth 20000 in
theorem ggL_law_X4_init : GoodIn wsL_law wsX4_init := goodIn_r _ [8, 9, 10, 11, 12, 13, 14, 15, 16, 17, 18, 19, 20, 21, 22, 23, 24, 25, 26, 27, 28, 29, 30, 31, 32, 33, 34, 35, 36, 37, 38, 39, 386, 387, 388, 389, 390, 391, 392, 393, 409, 410, 411, 412, 413, 414, 415, 416, 417, 418] (by decide +kernel) (by decide +kernel)
set_option maxRecDepth 20000 in
theorem gL_law_X4_init : GoodIn wsL_law (wsX4_init) := ggL_law_X4_init
set_option maxRecDepth 20000 in
theorem ggL_law_X5_init : GoodIn wsL_law wsX5_init := goodIn_r _ [42, 43, 10, 11, 38, 44, 45, 46, 47, 48, 49, 50, 51, 52, 53, 54, 394, 395, 396, 397, 398, 399, 400, 401, 402, 403, 404, 405, 406, 407, 408] (by decide +kernel) (by decide +kernel)
set_option maxRecDepth 20000 in
theorem gL_law_X5_init : GoodIn wsL_law (wsX5_init) := ggL_law_X5_init
set_option maxRecDepth 20000 in
theorem ggL_law_X4_wagon : GoodIn wsL_law wsX4_wagon := goodIn_r _ [58, 59, 13, 12, 60, 61, 62, 63, 2, 64, 65, 66, 67, 68, 10, 11, 69, 70, 71, 72, 386, 387, 388, 389, 390, 391, 392, 393, 419, 420, 421, 422, 423, 424] (by decide +kernel) (by decide +kernel)
set_option maxRecDepth 20000 in
theorem gL_law_X4_wagon : GoodIn wsL_law (wsV RL 13 RX4 yX4_wagon wsX4_wagon) := goodIn_app (goodIn_of _ (by decide +kernel)) ggL_law_X4_wagon
set_option maxRecDepth 20000 in
theorem ggL_law_X5_wagon : GoodIn wsL_law wsX5_wagon := goodIn_r _ [76, 77, 44, 45, 46, 78, 79, 5, 80, 81, 82, 83, 394, 395, 396, 397, 398, 399, 400, 401, 402, 403, 404, 405, 406, 407, 408] (by decide +kernel) (by decide +kernel)
set_option maxRecDepth 20000 in
theorem gL_law_X5_wagon : GoodIn wsL_law (wsV RL 17 RX5 yX5_wagon wsX5_wagon) := goodIn_app (goodIn_of _ (by decide +kernel)) ggL_law_X5_wagon
set_option maxRecDepth 20000 in
theorem ggL_law_X4_couple : GoodIn wsL_law wsX4_couple := goodIn_r _ [87, 88, 89, 90, 91, 92, 93, 2, 94, 13, 95, 96, 97, 419, 420, 421, 422, 423, 424, 386, 387, 388, 389, 390, 391, 392, 393] (by decide +kernel) (by decide +kernel)
set_option maxRecDepth 20000 in
theorem gL_law_X4_couple : GoodIn wsL_law (wsV RL 18 RX4 yX4_couple wsX4_couple) := goodIn_app (goodIn_of _ (by decide +kernel)) ggL_law_X4_couple
set_option maxRecDepth 20000 in
theorem ggL_law_X5_couple : GoodIn wsL_law wsX5_couple := goodIn_r _ [101, 46, 102, 103, 104, 5, 105, 77, 81, 82, 83, 106, 107, 108, 109, 110, 111, 112, 113, 47, 394, 395, 396, 397, 398, 399, 400, 401, 402, 403, 404, 405, 406, 407, 408] (by decide +kernel) (by decide +kernel)
set_option maxRecDepth 20000 in
theorem gL_law_X5_couple : GoodIn wsL_law (wsV RL 21 RX5 yX5_couple wsX5_couple) := goodIn_app (goodIn_of _ (by decide +kernel)) ggL_law_X5_couple
set_option maxRecDepth 20000 in
theorem ggL_law_X4_stand : GoodIn wsL_law wsX4_stand := goodIn_r _ [117, 89, 90, 118, 119, 120, 121, 2, 122, 15, 91, 92, 93, 94, 13, 123, 124, 125, 126, 419, 420, 421, 422, 423, 424, 409, 410, 386, 387, 388, 389, 390, 391, 392, 393] (by decide +kernel) (by decide +kernel)
set_option maxRecDepth 20000 in
theorem gL_law_X4_stand : GoodIn wsL_law (wsV RL 22 RX4 yX4_stand wsX4_stand) := goodIn_app (goodIn_of _ (by decide +kernel)) ggL_law_X4_stand
set_option maxRecDepth 20000 in
theorem ggL_law_X5_stand : GoodIn wsL_law wsX5_stand := goodIn_r _ [130, 47, 131, 132, 5, 133, 81, 82, 83, 102, 103, 104, 105, 77, 106, 107, 108, 109, 46, 110, 111, 112, 113, 394, 395, 396, 397, 398, 399, 400, 401, 402, 403, 404, 405, 406, 407, 408] (by decide +kernel) (by decide +kernel)
set_option maxRecDepth 20000 in
theorem gL_law_X5_stand : GoodIn wsL_law (wsV RL 25 RX5 yX5_stand wsX5_stand) := goodIn_app (goodIn_of _ (by decide +kernel)) ggL_law_X5_stand
set_option maxRecDepth 20000 in
theorem ggL_law_X4_signal : GoodIn wsL_law wsX4_signal := goodIn_r _ [137, 138, 119, 120, 121, 2, 122, 15, 409, 410, 386, 387, 388, 389, 390, 391, 392, 393] (by decide +kernel) (by decide +kernel)
set_option maxRecDepth 20000 in
theorem gL_law_X4_signal : GoodIn wsL_law (wsV RL 26 RX4 yX4_signal wsX4_signal) := goodIn_app (goodIn_of _ (by decide +kernel)) ggL_law_X4_signal
set_option maxRecDepth 20000 in
theorem ggL_law_X5_signal : GoodIn wsL_law wsX5_signal := goodIn_r _ [142, 48, 131, 132, 5, 133, 81, 82, 83, 394, 395, 396, 397, 398, 399, 400, 401, 402, 403, 404, 405, 406, 407, 408] (by decide +kernel) (by decide +kernel)
set_option maxRecDepth 20000 in
theorem gL_law_X5_signal : GoodIn wsL_law (wsV RL 29 RX5 yX5_signal wsX5_signal) := goodIn_app (goodIn_of _ (by decide +kernel)) ggL_law_X5_signal
set_option maxRecDepth 20000 in
theorem ggL_law_X4_wagonAt : GoodIn wsL_law wsX4_wagonAt := goodIn_r _ [146, 126, 147, 148, 149, 2, 150, 119, 120, 121, 122, 15, 151, 152, 153, 154, 155, 156, 21, 157, 158, 159, 160, 161, 162, 163, 164, 165, 166, 167, 168, 169, 170, 171, 172, 173, 174, 175, 176, 177, 178, 419, 420, 421, 422, 423, 424, 386, 387, 388, 389, 390, 391, 392, 393, 409, 410] (by decide +kernel) (by decide +kernel)
set_option maxRecDepth 20000 in
theorem gL_law_X4_wagonAt : GoodIn wsL_law (wsV RL 30 RX4 yX4_wagonAt wsX4_wagonAt) := goodIn_app (goodIn_of _ (by decide +kernel)) ggL_law_X4_wagonAt
set_option maxRecDepth 20000 in
theorem ggL_law_X5_wagonAt : GoodIn wsL_law wsX5_wagonAt := goodIn_r _ [182, 183, 184, 5, 185, 131, 132, 133, 81, 82, 83, 186, 187, 188, 189, 47, 46, 190, 191, 192, 193, 194, 195, 196, 197, 198, 199, 200, 394, 395, 396, 397, 398, 399, 400, 401, 402, 403, 404, 405, 406, 407, 408] (by decide +kernel) (by decide +kernel)
set_option maxRecDepth 20000 in
theorem gL_law_X5_wagonAt : GoodIn wsL_law (wsV RL 33 RX5 yX5_wagonAt wsX5_wagonAt) := goodIn_app (goodIn_of _ (by decide +kernel)) ggL_law_X5_wagonAt
set_option maxRecDepth 20000 in
theorem ggL_law_X4_load : GoodIn wsL_law wsX4_load := goodIn_r _ [204, 205, 147, 148, 149, 2, 150, 119, 120, 121, 122, 15, 151, 152, 153, 154, 155, 156, 21, 157, 158, 159, 160, 161, 162, 163, 164, 165, 166, 167, 168, 169, 170, 171, 172, 173, 174, 175, 176, 177, 178, 419, 420, 421, 422, 423, 424, 386, 387, 388, 389, 390, 391, 392, 393, 409, 410] (by decide +kernel) (by decide +kernel)
set_option maxRecDepth 20000 in
theorem gL_law_X4_load : GoodIn wsL_law (wsV RL 34 RX4 yX4_load wsX4_load) := goodIn_app (goodIn_of _ (by decide +kernel)) ggL_law_X4_load
set_option maxRecDepth 20000 in
theorem ggL_law_X5_load : GoodIn wsL_law wsX5_load := goodIn_r _ [209, 45, 183, 184, 5, 185, 131, 132, 133, 81, 82, 83, 186, 187, 188, 189, 47, 46, 190, 191, 192, 193, 194, 195, 196, 197, 198, 199, 200, 394, 395, 396, 397, 398, 399, 400, 401, 402, 403, 404, 405, 406, 407, 408] (by decide +kernel) (by decide +kernel)
set_option maxRecDepth 20000 in
theorem gL_law_X5_load : GoodIn wsL_law (wsV RL 38 RX5 yX5_load wsX5_load) := goodIn_app (goodIn_of _ (by decide +kernel)) ggL_law_X5_load
set_option maxRecDepth 20000 in
theorem ggL_law_X4_cut : GoodIn wsL_law wsX4_cut := goodIn_r _ [213, 88, 89, 147, 148, 149, 2, 150, 119, 120, 121, 122, 15, 151, 152, 153, 154, 155, 156, 21, 157, 158, 159, 160, 161, 162, 163, 164, 165, 166, 167, 168, 169, 170, 171, 172, 173, 174, 175, 176, 177, 178, 419, 420, 421, 422, 423, 424, 386, 387, 388, 389, 390, 391, 392, 393, 409, 410] (by decide +kernel) (by decide +kernel)
set_option maxRecDepth 20000 in
theorem gL_law_X4_cut : GoodIn wsL_law (wsV RL 39 RX4 yX4_cut wsX4_cut) := goodIn_app (goodIn_of _ (by decide +kernel)) ggL_law_X4_cut
set_option maxRecDepth 20000 in
theorem ggL_law_X5_cut : GoodIn wsL_law wsX5_cut := goodIn_r _ [217, 46, 183, 184, 5, 185, 131, 132, 133, 81, 82, 83, 186, 187, 188, 189, 47, 190, 191, 192, 193, 194, 195, 196, 197, 198, 199, 200, 394, 395, 396, 397, 398, 399, 400, 401, 402, 403, 404, 405, 406, 407, 408] (by decide +kernel) (by decide +kernel)
set_option maxRecDepth 20000 in
theorem gL_law_X5_cut : GoodIn wsL_law (wsV RL 42 RX5 yX5_cut wsX5_cut) := goodIn_app (goodIn_of _ (by decide +kernel)) ggL_law_X5_cut
set_option maxRecDepth 20000 in
theorem ggL_law_X4_hoot : GoodIn wsL_law wsX4_hoot := goodIn_r _ [221, 147, 148, 149, 2, 150, 119, 120, 121, 122, 15, 151, 152, 153, 154, 155, 156, 21, 157, 158, 159, 160, 161, 162, 163, 164, 165, 166, 167, 168, 169, 170, 171, 172, 173, 174, 175, 176, 177, 178, 222, 223, 224, 225, 205, 386, 387, 388, 389, 390, 391, 392, 393, 409, 410, 419, 420, 421, 422, 423, 424] (by decide +kernel) (by decide +kernel)
set_option maxRecDepth 20000 in
theorem gL_law_X4_hoot : GoodIn wsL_law (wsV RL 43 RX4 yX4_hoot wsX4_hoot) := goodIn_app (goodIn_of _ (by decide +kernel)) ggL_law_X4_hoot
set_option maxRecDepth 20000 in
theorem ggL_law_X5_hoot : GoodIn wsL_law wsX5_hoot := goodIn_r _ [229, 44, 45, 183, 184, 5, 185, 131, 132, 133, 81, 82, 83, 186, 187, 188, 189, 47, 46, 190, 191, 192, 193, 194, 195, 196, 197, 198, 199, 200, 394, 395, 396, 397, 398, 399, 400, 401, 402, 403, 404, 405, 406, 407, 408] (by decide +kernel) (by decide +kernel)
set_option maxRecDepth 20000 in
theorem gL_law_X5_hoot : GoodIn wsL_law (wsV RL 46 RX5 yX5_hoot wsX5_hoot) := goodIn_app (goodIn_of _ (by decide +kernel)) ggL_law_X5_hoot
set_option maxRecDepth 20000 in
theorem ggL_law_X4_pull : GoodIn wsL_law wsX4_pull := goodIn_r _ [233, 225, 147, 148, 149, 2, 150, 119, 120, 121, 122, 15, 151, 152, 153, 154, 155, 156, 21, 157, 158, 159, 160, 161, 162, 163, 164, 165, 166, 167, 168, 169, 170, 171, 172, 173, 174, 175, 176, 177, 178, 234, 235, 236, 237, 238, 239, 88, 205, 419, 420, 421, 422, 423, 424, 386, 387, 388, 389, 390, 391, 392, 393, 409, 410] (by decide +kernel) (by decide +kernel)
set_option maxRecDepth 20000 in
theorem gL_law_X4_pull : GoodIn wsL_law (wsV RL 47 RX4 yX4_pull wsX4_pull) := goodIn_app (goodIn_of _ (by decide +kernel)) ggL_law_X4_pull
set_option maxRecDepth 20000 in
theorem ggL_law_X5_pull : GoodIn wsL_law wsX5_pull := goodIn_r _ [243, 44, 45, 46, 183, 184, 5, 185, 131, 132, 133, 81, 82, 83, 186, 187, 188, 189, 47, 190, 191, 192, 193, 194, 195, 196, 197, 198, 199, 200, 394, 395, 396, 397, 398, 399, 400, 401, 402, 403, 404, 405, 406, 407, 408] (by decide +kernel) (by decide +kernel)
set_option maxRecDepth 20000 in
theorem gL_law_X5_pull : GoodIn wsL_law (wsV RL 50 RX5 yX5_pull wsX5_pull) := goodIn_app (goodIn_of _ (by decide +kernel)) ggL_law_X5_pull
set_option maxRecDepth 20000 in
theorem ggL_law_X4_loadAs : GoodIn wsL_law wsX4_loadAs := goodIn_r _ [247, 225, 205, 62, 63, 2, 64, 119, 120, 121, 122, 15, 147, 148, 149, 150, 151, 152, 153, 154, 155, 156, 21, 157, 158, 159, 160, 161, 162, 163, 164, 165, 166, 167, 168, 169, 170, 171, 172, 173, 174, 175, 176, 177, 178, 234, 235, 236, 419, 420, 421, 422, 423, 424, 386, 387, 388, 389, 390, 391, 392, 393, 409, 410] (by decide +kernel) (by decide +kernel)
set_option maxRecDepth 20000 in
theorem gL_law_X4_loadAs : GoodIn wsL_law (wsV RL 51 RX4 yX4_loadAs wsX4_loadAs) := goodIn_app (goodIn_of _ (by decide +kernel)) ggL_law_X4_loadAs
set_option maxRecDepth 20000 in
theorem ggL_law_X5_loadAs : GoodIn wsL_law wsX5_loadAs := goodIn_r _ [251, 44, 45, 183, 184, 5, 185, 131, 132, 133, 81, 82, 83, 78, 79, 80, 186, 187, 188, 189, 47, 46, 190, 191, 192, 193, 194, 195, 196, 252, 253, 254, 197, 198, 199, 200, 394, 395, 396, 397, 398, 399, 400, 401, 402, 403, 404, 405, 406, 407, 408] (by decide +kernel) (by decide +kernel)
set_option maxRecDepth 20000 in
theorem gL_law_X5_loadAs : GoodIn wsL_law (wsV RL 54 RX5 yX5_loadAs wsX5_loadAs) := goodIn_app (goodIn_of _ (by decide +kernel)) ggL_law_X5_loadAs
set_option maxRecDepth 20000 in
theorem ggL_law_X4_rake : GoodIn wsL_law wsX4_rake := goodIn_r _ [258, 259, 260, 261, 2, 262, 17, 62, 63, 64, 175, 176, 177, 178, 160, 161, 162, 163, 164, 165, 166, 263, 264, 265, 23, 266, 267, 268, 269, 34, 270, 271, 272, 273, 386, 387, 388, 389, 390, 391, 392, 393, 411, 412, 413, 414] (by decide +kernel) (by decide +kernel)
set_option maxRecDepth 20000 in
theorem gL_law_X4_rake : GoodIn wsL_law (wsV RL 55 RX4 yX4_rake wsX4_rake) := goodIn_app (goodIn_of _ (by decide +kernel)) ggL_law_X4_rake
set_option maxRecDepth 20000 in
theorem ggL_law_X5_rake : GoodIn wsL_law wsX5_rake := goodIn_r _ [277, 49, 50, 51, 278, 279, 5, 280, 81, 82, 83, 78, 79, 80, 190, 191, 192, 193, 194, 195, 196, 197, 198, 199, 200, 394, 395, 396, 397, 398, 399, 400, 401, 402, 403, 404, 405, 406, 407, 408] (by decide +kernel) (by decide +kernel)
set_option maxRecDepth 20000 in
theorem gL_law_X5_rake : GoodIn wsL_law (wsV RL 58 RX5 yX5_rake wsX5_rake) := goodIn_app (goodIn_of _ (by decide +kernel)) ggL_law_X5_rake
set_option maxRecDepth 20000 in
theorem ggL_law_X4_drop : GoodIn wsL_law wsX4_drop := goodIn_r _ [284, 285, 259, 260, 261, 2, 262, 17, 411, 412, 413, 414, 386, 387, 388, 389, 390, 391, 392, 393] (by decide +kernel) (by decide +kernel)
set_option maxRecDepth 20000 in
theorem gL_law_X4_drop : GoodIn wsL_law (wsV RL 59 RX4 yX4_drop wsX4_drop) := goodIn_app (goodIn_of _ (by decide +kernel)) ggL_law_X4_drop
set_option maxRecDepth 20000 in
theorem ggL_law_X5_drop : GoodIn wsL_law wsX5_drop := goodIn_r _ [289, 49, 278, 279, 5, 280, 81, 82, 83, 394, 395, 396, 397, 398, 399, 400, 401, 402, 403, 404, 405, 406, 407, 408] (by decide +kernel) (by decide +kernel)
set_option maxRecDepth 20000 in
theorem gL_law_X5_drop : GoodIn wsL_law (wsV RL 63 RX5 yX5_drop wsX5_drop) := goodIn_app (goodIn_of _ (by decide +kernel)) ggL_law_X5_drop
set_option maxRecDepth 20000 in
theorem ggL_law_X4_lay : GoodIn wsL_law wsX4_lay := goodIn_r _ [293, 285, 118, 225, 294, 295, 88, 259, 260, 261, 2, 262, 17, 119, 120, 121, 122, 15, 175, 176, 177, 178, 160, 161, 162, 163, 164, 165, 166, 296, 297, 298, 23, 299, 267, 269, 34, 234, 235, 236, 270, 271, 272, 273, 411, 412, 413, 414, 409, 410, 419, 420, 421, 422, 423, 424, 386, 387, 388, 389, 390, 391, 392, 393] (by decide +kernel) (by decide +kernel)
set_option maxRecDepth 20000 in
theorem gL_law_X4_lay : GoodIn wsL_law (wsV RL 64 RX4 yX4_lay wsX4_lay) := goodIn_app (goodIn_of _ (by decide +kernel)) ggL_law_X4_lay
set_option maxRecDepth 20000 in
theorem ggL_law_X5_lay : GoodIn wsL_law wsX5_lay := goodIn_r _ [303, 47, 49, 44, 50, 51, 46, 278, 279, 5, 280, 81, 82, 83, 131, 132, 133, 190, 191, 192, 193, 194, 195, 196, 252, 253, 254, 197, 198, 199, 200, 394, 395, 396, 397, 398, 399, 400, 401, 402, 403, 404, 405, 406, 407, 408] (by decide +kernel) (by decide +kernel)
set_option maxRecDepth 20000 in
theorem gL_law_X5_lay : GoodIn wsL_law (wsV RL 67 RX5 yX5_lay wsX5_lay) := goodIn_app (goodIn_of _ (by decide +kernel)) ggL_law_X5_lay
set_option maxRecDepth 20000 in
theorem ggL_law_X4_places : GoodIn wsL_law wsX4_places := goodIn_r _ [307, 285, 308, 259, 260, 261, 2, 262, 17, 270, 271, 272, 273, 160, 161, 162, 163, 164, 165, 166, 175, 176, 177, 178, 411, 412, 413, 414, 386, 387, 388, 389, 390, 391, 392, 393] (by decide +kernel) (by decide +kernel)
set_option maxRecDepth 20000 in
theorem gL_law_X4_places : GoodIn wsL_law (wsV RL 68 RX4 yX4_places wsX4_places) := goodIn_app (goodIn_of _ (by decide +kernel)) ggL_law_X4_places
set_option maxRecDepth 20000 in
theorem ggL_law_X5_places : GoodIn wsL_law wsX5_places := goodIn_r _ [312, 49, 278, 279, 5, 280, 81, 82, 83, 190, 191, 192, 193, 194, 195, 196, 197, 198, 199, 200, 394, 395, 396, 397, 398, 399, 400, 401, 402, 403, 404, 405, 406, 407, 408] (by decide +kernel) (by decide +kernel)
set_option maxRecDepth 20000 in
theorem gL_law_X5_places : GoodIn wsL_law (wsV RL 71 RX5 yX5_places wsX5_places) := goodIn_app (goodIn_of _ (by decide +kernel)) ggL_law_X5_places
set_option maxRecDepth 20000 in
theorem ggL_law_X4_loadOn : GoodIn wsL_law wsX4_loadOn := goodIn_r _ [316, 285, 295, 205, 259, 260, 261, 2, 262, 17, 175, 176, 177, 178, 160, 161, 162, 163, 164, 165, 166, 296, 297, 298, 23, 299, 267, 269, 34, 270, 271, 272, 273, 411, 412, 413, 414, 419, 420, 421, 422, 423, 424, 386, 387, 388, 389, 390, 391, 392, 393] (by decide +kernel) (by decide +kernel)
set_option maxRecDepth 20000 in
theorem gL_law_X4_loadOn : GoodIn wsL_law (wsV RL 72 RX4 yX4_loadOn wsX4_loadOn) := goodIn_app (goodIn_of _ (by decide +kernel)) ggL_law_X4_loadOn
set_option maxRecDepth 20000 in
theorem ggL_law_X5_loadOn : GoodIn wsL_law wsX5_loadOn := goodIn_r _ [320, 49, 51, 45, 278, 279, 5, 280, 81, 82, 83, 190, 191, 192, 193, 194, 195, 196, 197, 198, 199, 200, 394, 395, 396, 397, 398, 399, 400, 401, 402, 403, 404, 405, 406, 407, 408] (by decide +kernel) (by decide +kernel)
set_option maxRecDepth 20000 in
theorem gL_law_X5_loadOn : GoodIn wsL_law (wsV RL 75 RX5 yX5_loadOn wsX5_loadOn) := goodIn_app (goodIn_of _ (by decide +kernel)) ggL_law_X5_loadOn
set_option maxRecDepth 20000 in
theorem ggL_law_X4_table : GoodIn wsL_law wsX4_table := goodIn_r _ [324, 325, 326, 327, 2, 328, 19, 175, 176, 177, 178, 160, 161, 162, 163, 164, 165, 166, 329, 330, 331, 25, 332, 333, 334, 335, 39, 270, 271, 272, 273, 386, 387, 388, 389, 390, 391, 392, 393, 415, 416, 417, 418] (by decide +kernel) (by decide +kernel)
set_option maxRecDepth 20000 in
theorem gL_law_X4_table : GoodIn wsL_law (wsV RL 76 RX4 yX4_table wsX4_table) := goodIn_app (goodIn_of _ (by decide +kernel)) ggL_law_X4_table
set_option maxRecDepth 20000 in
theorem ggL_law_X5_table : GoodIn wsL_law wsX5_table := goodIn_r _ [339, 52, 53, 54, 81, 82, 5, 83, 190, 191, 192, 193, 194, 195, 196, 197, 198, 199, 200, 394, 395, 396, 397, 398, 399, 400, 401, 402, 403, 404, 405, 406, 407, 408] (by decide +kernel) (by decide +kernel)
set_option maxRecDepth 20000 in
theorem gL_law_X5_table : GoodIn wsL_law (wsV RL 79 RX5 yX5_table wsX5_table) := goodIn_app (goodIn_of _ (by decide +kernel)) ggL_law_X5_table
set_option maxRecDepth 20000 in
theorem ggL_law_X4_add : GoodIn wsL_law wsX4_add := goodIn_r _ [343, 344, 345, 325, 326, 327, 2, 328, 19, 175, 176, 177, 178, 160, 161, 162, 163, 164, 165, 166, 346, 347, 348, 25, 349, 334, 335, 270, 271, 272, 273, 415, 416, 417, 418, 386, 387, 388, 389, 390, 391, 392, 393] (by decide +kernel) (by decide +kernel)
set_option maxRecDepth 20000 in
theorem gL_law_X4_add : GoodIn wsL_law (wsV RL 80 RX4 yX4_add wsX4_add) := goodIn_app (goodIn_of _ (by decide +kernel)) ggL_law_X4_add
set_option maxRecDepth 20000 in
theorem ggL_law_X5_add : GoodIn wsL_law wsX5_add := goodIn_r _ [353, 52, 53, 54, 81, 82, 5, 83, 190, 191, 192, 193, 194, 195, 196, 197, 198, 199, 200, 394, 395, 396, 397, 398, 399, 400, 401, 402, 403, 404, 405, 406, 407, 408] (by decide +kernel) (by decide +kernel)
set_option maxRecDepth 20000 in
theorem gL_law_X5_add : GoodIn wsL_law (wsV RL 84 RX5 yX5_add wsX5_add) := goodIn_app (goodIn_of _ (by decide +kernel)) ggL_law_X5_add
set_option maxRecDepth 20000 in
theorem ggL_law_X4_raise : GoodIn wsL_law wsX4_raise := goodIn_r _ [357, 138, 166, 119, 120, 121, 2, 122, 15, 175, 176, 177, 178, 160, 161, 162, 163, 164, 165, 409, 410, 386, 387, 388, 389, 390, 391, 392, 393] (by decide +kernel) (by decide +kernel)
set_option maxRecDepth 20000 in
theorem gL_law_X4_raise : GoodIn wsL_law (wsV RL 85 RX4 yX4_raise wsX4_raise) := goodIn_app (goodIn_of _ (by decide +kernel)) ggL_law_X4_raise
set_option maxRecDepth 20000 in
theorem ggL_law_X5_raise : GoodIn wsL_law wsX5_raise := goodIn_r _ [361, 48, 196, 131, 132, 5, 133, 81, 82, 83, 190, 191, 192, 193, 194, 195, 394, 395, 396, 397, 398, 399, 400, 401, 402, 403, 404, 405, 406, 407, 408] (by decide +kernel) (by decide +kernel)
set_option maxRecDepth 20000 in
theorem gL_law_X5_raise : GoodIn wsL_law (wsV RL 88 RX5 yX5_raise wsX5_raise) := goodIn_app (goodIn_of _ (by decide +kernel)) ggL_law_X5_raise
set_option maxRecDepth 20000 in
theorem ggL_law_X4_told : GoodIn wsL_law wsX4_told := goodIn_r _ [365, 164, 165, 166, 386, 387, 388, 389, 390, 391, 392, 393] (by decide +kernel) (by decide +kernel)
set_option maxRecDepth 20000 in
theorem gL_law_X4_told : GoodIn wsL_law (wsV RL 89 RX4 yX4_told wsX4_told) := goodIn_app (goodIn_of _ (by decide +kernel)) ggL_law_X4_told
set_option maxRecDepth 20000 in
theorem ggL_law_X5_told : GoodIn wsL_law wsX5_told := goodIn_r _ [369, 194, 195, 196, 394, 395, 396, 397, 398, 399, 400, 401, 402, 403, 404, 405, 406, 407, 408] (by decide +kernel) (by decide +kernel)
set_option maxRecDepth 20000 in
theorem gL_law_X5_told : GoodIn wsL_law (wsV RL 92 RX5 yX5_told wsX5_told) := goodIn_app (goodIn_of _ (by decide +kernel)) ggL_law_X5_told
set_option maxRecDepth 20000 in
theorem ggL_law_X4_about : GoodIn wsL_law wsX4_about := goodIn_r _ [373, 225, 205, 88, 90, 91, 92, 93, 2, 94, 13, 123, 124, 125, 126, 419, 420, 421, 422, 423, 424, 386, 387, 388, 389, 390, 391, 392, 393] (by decide +kernel) (by decide +kernel)
set_option maxRecDepth 20000 in
theorem gL_law_X4_about : GoodIn wsL_law (wsV RL 93 RX4 yX4_about wsX4_about) := goodIn_app (goodIn_of _ (by decide +kernel)) ggL_law_X4_about
set_option maxRecDepth 20000 in
theorem ggL_law_X5_about : GoodIn wsL_law wsX5_about := goodIn_r _ [377, 44, 45, 46, 102, 103, 104, 5, 105, 77, 81, 82, 83, 110, 111, 112, 113, 47, 394, 395, 396, 397, 398, 399, 400, 401, 402, 403, 404, 405, 406, 407, 408] (by decide +kernel) (by decide +kernel)
set_option maxRecDepth 20000 in
theorem gL_law_X5_about : GoodIn wsL_law (wsV RL 96 RX5 yX5_about wsX5_about) := goodIn_app (goodIn_of _ (by decide +kernel)) ggL_law_X5_about
set_option maxRecDepth 20000 in
theorem ggL_law_X4_onRake : GoodIn wsL_law wsX4_onRake := goodIn_r _ [381, 295, 259, 260, 261, 2, 262, 17, 296, 297, 298, 23, 299, 267, 269, 34, 123, 124, 125, 126, 411, 412, 413, 414, 386, 387, 388, 389, 390, 391, 392, 393, 419, 420, 421, 422, 423, 424] (by decide +kernel) (by decide +kernel)
set_option maxRecDepth 20000 in
theorem gL_law_X4_onRake : GoodIn wsL_law (wsV RL 97 RX4 yX4_onRake wsX4_onRake) := goodIn_app (goodIn_of _ (by decide +kernel)) ggL_law_X4_onRake
set_option maxRecDepth 20000 in
theorem ggL_law_X5_onRake : GoodIn wsL_law wsX5_onRake := goodIn_r _ [385, 49, 51, 278, 279, 5, 280, 81, 82, 83, 394, 395, 396, 397, 398, 399, 400, 401, 402, 403, 404, 405, 406, 407, 408] (by decide +kernel) (by decide +kernel)
set_option maxRecDepth 20000 in
theorem gL_law_X5_onRake : GoodIn wsL_law (wsV RL 100 RX5 yX5_onRake wsX5_onRake) := goodIn_app (goodIn_of _ (by decide +kernel)) ggL_law_X5_onRake
theorem dL_law_0 : decode cL_law 0 = .ok (.new 7, 3) := by decide +kernel
theorem dL_law_3 : decode cL_law 3 = .ok (.dup, 1) := by decide +kernel
theorem dL_law_4 : decode cL_law 4 = .ok (.invokespecial 9, 3) := by decide +kernel
theorem dL_law_7 : decode cL_law 7 = .ok (.astore_n 1, 1) := by decide +kernel
theorem dL_law_8 : decode cL_law 8 = .ok (.new 10, 3) := by decide +kernel
theorem dL_law_11 : decode cL_law 11 = .ok (.dup, 1) := by decide +kernel
theorem dL_law_12 : decode cL_law 12 = .ok (.invokespecial 12, 3) := by decide +kernel
theorem dL_law_15 : decode cL_law 15 = .ok (.astore_n 2, 1) := by decide +kernel
theorem dL_law_16 : decode cL_law 16 = .ok (.iconst 0, 1) := by decide +kernel
theorem dL_law_17 : decode cL_law 17 = .ok (.istore_n 3, 1) := by decide +kernel
theorem dL_law_18 : decode cL_law 18 = .ok (.iload_n 3, 1) := by decide +kernel
theorem dL_law_19 : decode cL_law 19 = .ok (.aload_n 0, 1) := by decide +kernel
theorem dL_law_20 : decode cL_law 20 = .ok (.arraylength, 1) := by decide +kernel
theorem dL_law_21 : decode cL_law 21 = .ok (.iconst 5, 1) := by decide +kernel
theorem dL_law_22 : decode cL_law 22 = .ok (.isub, 1) := by decide +kernel
theorem dL_law_23 : decode cL_law 23 = .ok (.if_icmp .gt 828, 3) := by decide +kernel
theorem dL_law_26 : decode cL_law 26 = .ok (.aload_n 0, 1) := by decide +kernel
theorem dL_law_27 : decode cL_law 27 = .ok (.iload_n 3, 1) := by decide +kernel
theorem dL_law_28 : decode cL_law 28 = .ok (.iaload, 1) := by decide +kernel
theorem dL_law_29 : decode cL_law 29 = .ok (.bipush 31, 2) := by decide +kernel
theorem dL_law_31 : decode cL_law 31 = .ok (.iand, 1) := by decide +kernel
theorem dL_law_32 : decode cL_law 32 = .ok (.tableswitch 813 0 20 #[100, 133, 166, 199, 232, 265, 308, 341, 374, 407, 450, 493, 516, 549, 572, 605, 648, 701, 724, 747, 780], 100) := by decide +kernel
theorem dL_law_132 : decode cL_law 132 = .ok (.aload_n 1, 1) := by decide +kernel
theorem dL_law_133 : decode cL_law 133 = .ok (.aload_n 0, 1) := by decide +kernel
theorem dL_law_134 : decode cL_law 134 = .ok (.iload_n 3, 1) := by decide +kernel
theorem dL_law_135 : decode cL_law 135 = .ok (.iconst 1, 1) := by decide +kernel
theorem dL_law_136 : decode cL_law 136 = .ok (.iadd, 1) := by decide +kernel
theorem dL_law_137 : decode cL_law 137 = .ok (.iaload, 1) := by decide +kernel
theorem dL_law_138 : decode cL_law 138 = .ok (.aload_n 0, 1) := by decide +kernel
theorem dL_law_139 : decode cL_law 139 = .ok (.iload_n 3, 1) := by decide +kernel
theorem dL_law_140 : decode cL_law 140 = .ok (.iconst 2, 1) := by decide +kernel
theorem dL_law_141 : decode cL_law 141 = .ok (.iadd, 1) := by decide +kernel
theorem dL_law_142 : decode cL_law 142 = .ok (.iaload, 1) := by decide +kernel
theorem dL_law_143 : decode cL_law 143 = .ok (.invokevirtual 13, 3) := by decide +kernel
theorem dL_law_146 : decode cL_law 146 = .ok (.aload_n 2, 1) := by decide +kernel
theorem dL_law_147 : decode cL_law 147 = .ok (.aload_n 0, 1) := by decide +kernel
theorem dL_law_148 : decode cL_law 148 = .ok (.iload_n 3, 1) := by decide +kernel
theorem dL_law_149 : decode cL_law 149 = .ok (.iconst 1, 1) := by decide +kernel
theorem dL_law_150 : decode cL_law 150 = .ok (.iadd, 1) := by decide +kernel
theorem dL_law_151 : decode cL_law 151 = .ok (.iaload, 1) := by decide +kernel
theorem dL_law_152 : decode cL_law 152 = .ok (.aload_n 0, 1) := by decide +kernel
theorem dL_law_153 : decode cL_law 153 = .ok (.iload_n 3, 1) := by decide +kernel
theorem dL_law_154 : decode cL_law 154 = .ok (.iconst 2, 1) := by decide +kernel
theorem dL_law_155 : decode cL_law 155 = .ok (.iadd, 1) := by decide +kernel
theorem dL_law_156 : decode cL_law 156 = .ok (.iaload, 1) := by decide +kernel
theorem dL_law_157 : decode cL_law 157 = .ok (.invokevirtual 17, 3) := by decide +kernel
theorem dL_law_160 : decode cL_law 160 = .ok (.if_icmp .eq 685, 3) := by decide +kernel
theorem dL_law_163 : decode cL_law 163 = .ok (.iconst 0, 1) := by decide +kernel
theorem dL_law_164 : decode cL_law 164 = .ok (.ireturn, 1) := by decide +kernel
theorem dL_law_165 : decode cL_law 165 = .ok (.aload_n 1, 1) := by decide +kernel
theorem dL_law_166 : decode cL_law 166 = .ok (.aload_n 0, 1) := by decide +kernel
theorem dL_law_167 : decode cL_law 167 = .ok (.iload_n 3, 1) := by decide +kernel
theorem dL_law_168 : decode cL_law 168 = .ok (.iconst 1, 1) := by decide +kernel
theorem dL_law_169 : decode cL_law 169 = .ok (.iadd, 1) := by decide +kernel
theorem dL_law_170 : decode cL_law 170 = .ok (.iaload, 1) := by decide +kernel
theorem dL_law_171 : decode cL_law 171 = .ok (.aload_n 0, 1) := by decide +kernel
theorem dL_law_172 : decode cL_law 172 = .ok (.iload_n 3, 1) := by decide +kernel
theorem dL_law_173 : decode cL_law 173 = .ok (.iconst 2, 1) := by decide +kernel
theorem dL_law_174 : decode cL_law 174 = .ok (.iadd, 1) := by decide +kernel
theorem dL_law_175 : decode cL_law 175 = .ok (.iaload, 1) := by decide +kernel
theorem dL_law_176 : decode cL_law 176 = .ok (.invokevirtual 18, 3) := by decide +kernel
theorem dL_law_179 : decode cL_law 179 = .ok (.aload_n 2, 1) := by decide +kernel
theorem dL_law_180 : decode cL_law 180 = .ok (.aload_n 0, 1) := by decide +kernel
theorem dL_law_181 : decode cL_law 181 = .ok (.iload_n 3, 1) := by decide +kernel
theorem dL_law_182 : decode cL_law 182 = .ok (.iconst 1, 1) := by decide +kernel
theorem dL_law_183 : decode cL_law 183 = .ok (.iadd, 1) := by decide +kernel
theorem dL_law_184 : decode cL_law 184 = .ok (.iaload, 1) := by decide +kernel
theorem dL_law_185 : decode cL_law 185 = .ok (.aload_n 0, 1) := by decide +kernel
theorem dL_law_186 : decode cL_law 186 = .ok (.iload_n 3, 1) := by decide +kernel
theorem dL_law_187 : decode cL_law 187 = .ok (.iconst 2, 1) := by decide +kernel
theorem dL_law_188 : decode cL_law 188 = .ok (.iadd, 1) := by decide +kernel
theorem dL_law_189 : decode cL_law 189 = .ok (.iaload, 1) := by decide +kernel
theorem dL_law_190 : decode cL_law 190 = .ok (.invokevirtual 21, 3) := by decide +kernel
theorem dL_law_193 : decode cL_law 193 = .ok (.if_icmp .eq 652, 3) := by decide +kernel
theorem dL_law_196 : decode cL_law 196 = .ok (.iconst 0, 1) := by decide +kernel
theorem dL_law_197 : decode cL_law 197 = .ok (.ireturn, 1) := by decide +kernel
theorem dL_law_198 : decode cL_law 198 = .ok (.aload_n 1, 1) := by decide +kernel
theorem dL_law_199 : decode cL_law 199 = .ok (.aload_n 0, 1) := by decide +kernel
theorem dL_law_200 : decode cL_law 200 = .ok (.iload_n 3, 1) := by decide +kernel
theorem dL_law_201 : decode cL_law 201 = .ok (.iconst 1, 1) := by decide +kernel
theorem dL_law_202 : decode cL_law 202 = .ok (.iadd, 1) := by decide +kernel
theorem dL_law_203 : decode cL_law 203 = .ok (.iaload, 1) := by decide +kernel
theorem dL_law_204 : decode cL_law 204 = .ok (.aload_n 0, 1) := by decide +kernel
theorem dL_law_205 : decode cL_law 205 = .ok (.iload_n 3, 1) := by decide +kernel
theorem dL_law_206 : decode cL_law 206 = .ok (.iconst 2, 1) := by decide +kernel
theorem dL_law_207 : decode cL_law 207 = .ok (.iadd, 1) := by decide +kernel
theorem dL_law_208 : decode cL_law 208 = .ok (.iaload, 1) := by decide +kernel
theorem dL_law_209 : decode cL_law 209 = .ok (.invokevirtual 22, 3) := by decide +kernel
theorem dL_law_212 : decode cL_law 212 = .ok (.aload_n 2, 1) := by decide +kernel
theorem dL_law_213 : decode cL_law 213 = .ok (.aload_n 0, 1) := by decide +kernel
theorem dL_law_214 : decode cL_law 214 = .ok (.iload_n 3, 1) := by decide +kernel
theorem dL_law_215 : decode cL_law 215 = .ok (.iconst 1, 1) := by decide +kernel
theorem dL_law_216 : decode cL_law 216 = .ok (.iadd, 1) := by decide +kernel
theorem dL_law_217 : decode cL_law 217 = .ok (.iaload, 1) := by decide +kernel
theorem dL_law_218 : decode cL_law 218 = .ok (.aload_n 0, 1) := by decide +kernel
theorem dL_law_219 : decode cL_law 219 = .ok (.iload_n 3, 1) := by decide +kernel
theorem dL_law_220 : decode cL_law 220 = .ok (.iconst 2, 1) := by decide +kernel
theorem dL_law_221 : decode cL_law 221 = .ok (.iadd, 1) := by decide +kernel
theorem dL_law_222 : decode cL_law 222 = .ok (.iaload, 1) := by decide +kernel
theorem dL_law_223 : decode cL_law 223 = .ok (.invokevirtual 25, 3) := by decide +kernel
theorem dL_law_226 : decode cL_law 226 = .ok (.if_icmp .eq 619, 3) := by decide +kernel
theorem dL_law_229 : decode cL_law 229 = .ok (.iconst 0, 1) := by decide +kernel
theorem dL_law_230 : decode cL_law 230 = .ok (.ireturn, 1) := by decide +kernel
theorem dL_law_231 : decode cL_law 231 = .ok (.aload_n 1, 1) := by decide +kernel
theorem dL_law_232 : decode cL_law 232 = .ok (.aload_n 0, 1) := by decide +kernel
theorem dL_law_233 : decode cL_law 233 = .ok (.iload_n 3, 1) := by decide +kernel
theorem dL_law_234 : decode cL_law 234 = .ok (.iconst 1, 1) := by decide +kernel
theorem dL_law_235 : decode cL_law 235 = .ok (.iadd, 1) := by decide +kernel
theorem dL_law_236 : decode cL_law 236 = .ok (.iaload, 1) := by decide +kernel
theorem dL_law_237 : decode cL_law 237 = .ok (.aload_n 0, 1) := by decide +kernel
theorem dL_law_238 : decode cL_law 238 = .ok (.iload_n 3, 1) := by decide +kernel
theorem dL_law_239 : decode cL_law 239 = .ok (.iconst 2, 1) := by decide +kernel
theorem dL_law_240 : decode cL_law 240 = .ok (.iadd, 1) := by decide +kernel
theorem dL_law_241 : decode cL_law 241 = .ok (.iaload, 1) := by decide +kernel
theorem dL_law_242 : decode cL_law 242 = .ok (.invokevirtual 26, 3) := by decide +kernel
theorem dL_law_245 : decode cL_law 245 = .ok (.aload_n 2, 1) := by decide +kernel
theorem dL_law_246 : decode cL_law 246 = .ok (.aload_n 0, 1) := by decide +kernel
theorem dL_law_247 : decode cL_law 247 = .ok (.iload_n 3, 1) := by decide +kernel
theorem dL_law_248 : decode cL_law 248 = .ok (.iconst 1, 1) := by decide +kernel
theorem dL_law_249 : decode cL_law 249 = .ok (.iadd, 1) := by decide +kernel
theorem dL_law_250 : decode cL_law 250 = .ok (.iaload, 1) := by decide +kernel
theorem dL_law_251 : decode cL_law 251 = .ok (.aload_n 0, 1) := by decide +kernel
theorem dL_law_252 : decode cL_law 252 = .ok (.iload_n 3, 1) := by decide +kernel
theorem dL_law_253 : decode cL_law 253 = .ok (.iconst 2, 1) := by decide +kernel
theorem dL_law_254 : decode cL_law 254 = .ok (.iadd, 1) := by decide +kernel
theorem dL_law_255 : decode cL_law 255 = .ok (.iaload, 1) := by decide +kernel
theorem dL_law_256 : decode cL_law 256 = .ok (.invokevirtual 29, 3) := by decide +kernel
theorem dL_law_259 : decode cL_law 259 = .ok (.if_icmp .eq 586, 3) := by decide +kernel
theorem dL_law_262 : decode cL_law 262 = .ok (.iconst 0, 1) := by decide +kernel
theorem dL_law_263 : decode cL_law 263 = .ok (.ireturn, 1) := by decide +kernel
theorem dL_law_264 : decode cL_law 264 = .ok (.aload_n 1, 1) := by decide +kernel
theorem dL_law_265 : decode cL_law 265 = .ok (.aload_n 0, 1) := by decide +kernel
theorem dL_law_266 : decode cL_law 266 = .ok (.iload_n 3, 1) := by decide +kernel
theorem dL_law_267 : decode cL_law 267 = .ok (.iconst 1, 1) := by decide +kernel
theorem dL_law_268 : decode cL_law 268 = .ok (.iadd, 1) := by decide +kernel
theorem dL_law_269 : decode cL_law 269 = .ok (.iaload, 1) := by decide +kernel
theorem dL_law_270 : decode cL_law 270 = .ok (.aload_n 0, 1) := by decide +kernel
theorem dL_law_271 : decode cL_law 271 = .ok (.iload_n 3, 1) := by decide +kernel
theorem dL_law_272 : decode cL_law 272 = .ok (.iconst 2, 1) := by decide +kernel
theorem dL_law_273 : decode cL_law 273 = .ok (.iadd, 1) := by decide +kernel
theorem dL_law_274 : decode cL_law 274 = .ok (.iaload, 1) := by decide +kernel
theorem dL_law_275 : decode cL_law 275 = .ok (.invokevirtual 30, 3) := by decide +kernel
theorem dL_law_278 : decode cL_law 278 = .ok (.aload_n 2, 1) := by decide +kernel
theorem dL_law_279 : decode cL_law 279 = .ok (.aload_n 0, 1) := by decide +kernel
theorem dL_law_280 : decode cL_law 280 = .ok (.iload_n 3, 1) := by decide +kernel
theorem dL_law_281 : decode cL_law 281 = .ok (.iconst 1, 1) := by decide +kernel
theorem dL_law_282 : decode cL_law 282 = .ok (.iadd, 1) := by decide +kernel
theorem dL_law_283 : decode cL_law 283 = .ok (.iaload, 1) := by decide +kernel
theorem dL_law_284 : decode cL_law 284 = .ok (.aload_n 0, 1) := by decide +kernel
theorem dL_law_285 : decode cL_law 285 = .ok (.iload_n 3, 1) := by decide +kernel
theorem dL_law_286 : decode cL_law 286 = .ok (.iconst 2, 1) := by decide +kernel
theorem dL_law_287 : decode cL_law 287 = .ok (.iadd, 1) := by decide +kernel
theorem dL_law_288 : decode cL_law 288 = .ok (.iaload, 1) := by decide +kernel
theorem dL_law_289 : decode cL_law 289 = .ok (.invokevirtual 33, 3) := by decide +kernel
theorem dL_law_292 : decode cL_law 292 = .ok (.if_icmp .eq 553, 3) := by decide +kernel
theorem dL_law_295 : decode cL_law 295 = .ok (.iconst 0, 1) := by decide +kernel
theorem dL_law_296 : decode cL_law 296 = .ok (.ireturn, 1) := by decide +kernel
theorem dL_law_297 : decode cL_law 297 = .ok (.aload_n 1, 1) := by decide +kernel
theorem dL_law_298 : decode cL_law 298 = .ok (.aload_n 0, 1) := by decide +kernel
theorem dL_law_299 : decode cL_law 299 = .ok (.iload_n 3, 1) := by decide +kernel
theorem dL_law_300 : decode cL_law 300 = .ok (.iconst 1, 1) := by decide +kernel
theorem dL_law_301 : decode cL_law 301 = .ok (.iadd, 1) := by decide +kernel
theorem dL_law_302 : decode cL_law 302 = .ok (.iaload, 1) := by decide +kernel
theorem dL_law_303 : decode cL_law 303 = .ok (.aload_n 0, 1) := by decide +kernel
theorem dL_law_304 : decode cL_law 304 = .ok (.iload_n 3, 1) := by decide +kernel
theorem dL_law_305 : decode cL_law 305 = .ok (.iconst 2, 1) := by decide +kernel
theorem dL_law_306 : decode cL_law 306 = .ok (.iadd, 1) := by decide +kernel
theorem dL_law_307 : decode cL_law 307 = .ok (.iaload, 1) := by decide +kernel
theorem dL_law_308 : decode cL_law 308 = .ok (.aload_n 0, 1) := by decide +kernel
theorem dL_law_309 : decode cL_law 309 = .ok (.iload_n 3, 1) := by decide +kernel
theorem dL_law_310 : decode cL_law 310 = .ok (.iconst 3, 1) := by decide +kernel
theorem dL_law_311 : decode cL_law 311 = .ok (.iadd, 1) := by decide +kernel
theorem dL_law_312 : decode cL_law 312 = .ok (.iaload, 1) := by decide +kernel
theorem dL_law_313 : decode cL_law 313 = .ok (.invokevirtual 34, 3) := by decide +kernel
theorem dL_law_316 : decode cL_law 316 = .ok (.aload_n 2, 1) := by decide +kernel
theorem dL_law_317 : decode cL_law 317 = .ok (.aload_n 0, 1) := by decide +kernel
theorem dL_law_318 : decode cL_law 318 = .ok (.iload_n 3, 1) := by decide +kernel
theorem dL_law_319 : decode cL_law 319 = .ok (.iconst 1, 1) := by decide +kernel
theorem dL_law_320 : decode cL_law 320 = .ok (.iadd, 1) := by decide +kernel
theorem dL_law_321 : decode cL_law 321 = .ok (.iaload, 1) := by decide +kernel
theorem dL_law_322 : decode cL_law 322 = .ok (.aload_n 0, 1) := by decide +kernel
theorem dL_law_323 : decode cL_law 323 = .ok (.iload_n 3, 1) := by decide +kernel
theorem dL_law_324 : decode cL_law 324 = .ok (.iconst 2, 1) := by decide +kernel
theorem dL_law_325 : decode cL_law 325 = .ok (.iadd, 1) := by decide +kernel
theorem dL_law_326 : decode cL_law 326 = .ok (.iaload, 1) := by decide +kernel
theorem dL_law_327 : decode cL_law 327 = .ok (.aload_n 0, 1) := by decide +kernel
theorem dL_law_328 : decode cL_law 328 = .ok (.iload_n 3, 1) := by decide +kernel
theorem dL_law_329 : decode cL_law 329 = .ok (.iconst 3, 1) := by decide +kernel
theorem dL_law_330 : decode cL_law 330 = .ok (.iadd, 1) := by decide +kernel
theorem dL_law_331 : decode cL_law 331 = .ok (.iaload, 1) := by decide +kernel
theorem dL_law_332 : decode cL_law 332 = .ok (.invokevirtual 38, 3) := by decide +kernel
theorem dL_law_335 : decode cL_law 335 = .ok (.if_icmp .eq 510, 3) := by decide +kernel
theorem dL_law_338 : decode cL_law 338 = .ok (.iconst 0, 1) := by decide +kernel
theorem dL_law_339 : decode cL_law 339 = .ok (.ireturn, 1) := by decide +kernel
theorem dL_law_340 : decode cL_law 340 = .ok (.aload_n 1, 1) := by decide +kernel
theorem dL_law_341 : decode cL_law 341 = .ok (.aload_n 0, 1) := by decide +kernel
theorem dL_law_342 : decode cL_law 342 = .ok (.iload_n 3, 1) := by decide +kernel
theorem dL_law_343 : decode cL_law 343 = .ok (.iconst 1, 1) := by decide +kernel
theorem dL_law_344 : decode cL_law 344 = .ok (.iadd, 1) := by decide +kernel
theorem dL_law_345 : decode cL_law 345 = .ok (.iaload, 1) := by decide +kernel
theorem dL_law_346 : decode cL_law 346 = .ok (.aload_n 0, 1) := by decide +kernel
theorem dL_law_347 : decode cL_law 347 = .ok (.iload_n 3, 1) := by decide +kernel
theorem dL_law_348 : decode cL_law 348 = .ok (.iconst 2, 1) := by decide +kernel
theorem dL_law_349 : decode cL_law 349 = .ok (.iadd, 1) := by decide +kernel
theorem dL_law_350 : decode cL_law 350 = .ok (.iaload, 1) := by decide +kernel
theorem dL_law_351 : decode cL_law 351 = .ok (.invokevirtual 39, 3) := by decide +kernel
theorem dL_law_354 : decode cL_law 354 = .ok (.aload_n 2, 1) := by decide +kernel
theorem dL_law_355 : decode cL_law 355 = .ok (.aload_n 0, 1) := by decide +kernel
theorem dL_law_356 : decode cL_law 356 = .ok (.iload_n 3, 1) := by decide +kernel
theorem dL_law_357 : decode cL_law 357 = .ok (.iconst 1, 1) := by decide +kernel
theorem dL_law_358 : decode cL_law 358 = .ok (.iadd, 1) := by decide +kernel
theorem dL_law_359 : decode cL_law 359 = .ok (.iaload, 1) := by decide +kernel
theorem dL_law_360 : decode cL_law 360 = .ok (.aload_n 0, 1) := by decide +kernel
theorem dL_law_361 : decode cL_law 361 = .ok (.iload_n 3, 1) := by decide +kernel
theorem dL_law_362 : decode cL_law 362 = .ok (.iconst 2, 1) := by decide +kernel
theorem dL_law_363 : decode cL_law 363 = .ok (.iadd, 1) := by decide +kernel
theorem dL_law_364 : decode cL_law 364 = .ok (.iaload, 1) := by decide +kernel
theorem dL_law_365 : decode cL_law 365 = .ok (.invokevirtual 42, 3) := by decide +kernel
theorem dL_law_368 : decode cL_law 368 = .ok (.if_icmp .eq 477, 3) := by decide +kernel
theorem dL_law_371 : decode cL_law 371 = .ok (.iconst 0, 1) := by decide +kernel
theorem dL_law_372 : decode cL_law 372 = .ok (.ireturn, 1) := by decide +kernel
theorem dL_law_373 : decode cL_law 373 = .ok (.aload_n 1, 1) := by decide +kernel
theorem dL_law_374 : decode cL_law 374 = .ok (.aload_n 0, 1) := by decide +kernel
theorem dL_law_375 : decode cL_law 375 = .ok (.iload_n 3, 1) := by decide +kernel
theorem dL_law_376 : decode cL_law 376 = .ok (.iconst 1, 1) := by decide +kernel
theorem dL_law_377 : decode cL_law 377 = .ok (.iadd, 1) := by decide +kernel
theorem dL_law_378 : decode cL_law 378 = .ok (.iaload, 1) := by decide +kernel
theorem dL_law_379 : decode cL_law 379 = .ok (.aload_n 0, 1) := by decide +kernel
theorem dL_law_380 : decode cL_law 380 = .ok (.iload_n 3, 1) := by decide +kernel
theorem dL_law_381 : decode cL_law 381 = .ok (.iconst 2, 1) := by decide +kernel
theorem dL_law_382 : decode cL_law 382 = .ok (.iadd, 1) := by decide +kernel
theorem dL_law_383 : decode cL_law 383 = .ok (.iaload, 1) := by decide +kernel
theorem dL_law_384 : decode cL_law 384 = .ok (.invokevirtual 43, 3) := by decide +kernel
theorem dL_law_387 : decode cL_law 387 = .ok (.aload_n 2, 1) := by decide +kernel
theorem dL_law_388 : decode cL_law 388 = .ok (.aload_n 0, 1) := by decide +kernel
theorem dL_law_389 : decode cL_law 389 = .ok (.iload_n 3, 1) := by decide +kernel
theorem dL_law_390 : decode cL_law 390 = .ok (.iconst 1, 1) := by decide +kernel
theorem dL_law_391 : decode cL_law 391 = .ok (.iadd, 1) := by decide +kernel
theorem dL_law_392 : decode cL_law 392 = .ok (.iaload, 1) := by decide +kernel
theorem dL_law_393 : decode cL_law 393 = .ok (.aload_n 0, 1) := by decide +kernel
theorem dL_law_394 : decode cL_law 394 = .ok (.iload_n 3, 1) := by decide +kernel
theorem dL_law_395 : decode cL_law 395 = .ok (.iconst 2, 1) := by decide +kernel
theorem dL_law_396 : decode cL_law 396 = .ok (.iadd, 1) := by decide +kernel
theorem dL_law_397 : decode cL_law 397 = .ok (.iaload, 1) := by decide +kernel
theorem dL_law_398 : decode cL_law 398 = .ok (.invokevirtual 46, 3) := by decide +kernel
theorem dL_law_401 : decode cL_law 401 = .ok (.if_icmp .eq 444, 3) := by decide +kernel
theorem dL_law_404 : decode cL_law 404 = .ok (.iconst 0, 1) := by decide +kernel
theorem dL_law_405 : decode cL_law 405 = .ok (.ireturn, 1) := by decide +kernel
theorem dL_law_406 : decode cL_law 406 = .ok (.aload_n 1, 1) := by decide +kernel
theorem dL_law_407 : decode cL_law 407 = .ok (.aload_n 0, 1) := by decide +kernel
theorem dL_law_408 : decode cL_law 408 = .ok (.iload_n 3, 1) := by decide +kernel
theorem dL_law_409 : decode cL_law 409 = .ok (.iconst 1, 1) := by decide +kernel
theorem dL_law_410 : decode cL_law 410 = .ok (.iadd, 1) := by decide +kernel
theorem dL_law_411 : decode cL_law 411 = .ok (.iaload, 1) := by decide +kernel
theorem dL_law_412 : decode cL_law 412 = .ok (.aload_n 0, 1) := by decide +kernel
theorem dL_law_413 : decode cL_law 413 = .ok (.iload_n 3, 1) := by decide +kernel
theorem dL_law_414 : decode cL_law 414 = .ok (.iconst 2, 1) := by decide +kernel
theorem dL_law_415 : decode cL_law 415 = .ok (.iadd, 1) := by decide +kernel
theorem dL_law_416 : decode cL_law 416 = .ok (.iaload, 1) := by decide +kernel
theorem dL_law_417 : decode cL_law 417 = .ok (.invokevirtual 47, 3) := by decide +kernel
theorem dL_law_420 : decode cL_law 420 = .ok (.aload_n 2, 1) := by decide +kernel
theorem dL_law_421 : decode cL_law 421 = .ok (.aload_n 0, 1) := by decide +kernel
theorem dL_law_422 : decode cL_law 422 = .ok (.iload_n 3, 1) := by decide +kernel
theorem dL_law_423 : decode cL_law 423 = .ok (.iconst 1, 1) := by decide +kernel
theorem dL_law_424 : decode cL_law 424 = .ok (.iadd, 1) := by decide +kernel
theorem dL_law_425 : decode cL_law 425 = .ok (.iaload, 1) := by decide +kernel
theorem dL_law_426 : decode cL_law 426 = .ok (.aload_n 0, 1) := by decide +kernel
theorem dL_law_427 : decode cL_law 427 = .ok (.iload_n 3, 1) := by decide +kernel
theorem dL_law_428 : decode cL_law 428 = .ok (.iconst 2, 1) := by decide +kernel
theorem dL_law_429 : decode cL_law 429 = .ok (.iadd, 1) := by decide +kernel
theorem dL_law_430 : decode cL_law 430 = .ok (.iaload, 1) := by decide +kernel
theorem dL_law_431 : decode cL_law 431 = .ok (.invokevirtual 50, 3) := by decide +kernel
theorem dL_law_434 : decode cL_law 434 = .ok (.if_icmp .eq 411, 3) := by decide +kernel
theorem dL_law_437 : decode cL_law 437 = .ok (.iconst 0, 1) := by decide +kernel
theorem dL_law_438 : decode cL_law 438 = .ok (.ireturn, 1) := by decide +kernel
theorem dL_law_439 : decode cL_law 439 = .ok (.aload_n 1, 1) := by decide +kernel
theorem dL_law_440 : decode cL_law 440 = .ok (.aload_n 0, 1) := by decide +kernel
theorem dL_law_441 : decode cL_law 441 = .ok (.iload_n 3, 1) := by decide +kernel
theorem dL_law_442 : decode cL_law 442 = .ok (.iconst 1, 1) := by decide +kernel
theorem dL_law_443 : decode cL_law 443 = .ok (.iadd, 1) := by decide +kernel
theorem dL_law_444 : decode cL_law 444 = .ok (.iaload, 1) := by decide +kernel
theorem dL_law_445 : decode cL_law 445 = .ok (.aload_n 0, 1) := by decide +kernel
theorem dL_law_446 : decode cL_law 446 = .ok (.iload_n 3, 1) := by decide +kernel
theorem dL_law_447 : decode cL_law 447 = .ok (.iconst 2, 1) := by decide +kernel
theorem dL_law_448 : decode cL_law 448 = .ok (.iadd, 1) := by decide +kernel
theorem dL_law_449 : decode cL_law 449 = .ok (.iaload, 1) := by decide +kernel
theorem dL_law_450 : decode cL_law 450 = .ok (.aload_n 0, 1) := by decide +kernel
theorem dL_law_451 : decode cL_law 451 = .ok (.iload_n 3, 1) := by decide +kernel
theorem dL_law_452 : decode cL_law 452 = .ok (.iconst 3, 1) := by decide +kernel
theorem dL_law_453 : decode cL_law 453 = .ok (.iadd, 1) := by decide +kernel
theorem dL_law_454 : decode cL_law 454 = .ok (.iaload, 1) := by decide +kernel
theorem dL_law_455 : decode cL_law 455 = .ok (.invokevirtual 51, 3) := by decide +kernel
theorem dL_law_458 : decode cL_law 458 = .ok (.aload_n 2, 1) := by decide +kernel
theorem dL_law_459 : decode cL_law 459 = .ok (.aload_n 0, 1) := by decide +kernel
theorem dL_law_460 : decode cL_law 460 = .ok (.iload_n 3, 1) := by decide +kernel
theorem dL_law_461 : decode cL_law 461 = .ok (.iconst 1, 1) := by decide +kernel
theorem dL_law_462 : decode cL_law 462 = .ok (.iadd, 1) := by decide +kernel
theorem dL_law_463 : decode cL_law 463 = .ok (.iaload, 1) := by decide +kernel
theorem dL_law_464 : decode cL_law 464 = .ok (.aload_n 0, 1) := by decide +kernel
theorem dL_law_465 : decode cL_law 465 = .ok (.iload_n 3, 1) := by decide +kernel
theorem dL_law_466 : decode cL_law 466 = .ok (.iconst 2, 1) := by decide +kernel
theorem dL_law_467 : decode cL_law 467 = .ok (.iadd, 1) := by decide +kernel
theorem dL_law_468 : decode cL_law 468 = .ok (.iaload, 1) := by decide +kernel
theorem dL_law_469 : decode cL_law 469 = .ok (.aload_n 0, 1) := by decide +kernel
theorem dL_law_470 : decode cL_law 470 = .ok (.iload_n 3, 1) := by decide +kernel
theorem dL_law_471 : decode cL_law 471 = .ok (.iconst 3, 1) := by decide +kernel
theorem dL_law_472 : decode cL_law 472 = .ok (.iadd, 1) := by decide +kernel
theorem dL_law_473 : decode cL_law 473 = .ok (.iaload, 1) := by decide +kernel
theorem dL_law_474 : decode cL_law 474 = .ok (.invokevirtual 54, 3) := by decide +kernel
theorem dL_law_477 : decode cL_law 477 = .ok (.if_icmp .eq 368, 3) := by decide +kernel
theorem dL_law_480 : decode cL_law 480 = .ok (.iconst 0, 1) := by decide +kernel
theorem dL_law_481 : decode cL_law 481 = .ok (.ireturn, 1) := by decide +kernel
theorem dL_law_482 : decode cL_law 482 = .ok (.aload_n 1, 1) := by decide +kernel
theorem dL_law_483 : decode cL_law 483 = .ok (.aload_n 0, 1) := by decide +kernel
theorem dL_law_484 : decode cL_law 484 = .ok (.iload_n 3, 1) := by decide +kernel
theorem dL_law_485 : decode cL_law 485 = .ok (.iconst 1, 1) := by decide +kernel
theorem dL_law_486 : decode cL_law 486 = .ok (.iadd, 1) := by decide +kernel
theorem dL_law_487 : decode cL_law 487 = .ok (.iaload, 1) := by decide +kernel
theorem dL_law_488 : decode cL_law 488 = .ok (.aload_n 0, 1) := by decide +kernel
theorem dL_law_489 : decode cL_law 489 = .ok (.iload_n 3, 1) := by decide +kernel
theorem dL_law_490 : decode cL_law 490 = .ok (.iconst 2, 1) := by decide +kernel
theorem dL_law_491 : decode cL_law 491 = .ok (.iadd, 1) := by decide +kernel
theorem dL_law_492 : decode cL_law 492 = .ok (.iaload, 1) := by decide +kernel
theorem dL_law_493 : decode cL_law 493 = .ok (.aload_n 0, 1) := by decide +kernel
theorem dL_law_494 : decode cL_law 494 = .ok (.iload_n 3, 1) := by decide +kernel
theorem dL_law_495 : decode cL_law 495 = .ok (.iconst 3, 1) := by decide +kernel
theorem dL_law_496 : decode cL_law 496 = .ok (.iadd, 1) := by decide +kernel
theorem dL_law_497 : decode cL_law 497 = .ok (.iaload, 1) := by decide +kernel
theorem dL_law_498 : decode cL_law 498 = .ok (.invokevirtual 55, 3) := by decide +kernel
theorem dL_law_501 : decode cL_law 501 = .ok (.aload_n 2, 1) := by decide +kernel
theorem dL_law_502 : decode cL_law 502 = .ok (.aload_n 0, 1) := by decide +kernel
theorem dL_law_503 : decode cL_law 503 = .ok (.iload_n 3, 1) := by decide +kernel
theorem dL_law_504 : decode cL_law 504 = .ok (.iconst 1, 1) := by decide +kernel
theorem dL_law_505 : decode cL_law 505 = .ok (.iadd, 1) := by decide +kernel
theorem dL_law_506 : decode cL_law 506 = .ok (.iaload, 1) := by decide +kernel
theorem dL_law_507 : decode cL_law 507 = .ok (.aload_n 0, 1) := by decide +kernel
theorem dL_law_508 : decode cL_law 508 = .ok (.iload_n 3, 1) := by decide +kernel
theorem dL_law_509 : decode cL_law 509 = .ok (.iconst 2, 1) := by decide +kernel
theorem dL_law_510 : decode cL_law 510 = .ok (.iadd, 1) := by decide +kernel
theorem dL_law_511 : decode cL_law 511 = .ok (.iaload, 1) := by decide +kernel
theorem dL_law_512 : decode cL_law 512 = .ok (.aload_n 0, 1) := by decide +kernel
theorem dL_law_513 : decode cL_law 513 = .ok (.iload_n 3, 1) := by decide +kernel
theorem dL_law_514 : decode cL_law 514 = .ok (.iconst 3, 1) := by decide +kernel
theorem dL_law_515 : decode cL_law 515 = .ok (.iadd, 1) := by decide +kernel
theorem dL_law_516 : decode cL_law 516 = .ok (.iaload, 1) := by decide +kernel
theorem dL_law_517 : decode cL_law 517 = .ok (.invokevirtual 58, 3) := by decide +kernel
theorem dL_law_520 : decode cL_law 520 = .ok (.if_icmp .eq 325, 3) := by decide +kernel
theorem dL_law_523 : decode cL_law 523 = .ok (.iconst 0, 1) := by decide +kernel
theorem dL_law_524 : decode cL_law 524 = .ok (.ireturn, 1) := by decide +kernel
theorem dL_law_525 : decode cL_law 525 = .ok (.aload_n 1, 1) := by decide +kernel
theorem dL_law_526 : decode cL_law 526 = .ok (.aload_n 0, 1) := by decide +kernel
theorem dL_law_527 : decode cL_law 527 = .ok (.iload_n 3, 1) := by decide +kernel
theorem dL_law_528 : decode cL_law 528 = .ok (.iconst 1, 1) := by decide +kernel
theorem dL_law_529 : decode cL_law 529 = .ok (.iadd, 1) := by decide +kernel
theorem dL_law_530 : decode cL_law 530 = .ok (.iaload, 1) := by decide +kernel
theorem dL_law_531 : decode cL_law 531 = .ok (.invokevirtual 59, 3) := by decide +kernel
theorem dL_law_534 : decode cL_law 534 = .ok (.aload_n 2, 1) := by decide +kernel
theorem dL_law_535 : decode cL_law 535 = .ok (.aload_n 0, 1) := by decide +kernel
theorem dL_law_536 : decode cL_law 536 = .ok (.iload_n 3, 1) := by decide +kernel
theorem dL_law_537 : decode cL_law 537 = .ok (.iconst 1, 1) := by decide +kernel
theorem dL_law_538 : decode cL_law 538 = .ok (.iadd, 1) := by decide +kernel
theorem dL_law_539 : decode cL_law 539 = .ok (.iaload, 1) := by decide +kernel
theorem dL_law_540 : decode cL_law 540 = .ok (.invokevirtual 63, 3) := by decide +kernel
theorem dL_law_543 : decode cL_law 543 = .ok (.if_icmp .eq 302, 3) := by decide +kernel
theorem dL_law_546 : decode cL_law 546 = .ok (.iconst 0, 1) := by decide +kernel
theorem dL_law_547 : decode cL_law 547 = .ok (.ireturn, 1) := by decide +kernel
theorem dL_law_548 : decode cL_law 548 = .ok (.aload_n 1, 1) := by decide +kernel
theorem dL_law_549 : decode cL_law 549 = .ok (.aload_n 0, 1) := by decide +kernel
theorem dL_law_550 : decode cL_law 550 = .ok (.iload_n 3, 1) := by decide +kernel
theorem dL_law_551 : decode cL_law 551 = .ok (.iconst 1, 1) := by decide +kernel
theorem dL_law_552 : decode cL_law 552 = .ok (.iadd, 1) := by decide +kernel
theorem dL_law_553 : decode cL_law 553 = .ok (.iaload, 1) := by decide +kernel
theorem dL_law_554 : decode cL_law 554 = .ok (.aload_n 0, 1) := by decide +kernel
theorem dL_law_555 : decode cL_law 555 = .ok (.iload_n 3, 1) := by decide +kernel
theorem dL_law_556 : decode cL_law 556 = .ok (.iconst 2, 1) := by decide +kernel
theorem dL_law_557 : decode cL_law 557 = .ok (.iadd, 1) := by decide +kernel
theorem dL_law_558 : decode cL_law 558 = .ok (.iaload, 1) := by decide +kernel
theorem dL_law_559 : decode cL_law 559 = .ok (.invokevirtual 64, 3) := by decide +kernel
theorem dL_law_562 : decode cL_law 562 = .ok (.aload_n 2, 1) := by decide +kernel
theorem dL_law_563 : decode cL_law 563 = .ok (.aload_n 0, 1) := by decide +kernel
theorem dL_law_564 : decode cL_law 564 = .ok (.iload_n 3, 1) := by decide +kernel
theorem dL_law_565 : decode cL_law 565 = .ok (.iconst 1, 1) := by decide +kernel
theorem dL_law_566 : decode cL_law 566 = .ok (.iadd, 1) := by decide +kernel
theorem dL_law_567 : decode cL_law 567 = .ok (.iaload, 1) := by decide +kernel
theorem dL_law_568 : decode cL_law 568 = .ok (.aload_n 0, 1) := by decide +kernel
theorem dL_law_569 : decode cL_law 569 = .ok (.iload_n 3, 1) := by decide +kernel
theorem dL_law_570 : decode cL_law 570 = .ok (.iconst 2, 1) := by decide +kernel
theorem dL_law_571 : decode cL_law 571 = .ok (.iadd, 1) := by decide +kernel
theorem dL_law_572 : decode cL_law 572 = .ok (.iaload, 1) := by decide +kernel
theorem dL_law_573 : decode cL_law 573 = .ok (.invokevirtual 67, 3) := by decide +kernel
theorem dL_law_576 : decode cL_law 576 = .ok (.if_icmp .eq 269, 3) := by decide +kernel
theorem dL_law_579 : decode cL_law 579 = .ok (.iconst 0, 1) := by decide +kernel
theorem dL_law_580 : decode cL_law 580 = .ok (.ireturn, 1) := by decide +kernel
theorem dL_law_581 : decode cL_law 581 = .ok (.aload_n 1, 1) := by decide +kernel
theorem dL_law_582 : decode cL_law 582 = .ok (.aload_n 0, 1) := by decide +kernel
theorem dL_law_583 : decode cL_law 583 = .ok (.iload_n 3, 1) := by decide +kernel
theorem dL_law_584 : decode cL_law 584 = .ok (.iconst 1, 1) := by decide +kernel
theorem dL_law_585 : decode cL_law 585 = .ok (.iadd, 1) := by decide +kernel
theorem dL_law_586 : decode cL_law 586 = .ok (.iaload, 1) := by decide +kernel
theorem dL_law_587 : decode cL_law 587 = .ok (.invokevirtual 68, 3) := by decide +kernel
theorem dL_law_590 : decode cL_law 590 = .ok (.aload_n 2, 1) := by decide +kernel
theorem dL_law_591 : decode cL_law 591 = .ok (.aload_n 0, 1) := by decide +kernel
theorem dL_law_592 : decode cL_law 592 = .ok (.iload_n 3, 1) := by decide +kernel
theorem dL_law_593 : decode cL_law 593 = .ok (.iconst 1, 1) := by decide +kernel
theorem dL_law_594 : decode cL_law 594 = .ok (.iadd, 1) := by decide +kernel
theorem dL_law_595 : decode cL_law 595 = .ok (.iaload, 1) := by decide +kernel
theorem dL_law_596 : decode cL_law 596 = .ok (.invokevirtual 71, 3) := by decide +kernel
theorem dL_law_599 : decode cL_law 599 = .ok (.if_icmp .eq 246, 3) := by decide +kernel
theorem dL_law_602 : decode cL_law 602 = .ok (.iconst 0, 1) := by decide +kernel
theorem dL_law_603 : decode cL_law 603 = .ok (.ireturn, 1) := by decide +kernel
theorem dL_law_604 : decode cL_law 604 = .ok (.aload_n 1, 1) := by decide +kernel
theorem dL_law_605 : decode cL_law 605 = .ok (.aload_n 0, 1) := by decide +kernel
theorem dL_law_606 : decode cL_law 606 = .ok (.iload_n 3, 1) := by decide +kernel
theorem dL_law_607 : decode cL_law 607 = .ok (.iconst 1, 1) := by decide +kernel
theorem dL_law_608 : decode cL_law 608 = .ok (.iadd, 1) := by decide +kernel
theorem dL_law_609 : decode cL_law 609 = .ok (.iaload, 1) := by decide +kernel
theorem dL_law_610 : decode cL_law 610 = .ok (.aload_n 0, 1) := by decide +kernel
theorem dL_law_611 : decode cL_law 611 = .ok (.iload_n 3, 1) := by decide +kernel
theorem dL_law_612 : decode cL_law 612 = .ok (.iconst 2, 1) := by decide +kernel
theorem dL_law_613 : decode cL_law 613 = .ok (.iadd, 1) := by decide +kernel
theorem dL_law_614 : decode cL_law 614 = .ok (.iaload, 1) := by decide +kernel
theorem dL_law_615 : decode cL_law 615 = .ok (.invokevirtual 72, 3) := by decide +kernel
theorem dL_law_618 : decode cL_law 618 = .ok (.aload_n 2, 1) := by decide +kernel
theorem dL_law_619 : decode cL_law 619 = .ok (.aload_n 0, 1) := by decide +kernel
theorem dL_law_620 : decode cL_law 620 = .ok (.iload_n 3, 1) := by decide +kernel
theorem dL_law_621 : decode cL_law 621 = .ok (.iconst 1, 1) := by decide +kernel
theorem dL_law_622 : decode cL_law 622 = .ok (.iadd, 1) := by decide +kernel
theorem dL_law_623 : decode cL_law 623 = .ok (.iaload, 1) := by decide +kernel
theorem dL_law_624 : decode cL_law 624 = .ok (.aload_n 0, 1) := by decide +kernel
theorem dL_law_625 : decode cL_law 625 = .ok (.iload_n 3, 1) := by decide +kernel
theorem dL_law_626 : decode cL_law 626 = .ok (.iconst 2, 1) := by decide +kernel
theorem dL_law_627 : decode cL_law 627 = .ok (.iadd, 1) := by decide +kernel
theorem dL_law_628 : decode cL_law 628 = .ok (.iaload, 1) := by decide +kernel
theorem dL_law_629 : decode cL_law 629 = .ok (.invokevirtual 75, 3) := by decide +kernel
theorem dL_law_632 : decode cL_law 632 = .ok (.if_icmp .eq 213, 3) := by decide +kernel
theorem dL_law_635 : decode cL_law 635 = .ok (.iconst 0, 1) := by decide +kernel
theorem dL_law_636 : decode cL_law 636 = .ok (.ireturn, 1) := by decide +kernel
theorem dL_law_637 : decode cL_law 637 = .ok (.aload_n 1, 1) := by decide +kernel
theorem dL_law_638 : decode cL_law 638 = .ok (.aload_n 0, 1) := by decide +kernel
theorem dL_law_639 : decode cL_law 639 = .ok (.iload_n 3, 1) := by decide +kernel
theorem dL_law_640 : decode cL_law 640 = .ok (.iconst 1, 1) := by decide +kernel
theorem dL_law_641 : decode cL_law 641 = .ok (.iadd, 1) := by decide +kernel
theorem dL_law_642 : decode cL_law 642 = .ok (.iaload, 1) := by decide +kernel
theorem dL_law_643 : decode cL_law 643 = .ok (.aload_n 0, 1) := by decide +kernel
theorem dL_law_644 : decode cL_law 644 = .ok (.iload_n 3, 1) := by decide +kernel
theorem dL_law_645 : decode cL_law 645 = .ok (.iconst 2, 1) := by decide +kernel
theorem dL_law_646 : decode cL_law 646 = .ok (.iadd, 1) := by decide +kernel
theorem dL_law_647 : decode cL_law 647 = .ok (.iaload, 1) := by decide +kernel
theorem dL_law_648 : decode cL_law 648 = .ok (.aload_n 0, 1) := by decide +kernel
theorem dL_law_649 : decode cL_law 649 = .ok (.iload_n 3, 1) := by decide +kernel
theorem dL_law_650 : decode cL_law 650 = .ok (.iconst 3, 1) := by decide +kernel
theorem dL_law_651 : decode cL_law 651 = .ok (.iadd, 1) := by decide +kernel
theorem dL_law_652 : decode cL_law 652 = .ok (.iaload, 1) := by decide +kernel
theorem dL_law_653 : decode cL_law 653 = .ok (.invokevirtual 76, 3) := by decide +kernel
theorem dL_law_656 : decode cL_law 656 = .ok (.aload_n 2, 1) := by decide +kernel
theorem dL_law_657 : decode cL_law 657 = .ok (.aload_n 0, 1) := by decide +kernel
theorem dL_law_658 : decode cL_law 658 = .ok (.iload_n 3, 1) := by decide +kernel
theorem dL_law_659 : decode cL_law 659 = .ok (.iconst 1, 1) := by decide +kernel
theorem dL_law_660 : decode cL_law 660 = .ok (.iadd, 1) := by decide +kernel
theorem dL_law_661 : decode cL_law 661 = .ok (.iaload, 1) := by decide +kernel
theorem dL_law_662 : decode cL_law 662 = .ok (.aload_n 0, 1) := by decide +kernel
theorem dL_law_663 : decode cL_law 663 = .ok (.iload_n 3, 1) := by decide +kernel
theorem dL_law_664 : decode cL_law 664 = .ok (.iconst 2, 1) := by decide +kernel
theorem dL_law_665 : decode cL_law 665 = .ok (.iadd, 1) := by decide +kernel
theorem dL_law_666 : decode cL_law 666 = .ok (.iaload, 1) := by decide +kernel
theorem dL_law_667 : decode cL_law 667 = .ok (.aload_n 0, 1) := by decide +kernel
theorem dL_law_668 : decode cL_law 668 = .ok (.iload_n 3, 1) := by decide +kernel
theorem dL_law_669 : decode cL_law 669 = .ok (.iconst 3, 1) := by decide +kernel
theorem dL_law_670 : decode cL_law 670 = .ok (.iadd, 1) := by decide +kernel
theorem dL_law_671 : decode cL_law 671 = .ok (.iaload, 1) := by decide +kernel
theorem dL_law_672 : decode cL_law 672 = .ok (.invokevirtual 79, 3) := by decide +kernel
theorem dL_law_675 : decode cL_law 675 = .ok (.if_icmp .eq 170, 3) := by decide +kernel
theorem dL_law_678 : decode cL_law 678 = .ok (.iconst 0, 1) := by decide +kernel
theorem dL_law_679 : decode cL_law 679 = .ok (.ireturn, 1) := by decide +kernel
theorem dL_law_680 : decode cL_law 680 = .ok (.aload_n 1, 1) := by decide +kernel
theorem dL_law_681 : decode cL_law 681 = .ok (.aload_n 0, 1) := by decide +kernel
theorem dL_law_682 : decode cL_law 682 = .ok (.iload_n 3, 1) := by decide +kernel
theorem dL_law_683 : decode cL_law 683 = .ok (.iconst 1, 1) := by decide +kernel
theorem dL_law_684 : decode cL_law 684 = .ok (.iadd, 1) := by decide +kernel
theorem dL_law_685 : decode cL_law 685 = .ok (.iaload, 1) := by decide +kernel
theorem dL_law_686 : decode cL_law 686 = .ok (.aload_n 0, 1) := by decide +kernel
theorem dL_law_687 : decode cL_law 687 = .ok (.iload_n 3, 1) := by decide +kernel
theorem dL_law_688 : decode cL_law 688 = .ok (.iconst 2, 1) := by decide +kernel
theorem dL_law_689 : decode cL_law 689 = .ok (.iadd, 1) := by decide +kernel
theorem dL_law_690 : decode cL_law 690 = .ok (.iaload, 1) := by decide +kernel
theorem dL_law_691 : decode cL_law 691 = .ok (.aload_n 0, 1) := by decide +kernel
theorem dL_law_692 : decode cL_law 692 = .ok (.iload_n 3, 1) := by decide +kernel
theorem dL_law_693 : decode cL_law 693 = .ok (.iconst 3, 1) := by decide +kernel
theorem dL_law_694 : decode cL_law 694 = .ok (.iadd, 1) := by decide +kernel
theorem dL_law_695 : decode cL_law 695 = .ok (.iaload, 1) := by decide +kernel
theorem dL_law_696 : decode cL_law 696 = .ok (.aload_n 0, 1) := by decide +kernel
theorem dL_law_697 : decode cL_law 697 = .ok (.iload_n 3, 1) := by decide +kernel
theorem dL_law_698 : decode cL_law 698 = .ok (.iconst 4, 1) := by decide +kernel
theorem dL_law_699 : decode cL_law 699 = .ok (.iadd, 1) := by decide +kernel
theorem dL_law_700 : decode cL_law 700 = .ok (.iaload, 1) := by decide +kernel
theorem dL_law_701 : decode cL_law 701 = .ok (.invokevirtual 80, 3) := by decide +kernel
theorem dL_law_704 : decode cL_law 704 = .ok (.aload_n 2, 1) := by decide +kernel
theorem dL_law_705 : decode cL_law 705 = .ok (.aload_n 0, 1) := by decide +kernel
theorem dL_law_706 : decode cL_law 706 = .ok (.iload_n 3, 1) := by decide +kernel
theorem dL_law_707 : decode cL_law 707 = .ok (.iconst 1, 1) := by decide +kernel
theorem dL_law_708 : decode cL_law 708 = .ok (.iadd, 1) := by decide +kernel
theorem dL_law_709 : decode cL_law 709 = .ok (.iaload, 1) := by decide +kernel
theorem dL_law_710 : decode cL_law 710 = .ok (.aload_n 0, 1) := by decide +kernel
theorem dL_law_711 : decode cL_law 711 = .ok (.iload_n 3, 1) := by decide +kernel
theorem dL_law_712 : decode cL_law 712 = .ok (.iconst 2, 1) := by decide +kernel
theorem dL_law_713 : decode cL_law 713 = .ok (.iadd, 1) := by decide +kernel
theorem dL_law_714 : decode cL_law 714 = .ok (.iaload, 1) := by decide +kernel
theorem dL_law_715 : decode cL_law 715 = .ok (.aload_n 0, 1) := by decide +kernel
theorem dL_law_716 : decode cL_law 716 = .ok (.iload_n 3, 1) := by decide +kernel
theorem dL_law_717 : decode cL_law 717 = .ok (.iconst 3, 1) := by decide +kernel
theorem dL_law_718 : decode cL_law 718 = .ok (.iadd, 1) := by decide +kernel
theorem dL_law_719 : decode cL_law 719 = .ok (.iaload, 1) := by decide +kernel
theorem dL_law_720 : decode cL_law 720 = .ok (.aload_n 0, 1) := by decide +kernel
theorem dL_law_721 : decode cL_law 721 = .ok (.iload_n 3, 1) := by decide +kernel
theorem dL_law_722 : decode cL_law 722 = .ok (.iconst 4, 1) := by decide +kernel
theorem dL_law_723 : decode cL_law 723 = .ok (.iadd, 1) := by decide +kernel
theorem dL_law_724 : decode cL_law 724 = .ok (.iaload, 1) := by decide +kernel
theorem dL_law_725 : decode cL_law 725 = .ok (.invokevirtual 84, 3) := by decide +kernel
theorem dL_law_728 : decode cL_law 728 = .ok (.if_icmp .eq 117, 3) := by decide +kernel
theorem dL_law_731 : decode cL_law 731 = .ok (.iconst 0, 1) := by decide +kernel
theorem dL_law_732 : decode cL_law 732 = .ok (.ireturn, 1) := by decide +kernel
theorem dL_law_733 : decode cL_law 733 = .ok (.aload_n 1, 1) := by decide +kernel
theorem dL_law_734 : decode cL_law 734 = .ok (.aload_n 0, 1) := by decide +kernel
theorem dL_law_735 : decode cL_law 735 = .ok (.iload_n 3, 1) := by decide +kernel
theorem dL_law_736 : decode cL_law 736 = .ok (.iconst 1, 1) := by decide +kernel
theorem dL_law_737 : decode cL_law 737 = .ok (.iadd, 1) := by decide +kernel
theorem dL_law_738 : decode cL_law 738 = .ok (.iaload, 1) := by decide +kernel
theorem dL_law_739 : decode cL_law 739 = .ok (.invokevirtual 85, 3) := by decide +kernel
theorem dL_law_742 : decode cL_law 742 = .ok (.aload_n 2, 1) := by decide +kernel
theorem dL_law_743 : decode cL_law 743 = .ok (.aload_n 0, 1) := by decide +kernel
theorem dL_law_744 : decode cL_law 744 = .ok (.iload_n 3, 1) := by decide +kernel
theorem dL_law_745 : decode cL_law 745 = .ok (.iconst 1, 1) := by decide +kernel
theorem dL_law_746 : decode cL_law 746 = .ok (.iadd, 1) := by decide +kernel
theorem dL_law_747 : decode cL_law 747 = .ok (.iaload, 1) := by decide +kernel
theorem dL_law_748 : decode cL_law 748 = .ok (.invokevirtual 88, 3) := by decide +kernel
theorem dL_law_751 : decode cL_law 751 = .ok (.if_icmp .eq 94, 3) := by decide +kernel
theorem dL_law_754 : decode cL_law 754 = .ok (.iconst 0, 1) := by decide +kernel
theorem dL_law_755 : decode cL_law 755 = .ok (.ireturn, 1) := by decide +kernel
theorem dL_law_756 : decode cL_law 756 = .ok (.aload_n 1, 1) := by decide +kernel
theorem dL_law_757 : decode cL_law 757 = .ok (.aload_n 0, 1) := by decide +kernel
theorem dL_law_758 : decode cL_law 758 = .ok (.iload_n 3, 1) := by decide +kernel
theorem dL_law_759 : decode cL_law 759 = .ok (.iconst 1, 1) := by decide +kernel
theorem dL_law_760 : decode cL_law 760 = .ok (.iadd, 1) := by decide +kernel
theorem dL_law_761 : decode cL_law 761 = .ok (.iaload, 1) := by decide +kernel
theorem dL_law_762 : decode cL_law 762 = .ok (.invokevirtual 89, 3) := by decide +kernel
theorem dL_law_765 : decode cL_law 765 = .ok (.aload_n 2, 1) := by decide +kernel
theorem dL_law_766 : decode cL_law 766 = .ok (.aload_n 0, 1) := by decide +kernel
theorem dL_law_767 : decode cL_law 767 = .ok (.iload_n 3, 1) := by decide +kernel
theorem dL_law_768 : decode cL_law 768 = .ok (.iconst 1, 1) := by decide +kernel
theorem dL_law_769 : decode cL_law 769 = .ok (.iadd, 1) := by decide +kernel
theorem dL_law_770 : decode cL_law 770 = .ok (.iaload, 1) := by decide +kernel
theorem dL_law_771 : decode cL_law 771 = .ok (.invokevirtual 92, 3) := by decide +kernel
theorem dL_law_774 : decode cL_law 774 = .ok (.if_icmp .eq 71, 3) := by decide +kernel
theorem dL_law_777 : decode cL_law 777 = .ok (.iconst 0, 1) := by decide +kernel
theorem dL_law_778 : decode cL_law 778 = .ok (.ireturn, 1) := by decide +kernel
theorem dL_law_779 : decode cL_law 779 = .ok (.aload_n 1, 1) := by decide +kernel
theorem dL_law_780 : decode cL_law 780 = .ok (.aload_n 0, 1) := by decide +kernel
theorem dL_law_781 : decode cL_law 781 = .ok (.iload_n 3, 1) := by decide +kernel
theorem dL_law_782 : decode cL_law 782 = .ok (.iconst 1, 1) := by decide +kernel
theorem dL_law_783 : decode cL_law 783 = .ok (.iadd, 1) := by decide +kernel
theorem dL_law_784 : decode cL_law 784 = .ok (.iaload, 1) := by decide +kernel
theorem dL_law_785 : decode cL_law 785 = .ok (.aload_n 0, 1) := by decide +kernel
theorem dL_law_786 : decode cL_law 786 = .ok (.iload_n 3, 1) := by decide +kernel
theorem dL_law_787 : decode cL_law 787 = .ok (.iconst 2, 1) := by decide +kernel
theorem dL_law_788 : decode cL_law 788 = .ok (.iadd, 1) := by decide +kernel
theorem dL_law_789 : decode cL_law 789 = .ok (.iaload, 1) := by decide +kernel
theorem dL_law_790 : decode cL_law 790 = .ok (.invokevirtual 93, 3) := by decide +kernel
theorem dL_law_793 : decode cL_law 793 = .ok (.aload_n 2, 1) := by decide +kernel
theorem dL_law_794 : decode cL_law 794 = .ok (.aload_n 0, 1) := by decide +kernel
theorem dL_law_795 : decode cL_law 795 = .ok (.iload_n 3, 1) := by decide +kernel
theorem dL_law_796 : decode cL_law 796 = .ok (.iconst 1, 1) := by decide +kernel
theorem dL_law_797 : decode cL_law 797 = .ok (.iadd, 1) := by decide +kernel
theorem dL_law_798 : decode cL_law 798 = .ok (.iaload, 1) := by decide +kernel
theorem dL_law_799 : decode cL_law 799 = .ok (.aload_n 0, 1) := by decide +kernel
theorem dL_law_800 : decode cL_law 800 = .ok (.iload_n 3, 1) := by decide +kernel
theorem dL_law_801 : decode cL_law 801 = .ok (.iconst 2, 1) := by decide +kernel
theorem dL_law_802 : decode cL_law 802 = .ok (.iadd, 1) := by decide +kernel
theorem dL_law_803 : decode cL_law 803 = .ok (.iaload, 1) := by decide +kernel
theorem dL_law_804 : decode cL_law 804 = .ok (.invokevirtual 96, 3) := by decide +kernel
theorem dL_law_807 : decode cL_law 807 = .ok (.if_icmp .eq 38, 3) := by decide +kernel
theorem dL_law_810 : decode cL_law 810 = .ok (.iconst 0, 1) := by decide +kernel
theorem dL_law_811 : decode cL_law 811 = .ok (.ireturn, 1) := by decide +kernel
theorem dL_law_812 : decode cL_law 812 = .ok (.aload_n 1, 1) := by decide +kernel
theorem dL_law_813 : decode cL_law 813 = .ok (.aload_n 0, 1) := by decide +kernel
theorem dL_law_814 : decode cL_law 814 = .ok (.iload_n 3, 1) := by decide +kernel
theorem dL_law_815 : decode cL_law 815 = .ok (.iconst 1, 1) := by decide +kernel
theorem dL_law_816 : decode cL_law 816 = .ok (.iadd, 1) := by decide +kernel
theorem dL_law_817 : decode cL_law 817 = .ok (.iaload, 1) := by decide +kernel
theorem dL_law_818 : decode cL_law 818 = .ok (.aload_n 0, 1) := by decide +kernel
theorem dL_law_819 : decode cL_law 819 = .ok (.iload_n 3, 1) := by decide +kernel
theorem dL_law_820 : decode cL_law 820 = .ok (.iconst 2, 1) := by decide +kernel
theorem dL_law_821 : decode cL_law 821 = .ok (.iadd, 1) := by decide +kernel
theorem dL_law_822 : decode cL_law 822 = .ok (.iaload, 1) := by decide +kernel
theorem dL_law_823 : decode cL_law 823 = .ok (.invokevirtual 97, 3) := by decide +kernel
theorem dL_law_826 : decode cL_law 826 = .ok (.aload_n 2, 1) := by decide +kernel
theorem dL_law_827 : decode cL_law 827 = .ok (.aload_n 0, 1) := by decide +kernel
theorem dL_law_828 : decode cL_law 828 = .ok (.iload_n 3, 1) := by decide +kernel
theorem dL_law_829 : decode cL_law 829 = .ok (.iconst 1, 1) := by decide +kernel
theorem dL_law_830 : decode cL_law 830 = .ok (.iadd, 1) := by decide +kernel
theorem dL_law_831 : decode cL_law 831 = .ok (.iaload, 1) := by decide +kernel
theorem dL_law_832 : decode cL_law 832 = .ok (.aload_n 0, 1) := by decide +kernel
theorem dL_law_833 : decode cL_law 833 = .ok (.iload_n 3, 1) := by decide +kernel
theorem dL_law_834 : decode cL_law 834 = .ok (.iconst 2, 1) := by decide +kernel
theorem dL_law_835 : decode cL_law 835 = .ok (.iadd, 1) := by decide +kernel
theorem dL_law_836 : decode cL_law 836 = .ok (.iaload, 1) := by decide +kernel
theorem dL_law_837 : decode cL_law 837 = .ok (.invokevirtual 100, 3) := by decide +kernel
theorem dL_law_840 : decode cL_law 840 = .ok (.if_icmp .eq 5, 3) := by decide +kernel
theorem dL_law_843 : decode cL_law 843 = .ok (.iconst 0, 1) := by decide +kernel
theorem dL_law_844 : decode cL_law 844 = .ok (.ireturn, 1) := by decide +kernel
theorem dL_law_845 : decode cL_law 845 = .ok (.iinc 3 5, 3) := by decide +kernel
theorem dL_law_848 : decode cL_law 848 = .ok (.goto (-830), 3) := by decide +kernel
theorem dL_law_851 : decode cL_law 851 = .ok (.iconst 1, 1) := by decide +kernel
theorem dL_law_852 : decode cL_law 852 = .ok (.ireturn, 1) := by decide +kernel
abbrev vwCl : List vw_C := [(RX0, TX0, 4), (RX1, TX1, 4), (RX2, TX2, 2), (RX3, TX3, 6), (RX4, TX4, 8), (RX5, TX5, 15)]
