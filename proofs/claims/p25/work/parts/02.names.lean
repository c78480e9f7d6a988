theorem goodIn_r {big : List Cond} (ws : List Cond) (ps : List Nat) (hp : ws = ps.filterMap (fun i => big[i]?)) (h : ws.all goodWord = true) : GoodIn big ws := by
  intro w hw
  have h1 := List.all_eq_true.mp h w hw
  rw [hp] at hw
  obtain ⟨i, -, hi⟩ := List.mem_filterMap.mp hw
  have hm : w ∈ big := by first | exact List.mem_of_getElem? hi | exact List.getElem?_mem hi
  exact ⟨hm, good_of_word h1⟩
theorem goodIn_app {big a b : List Cond} (ha : GoodIn big a) (hb : GoodIn big b) : GoodIn big (a ++ b) := fun w h => (List.mem_append.mp h).elim (ha w) (hb w)
theorem goodIn_ca {big a b : List Cond} {c : Cond} (ha : GoodIn big (c :: a)) (hb : GoodIn big b) : GoodIn big (c :: (a ++ b)) := fun w h => (List.mem_cons.mp h).elim (fun e => ha w (List.mem_cons.mpr (Or.inl e))) (fun h => (List.mem_append.mp h).elim (fun h => ha w (List.mem_cons.mpr (Or.inr h))) (hb w))
theorem goodIn_sub {big ws : List Cond} (hm : ∀ w ∈ ws, w ∈ big) (h : ws.all goodWord = true) : GoodIn big ws := fun w hw => ⟨hm w hw, good_of_word (List.all_eq_true.mp h w hw)⟩
def RX0 : String := "NamePassingComparer$Game"
def TX0 : u_T := fun k => match k with
  | 0 => ("NamePassingComparer$Game", "store", "LNamePassingComparer$Store;", true)
  | _ => ("NamePassingComparer$Game", "worths", "[I", true)
def tyX0 : Nat → FieldType := fun k => match k with
  | 0 => .object "NamePassingComparer$Store"
  | _ => .array .int
abbrev wsX00 : List Cond := u_ws RX0 TX0 2
theorem nmX0 : ∀ a, a < 2 → ∀ b, b < 2 → a ≠ b → (TX0 a).2.1 ≠ (TX0 b).2.1 := by decide +kernel
theorem tyX0_ok : ∀ k, k < 2 → parseFieldDescriptor (TX0 k).2.2.1 = some (tyX0 k) := by decide +kernel
abbrev cX0_init : ByteArray := prog_2_method_1_code
def yX0_init : MethodName := ⟨RX0, "<init>", "(LNamePassingComparer$Store;)V"⟩
abbrev cX0_forget : ByteArray := prog_2_method_2_code
def yX0_forget : MethodName := ⟨RX0, "forget", "(I)V"⟩
abbrev cX0_roundsOf : ByteArray := prog_2_method_3_code
def yX0_roundsOf : MethodName := ⟨RX0, "roundsOf", "(III)I"⟩
abbrev cX0_attackOf : ByteArray := prog_2_method_4_code
def yX0_attackOf : MethodName := ⟨RX0, "attackOf", "(III)I"⟩
abbrev cX0_attackWith : ByteArray := prog_2_method_5_code
def yX0_attackWith : MethodName := ⟨RX0, "attackWith", "(IIII)I"⟩
abbrev cX0_worth : ByteArray := prog_2_method_6_code
def yX0_worth : MethodName := ⟨RX0, "worth", "(IIIII)I"⟩
abbrev cX0_sideWorth : ByteArray := prog_2_method_7_code
def yX0_sideWorth : MethodName := ⟨RX0, "sideWorth", "(IIIII)I"⟩
abbrev cX0_attackWorth : ByteArray := prog_2_method_8_code
def yX0_attackWorth : MethodName := ⟨RX0, "attackWorth", "(IIIIII)I"⟩
abbrev cX0_answerWorth : ByteArray := prog_2_method_9_code
def yX0_answerWorth : MethodName := ⟨RX0, "answerWorth", "(IIIIII)I"⟩
abbrev cX0_agree : ByteArray := prog_2_method_10_code
def yX0_agree : MethodName := ⟨RX0, "agree", "(III)Z"⟩
abbrev cX0_isChosenWith : ByteArray := prog_2_method_11_code
def yX0_isChosenWith : MethodName := ⟨RX0, "isChosenWith", "(II)Z"⟩
abbrev cX0_firstChoice : ByteArray := prog_2_method_12_code
def yX0_firstChoice : MethodName := ⟨RX0, "firstChoice", "(II)I"⟩
abbrev cX0_lastChoice : ByteArray := prog_2_method_13_code
def yX0_lastChoice : MethodName := ⟨RX0, "lastChoice", "(III)I"⟩
abbrev cX0_placeOf : ByteArray := prog_2_method_14_code
def yX0_placeOf : MethodName := ⟨RX0, "placeOf", "(IIII)I"⟩
abbrev cX0_firstPlace : ByteArray := prog_2_method_15_code
def yX0_firstPlace : MethodName := ⟨RX0, "firstPlace", "(I)I"⟩
abbrev cX0_viewOf : ByteArray := prog_2_method_16_code
def yX0_viewOf : MethodName := ⟨RX0, "viewOf", "(I)I"⟩
def RX1 : String := "NamePassingComparer$Received"
def TX1 : u_T := fun k => match k with
  | _ => ("", "", "", false)
def tyX1 : Nat → FieldType := fun k => match k with
  | _ => .int
abbrev wsX10 : List Cond := u_ws RX1 TX1 0
theorem nmX1 : ∀ a, a < 0 → ∀ b, b < 0 → a ≠ b → (TX1 a).2.1 ≠ (TX1 b).2.1 := by decide +kernel
theorem tyX1_ok : ∀ k, k < 0 → parseFieldDescriptor (TX1 k).2.2.1 = some (tyX1 k) := by decide +kernel
abbrev cX1_with : ByteArray := prog_3_method_2_code
def yX1_with : MethodName := ⟨RX1, "with", "(II)I"⟩
abbrev cX1_valueOf : ByteArray := prog_3_method_3_code
def yX1_valueOf : MethodName := ⟨RX1, "valueOf", "(II)I"⟩
abbrev cX1_areEqual : ByteArray := prog_3_method_4_code
def yX1_areEqual : MethodName := ⟨RX1, "areEqual", "(III)Z"⟩
abbrev cX1_nextFresh : ByteArray := prog_3_method_5_code
def yX1_nextFresh : MethodName := ⟨RX1, "nextFresh", "(I)I"⟩
def RX2 : String := "NamePassingComparer$Store"
def TX2 : u_T := fun k => match k with
  | 0 => ("NamePassingComparer$Store", "count", "I", false)
  | 1 => ("NamePassingComparer$Store", "kinds", "[I", true)
  | 2 => ("NamePassingComparer$Store", "channels", "[I", true)
  | 3 => ("NamePassingComparer$Store", "objects", "[I", true)
  | 4 => ("NamePassingComparer$Store", "firstParts", "[I", true)
  | 5 => ("NamePassingComparer$Store", "secondParts", "[I", true)
  | 6 => ("NamePassingComparer$Store", "depths", "[I", true)
  | 7 => ("NamePassingComparer$Store", "breadths", "[I", true)
  | 8 => ("NamePassingComparer$Store", "needs", "[I", true)
  | 9 => ("NamePassingComparer$Store", "lengths", "[I", true)
  | 10 => ("NamePassingComparer$Store", "actions", "[I", true)
  | _ => ("NamePassingComparer$Store", "guards", "[J", true)
def tyX2 : Nat → FieldType := fun k => match k with
  | 0 => .int
  | 1 => .array .int
  | 2 => .array .int
  | 3 => .array .int
  | 4 => .array .int
  | 5 => .array .int
  | 6 => .array .int
  | 7 => .array .int
  | 8 => .array .int
  | 9 => .array .int
  | 10 => .array .int
  | _ => .array .long
abbrev wsX20 : List Cond := u_ws RX2 TX2 12
theorem nmX2 : ∀ a, a < 12 → ∀ b, b < 12 → a ≠ b → (TX2 a).2.1 ≠ (TX2 b).2.1 := by decide +kernel
theorem tyX2_ok : ∀ k, k < 12 → parseFieldDescriptor (TX2 k).2.2.1 = some (tyX2 k) := by decide +kernel
abbrev cX2_init : ByteArray := prog_4_method_1_code
def yX2_init : MethodName := ⟨RX2, "<init>", "()V"⟩
abbrev cX2_lengthsOfNew : ByteArray := prog_4_method_2_code
def yX2_lengthsOfNew : MethodName := ⟨RX2, "lengthsOfNew", "()[I"⟩
abbrev cX2_holds : ByteArray := prog_4_method_3_code
def yX2_holds : MethodName := ⟨RX2, "holds", "(I)Z"⟩
abbrev cX2_isClosed : ByteArray := prog_4_method_4_code
def yX2_isClosed : MethodName := ⟨RX2, "isClosed", "(I)Z"⟩
abbrev cX2_isAction : ByteArray := prog_4_method_5_code
def yX2_isAction : MethodName := ⟨RX2, "isAction", "(I)Z"⟩
abbrev cX2_build : ByteArray := prog_4_method_7_code
def yX2_build : MethodName := ⟨RX2, "build", "(IIIII)I"⟩
abbrev cX2_needFor : ByteArray := prog_4_method_8_code
def yX2_needFor : MethodName := ⟨RX2, "needFor", "(IIIII)I"⟩
abbrev cX2_lengthFor : ByteArray := prog_4_method_9_code
def yX2_lengthFor : MethodName := ⟨RX2, "lengthFor", "(III)I"⟩
abbrev cX2_putActions : ByteArray := prog_4_method_10_code
def yX2_putActions : MethodName := ⟨RX2, "putActions", "(IIIIII)V"⟩
abbrev cX2_copyActions : ByteArray := prog_4_method_11_code
def yX2_copyActions : MethodName := ⟨RX2, "copyActions", "(IIIJ)V"⟩
abbrev cX2_isOpen : ByteArray := prog_4_method_12_code
def yX2_isOpen : MethodName := ⟨RX2, "isOpen", "(JI)Z"⟩
abbrev cX2_actionIn : ByteArray := prog_4_method_13_code
def yX2_actionIn : MethodName := ⟨RX2, "actionIn", "(III)I"⟩
abbrev cX2_movesOf : ByteArray := prog_4_method_14_code
def yX2_movesOf : MethodName := ⟨RX2, "movesOf", "(I)I"⟩
abbrev cX2_headOf : ByteArray := prog_4_method_16_code
def yX2_headOf : MethodName := ⟨RX2, "headOf", "(I)Ljava/lang/String;"⟩
def RX3 : String := "NamePassingComparer"
def TX3 : u_T := fun k => match k with
  | 0 => ("NamePassingComparer", "store", "LNamePassingComparer$Store;", true)
  | _ => ("NamePassingComparer", "game", "LNamePassingComparer$Game;", true)
def tyX3 : Nat → FieldType := fun k => match k with
  | 0 => .object "NamePassingComparer$Store"
  | _ => .object "NamePassingComparer$Game"
abbrev wsX30 : List Cond := u_ws RX3 TX3 2
theorem nmX3 : ∀ a, a < 2 → ∀ b, b < 2 → a ≠ b → (TX3 a).2.1 ≠ (TX3 b).2.1 := by decide +kernel
theorem tyX3_ok : ∀ k, k < 2 → parseFieldDescriptor (TX3 k).2.2.1 = some (tyX3 k) := by decide +kernel
abbrev cX3_init : ByteArray := prog_1_method_1_code
def yX3_init : MethodName := ⟨RX3, "<init>", "()V"⟩
abbrev cX3_tau : ByteArray := prog_1_method_2_code
def yX3_tau : MethodName := ⟨RX3, "tau", "(I)I"⟩
abbrev cX3_output : ByteArray := prog_1_method_3_code
def yX3_output : MethodName := ⟨RX3, "output", "(III)I"⟩
abbrev cX3_input : ByteArray := prog_1_method_4_code
def yX3_input : MethodName := ⟨RX3, "input", "(II)I"⟩
abbrev cX3_match : ByteArray := prog_1_method_5_code
def yX3_match : MethodName := ⟨RX3, "match", "(III)I"⟩
abbrev cX3_sum : ByteArray := prog_1_method_6_code
def yX3_sum : MethodName := ⟨RX3, "sum", "(II)I"⟩
abbrev cX3_removeLast : ByteArray := prog_1_method_7_code
def yX3_removeLast : MethodName := ⟨RX3, "removeLast", "()I"⟩
abbrev cX3_processCount : ByteArray := prog_1_method_8_code
def yX3_processCount : MethodName := ⟨RX3, "processCount", "()I"⟩
abbrev cX3_depthOf : ByteArray := prog_1_method_11_code
def yX3_depthOf : MethodName := ⟨RX3, "depthOf", "(I)I"⟩
abbrev cX3_needOf : ByteArray := prog_1_method_12_code
def yX3_needOf : MethodName := ⟨RX3, "needOf", "(I)I"⟩
abbrev cX3_textLength : ByteArray := prog_1_method_13_code
def yX3_textLength : MethodName := ⟨RX3, "textLength", "(I)I"⟩
abbrev cX3_moveCount : ByteArray := prog_1_method_15_code
def yX3_moveCount : MethodName := ⟨RX3, "moveCount", "(I)I"⟩
abbrev cX3_areRelated : ByteArray := prog_1_method_19_code
def yX3_areRelated : MethodName := ⟨RX3, "areRelated", "(III)I"⟩
abbrev cX3_rounds : ByteArray := prog_1_method_20_code
def yX3_rounds : MethodName := ⟨RX3, "rounds", "(III)I"⟩
abbrev cX3_firstAttack : ByteArray := prog_1_method_21_code
def yX3_firstAttack : MethodName := ⟨RX3, "firstAttack", "(III)I"⟩
abbrev cX3_representative : ByteArray := prog_1_method_22_code
def yX3_representative : MethodName := ⟨RX3, "representative", "(II)I"⟩
abbrev cX3_classCount : ByteArray := prog_1_method_23_code
def yX3_classCount : MethodName := ⟨RX3, "classCount", "(I)I"⟩
abbrev cX3_lowestRelated : ByteArray := prog_1_method_24_code
def yX3_lowestRelated : MethodName := ⟨RX3, "lowestRelated", "(II)I"⟩
abbrev cX3_errorOfPair : ByteArray := prog_1_method_26_code
def yX3_errorOfPair : MethodName := ⟨RX3, "errorOfPair", "(III)I"⟩
abbrev cX3_isName : ByteArray := prog_1_method_27_code
def yX3_isName : MethodName := ⟨RX3, "isName", "(I)Z"⟩
abbrev cX3_isRelation : ByteArray := prog_1_method_28_code
def yX3_isRelation : MethodName := ⟨RX3, "isRelation", "(I)Z"⟩
abbrev cX3_at : ByteArray := prog_1_method_29_code
def yX3_at : MethodName := ⟨RX3, "at", "([II)I"⟩
abbrev cX3_at_ : ByteArray := prog_1_method_30_code
def yX3_at_ : MethodName := ⟨RX3, "at", "([JI)J"⟩
abbrev cX3_put : ByteArray := prog_1_method_31_code
def yX3_put : MethodName := ⟨RX3, "put", "([III)V"⟩
abbrev cX3_put_ : ByteArray := prog_1_method_32_code
def yX3_put_ : MethodName := ⟨RX3, "put", "([JIJ)V"⟩
def RX4 : String := "NamePassingComparerModel"
def TX4 : u_T := fun k => match k with
  | _ => ("", "", "", false)
def tyX4 : Nat → FieldType := fun k => match k with
  | _ => .int
abbrev wsX40 : List Cond := u_ws RX4 TX4 0
theorem nmX4 : ∀ a, a < 0 → ∀ b, b < 0 → a ≠ b → (TX4 a).2.1 ≠ (TX4 b).2.1 := by decide +kernel
theorem tyX4_ok : ∀ k, k < 0 → parseFieldDescriptor (TX4 k).2.2.1 = some (tyX4 k) := by decide +kernel
def RJ9 : String := "java/lang/Math"
def TJ9 : u_T := fun k => match k with
  | _ => ("", "", "", false)
def tyJ9 : Nat → FieldType := fun k => match k with
  | _ => .int
abbrev wsJ90 : List Cond := u_ws RJ9 TJ9 0
theorem nmJ9 : ∀ a, a < 0 → ∀ b, b < 0 → a ≠ b → (TJ9 a).2.1 ≠ (TJ9 b).2.1 := by decide +kernel
theorem tyJ9_ok : ∀ k, k < 0 → parseFieldDescriptor (TJ9 k).2.2.1 = some (tyJ9 k) := by decide +kernel
abbrev cJ9_max_7cf53 : ByteArray := prog_7_method_65_code
def yJ9_max_7cf53 : MethodName := ⟨RJ9, "max", "(II)I"⟩
abbrev cJ9_min_7cf53 : ByteArray := prog_7_method_69_code
def yJ9_min_7cf53 : MethodName := ⟨RJ9, "min", "(II)I"⟩
def RJ0 : String := "java/lang/String"
def TJ0 : u_T := fun k => match k with
  | _ => ("", "", "", false)
def tyJ0 : Nat → FieldType := fun k => match k with
  | _ => .int
abbrev wsJ00 : List Cond := u_ws RJ0 TJ0 0
theorem nmJ0 : ∀ a, a < 0 → ∀ b, b < 0 → a ≠ b → (TJ0 a).2.1 ≠ (TJ0 b).2.1 := by decide +kernel
theorem tyJ0_ok : ∀ k, k < 0 → parseFieldDescriptor (TJ0 k).2.2.1 = some (tyJ0 k) := by decide +kernel
abbrev cJ0_length_8abf5 : ByteArray := prog_8_method_54_code
def yJ0_length_8abf5 : MethodName := ⟨RJ0, "length", "()I"⟩
abbrev cJ0_coder_7d493 : ByteArray := prog_8_method_152_code
def yJ0_coder_7d493 : MethodName := ⟨RJ0, "coder", "()B"⟩
def RL : String := "NamePassingComparerLaw"
abbrev cL_cell : ByteArray := method_2_code
def yL_cell : MethodName := ⟨RL, "cell", "([II)I"⟩
abbrev cL_process : ByteArray := method_4_code
def yL_process : MethodName := ⟨RL, "process", "(IIIII)I"⟩
abbrev cL_most : ByteArray := method_5_code
def yL_most : MethodName := ⟨RL, "most", "(II)I"⟩
abbrev cL_named : ByteArray := method_6_code
def yL_named : MethodName := ⟨RL, "named", "(I)I"⟩
abbrev cL_sizes : ByteArray := method_7_code
def yL_sizes : MethodName := ⟨RL, "sizes", "([IIIIII)I"⟩
abbrev cL_builds : ByteArray := method_8_code
def yL_builds : MethodName := ⟨RL, "builds", "(LNamePassingComparer;IIIII)I"⟩
abbrev cL_adds : ByteArray := method_9_code
def yL_adds : MethodName := ⟨RL, "adds", "(LNamePassingComparer;II[I[I)I"⟩
abbrev cL_related : ByteArray := method_10_code
def yL_related : MethodName := ⟨RL, "related", "(LNamePassingComparer;II)Z"⟩
abbrev cL_law : ByteArray := code
def yL_law : MethodName := ⟨RL, "law", "([I)Z"⟩
def wsL_cell : List Cond := .code yL_cell cL_cell 2 (some .int) :: ([.constant RL 7 (15485959), .constant RL 8 (2147483647)])
def wsL_process : List Cond := .code yL_process cL_process 5 (some .int) :: ([])
def wsL_most : List Cond := .code yL_most cL_most 2 (some .int) :: ([])
def wsL_named : List Cond := .code yL_named cL_named 1 (some .int) :: ([])
def wsL_sizes : List Cond := .code yL_sizes cL_sizes 10 (some .int) :: ([.methodLink RL 9 yL_most, .static yL_most, .initialized RL, .code yL_most cL_most 2 (some .int), .methodLink RL 15 yL_named, .static yL_named, .code yL_named cL_named 1 (some .int)])
def wsL_builds_r1 : List Cond := [Cond.methodLink RL 19 yX3_tau, Cond.instanceMethod yX3_tau, Cond.selects RX3 yX3_tau yX3_tau, Cond.initialized RX3, Cond.code yX3_tau cX3_tau 2 (some .int), Cond.fieldLink RX3 10 "NamePassingComparer" "store" "LNamePassingComparer$Store;", Cond.instanceMethod yX2_holds, Cond.initialized RX2, Cond.selects RX2 yX2_holds yX2_holds, Cond.code yX2_holds cX2_holds 2 (some .boolean), Cond.fieldLink RX2 50 "NamePassingComparer$Store" "count" "I", Cond.instanceMethod yX2_build, Cond.selects RX2 yX2_build yX2_build, Cond.code yX2_build cX2_build 9 (some .int), Cond.fieldLink RX2 27 "NamePassingComparer$Store" "depths" "[I", Cond.methodLink RX2 72 Lib.Math.max.name, Cond.static Lib.Math.max.name, Cond.initialized "java/lang/Math", Cond.code Lib.Math.max.name Lib.Math.max.code 2 (some .int), Cond.fieldLink RX2 30 "NamePassingComparer$Store" "breadths" "[I", Cond.fieldLink RX2 9 "NamePassingComparer$Store" "kinds" "[I", Cond.fieldLink RX2 15 "NamePassingComparer$Store" "channels" "[I", Cond.fieldLink RX2 18 "NamePassingComparer$Store" "objects" "[I", Cond.fieldLink RX2 21 "NamePassingComparer$Store" "firstParts" "[I"]
def wsL_builds_r2 : List Cond := [Cond.fieldLink RX2 24 "NamePassingComparer$Store" "secondParts" "[I", Cond.fieldLink RX2 33 "NamePassingComparer$Store" "needs" "[I", Cond.fieldLink RX2 40 "NamePassingComparer$Store" "lengths" "[I", Cond.static yX3_at, Cond.code yX3_at cX3_at 2 (some .int), Cond.methodLink RX2 78 yX2_isAction, Cond.static yX2_isAction, Cond.code yX2_isAction cX2_isAction 1 (some .boolean), Cond.static yX3_put, Cond.code yX3_put cX3_put 3 none, Cond.methodLink RX2 82 yX2_needFor, Cond.instanceMethod yX2_needFor, Cond.selects RX2 yX2_needFor yX2_needFor, Cond.code yX2_needFor cX2_needFor 9 (some .int), Cond.methodLink RX2 86 yX2_lengthFor, Cond.instanceMethod yX2_lengthFor, Cond.selects RX2 yX2_lengthFor yX2_lengthFor, Cond.code yX2_lengthFor cX2_lengthFor 5 (some .int), Cond.methodLink RX2 54 yX2_headOf, Cond.static yX2_headOf, Cond.code yX2_headOf cX2_headOf 1 (some (.object "java/lang/String")), Cond.methodLink RX2 58 yJ0_length_8abf5, Cond.instanceMethod yJ0_length_8abf5, Cond.selects RJ0 yJ0_length_8abf5 yJ0_length_8abf5]
def wsL_builds_r3 : List Cond := [Cond.initialized RJ0, Cond.code yJ0_length_8abf5 cJ0_length_8abf5 1 (some .int), Cond.fieldLink RJ0 9 "java/lang/String" "value" "[B", Cond.methodLink RJ0 335 yJ0_coder_7d493, Cond.instanceMethod yJ0_coder_7d493, Cond.selects RJ0 yJ0_coder_7d493 yJ0_coder_7d493, Cond.code yJ0_coder_7d493 cJ0_coder_7d493 1 (some .byte), Cond.fieldLink RJ0 38 "java/lang/String" "COMPACT_STRINGS" "Z", Cond.fieldLink RJ0 15 "java/lang/String" "coder" "B", Cond.methodLink RX2 90 yX2_putActions, Cond.instanceMethod yX2_putActions, Cond.selects RX2 yX2_putActions yX2_putActions, Cond.code yX2_putActions cX2_putActions 9 none, Cond.fieldLink RX2 43 "NamePassingComparer$Store" "actions" "[I", Cond.fieldLink RX2 46 "NamePassingComparer$Store" "guards" "[J", Cond.static yX3_put_, Cond.code yX3_put_ cX3_put_ 4 none, Cond.methodLink RX2 99 yX2_copyActions, Cond.instanceMethod yX2_copyActions, Cond.selects RX2 yX2_copyActions yX2_copyActions, Cond.code yX2_copyActions cX2_copyActions 9 none, Cond.static yX3_at_, Cond.code yX3_at_ cX3_at_ 2 (some .long), Cond.methodLink RL 24 yX3_output]
def wsL_builds_r4 : List Cond := [Cond.instanceMethod yX3_output, Cond.selects RX3 yX3_output yX3_output, Cond.code yX3_output cX3_output 4 (some .int), Cond.methodLink RX3 33 yX3_isName, Cond.static yX3_isName, Cond.code yX3_isName cX3_isName 1 (some .boolean), Cond.methodLink RL 28 yX3_input, Cond.instanceMethod yX3_input, Cond.selects RX3 yX3_input yX3_input, Cond.code yX3_input cX3_input 3 (some .int), Cond.methodLink RL 31 yX3_match, Cond.instanceMethod yX3_match, Cond.selects RX3 yX3_match yX3_match, Cond.code yX3_match cX3_match 4 (some .int), Cond.methodLink RL 34 yX3_sum, Cond.instanceMethod yX3_sum, Cond.selects RX3 yX3_sum yX3_sum, Cond.code yX3_sum cX3_sum 3 (some .int)]
def wsL_builds : List Cond := .code yL_builds cL_builds 6 (some .int) :: ((wsL_builds_r1 ++ (wsL_builds_r2 ++ (wsL_builds_r3 ++ wsL_builds_r4))) ++ wsX30 ++ wsX20)
def wsL_adds_r1 : List Cond := [Cond.methodLink RL 37 yL_sizes, Cond.static yL_sizes, Cond.initialized RL, Cond.code yL_sizes cL_sizes 10 (some .int), Cond.methodLink RL 9 yL_most, Cond.static yL_most, Cond.code yL_most cL_most 2 (some .int), Cond.methodLink RL 15 yL_named, Cond.static yL_named, Cond.code yL_named cL_named 1 (some .int), Cond.methodLink RL 41 yL_builds, Cond.static yL_builds, Cond.code yL_builds cL_builds 6 (some .int), Cond.methodLink RL 19 yX3_tau, Cond.instanceMethod yX3_tau, Cond.selects RX3 yX3_tau yX3_tau, Cond.initialized RX3, Cond.code yX3_tau cX3_tau 2 (some .int), Cond.fieldLink RX3 10 "NamePassingComparer" "store" "LNamePassingComparer$Store;", Cond.instanceMethod yX2_holds, Cond.initialized RX2, Cond.selects RX2 yX2_holds yX2_holds, Cond.code yX2_holds cX2_holds 2 (some .boolean), Cond.fieldLink RX2 50 "NamePassingComparer$Store" "count" "I"]
def wsL_adds_r2 : List Cond := [Cond.instanceMethod yX2_build, Cond.selects RX2 yX2_build yX2_build, Cond.code yX2_build cX2_build 9 (some .int), Cond.fieldLink RX2 27 "NamePassingComparer$Store" "depths" "[I", Cond.methodLink RX2 72 Lib.Math.max.name, Cond.static Lib.Math.max.name, Cond.initialized "java/lang/Math", Cond.code Lib.Math.max.name Lib.Math.max.code 2 (some .int), Cond.fieldLink RX2 30 "NamePassingComparer$Store" "breadths" "[I", Cond.fieldLink RX2 9 "NamePassingComparer$Store" "kinds" "[I", Cond.fieldLink RX2 15 "NamePassingComparer$Store" "channels" "[I", Cond.fieldLink RX2 18 "NamePassingComparer$Store" "objects" "[I", Cond.fieldLink RX2 21 "NamePassingComparer$Store" "firstParts" "[I", Cond.fieldLink RX2 24 "NamePassingComparer$Store" "secondParts" "[I", Cond.fieldLink RX2 33 "NamePassingComparer$Store" "needs" "[I", Cond.fieldLink RX2 40 "NamePassingComparer$Store" "lengths" "[I", Cond.static yX3_at, Cond.code yX3_at cX3_at 2 (some .int), Cond.methodLink RX2 78 yX2_isAction, Cond.static yX2_isAction, Cond.code yX2_isAction cX2_isAction 1 (some .boolean), Cond.static yX3_put, Cond.code yX3_put cX3_put 3 none, Cond.methodLink RX2 82 yX2_needFor]
def wsL_adds_r3 : List Cond := [Cond.instanceMethod yX2_needFor, Cond.selects RX2 yX2_needFor yX2_needFor, Cond.code yX2_needFor cX2_needFor 9 (some .int), Cond.methodLink RX2 86 yX2_lengthFor, Cond.instanceMethod yX2_lengthFor, Cond.selects RX2 yX2_lengthFor yX2_lengthFor, Cond.code yX2_lengthFor cX2_lengthFor 5 (some .int), Cond.methodLink RX2 54 yX2_headOf, Cond.static yX2_headOf, Cond.code yX2_headOf cX2_headOf 1 (some (.object "java/lang/String")), Cond.methodLink RX2 58 yJ0_length_8abf5, Cond.instanceMethod yJ0_length_8abf5, Cond.selects RJ0 yJ0_length_8abf5 yJ0_length_8abf5, Cond.initialized RJ0, Cond.code yJ0_length_8abf5 cJ0_length_8abf5 1 (some .int), Cond.fieldLink RJ0 9 "java/lang/String" "value" "[B", Cond.methodLink RJ0 335 yJ0_coder_7d493, Cond.instanceMethod yJ0_coder_7d493, Cond.selects RJ0 yJ0_coder_7d493 yJ0_coder_7d493, Cond.code yJ0_coder_7d493 cJ0_coder_7d493 1 (some .byte), Cond.fieldLink RJ0 38 "java/lang/String" "COMPACT_STRINGS" "Z", Cond.fieldLink RJ0 15 "java/lang/String" "coder" "B", Cond.methodLink RX2 90 yX2_putActions, Cond.instanceMethod yX2_putActions]
def wsL_adds_r4 : List Cond := [Cond.selects RX2 yX2_putActions yX2_putActions, Cond.code yX2_putActions cX2_putActions 9 none, Cond.fieldLink RX2 43 "NamePassingComparer$Store" "actions" "[I", Cond.fieldLink RX2 46 "NamePassingComparer$Store" "guards" "[J", Cond.static yX3_put_, Cond.code yX3_put_ cX3_put_ 4 none, Cond.methodLink RX2 99 yX2_copyActions, Cond.instanceMethod yX2_copyActions, Cond.selects RX2 yX2_copyActions yX2_copyActions, Cond.code yX2_copyActions cX2_copyActions 9 none, Cond.static yX3_at_, Cond.code yX3_at_ cX3_at_ 2 (some .long), Cond.methodLink RL 24 yX3_output, Cond.instanceMethod yX3_output, Cond.selects RX3 yX3_output yX3_output, Cond.code yX3_output cX3_output 4 (some .int), Cond.methodLink RX3 33 yX3_isName, Cond.static yX3_isName, Cond.code yX3_isName cX3_isName 1 (some .boolean), Cond.methodLink RL 28 yX3_input, Cond.instanceMethod yX3_input, Cond.selects RX3 yX3_input yX3_input, Cond.code yX3_input cX3_input 3 (some .int), Cond.methodLink RL 31 yX3_match]
def wsL_adds_r5 : List Cond := [Cond.instanceMethod yX3_match, Cond.selects RX3 yX3_match yX3_match, Cond.code yX3_match cX3_match 4 (some .int), Cond.methodLink RL 34 yX3_sum, Cond.instanceMethod yX3_sum, Cond.selects RX3 yX3_sum yX3_sum, Cond.code yX3_sum cX3_sum 3 (some .int), Cond.methodLink RL 45 yL_process, Cond.static yL_process, Cond.code yL_process cL_process 5 (some .int), Cond.methodLink RL 49 yX3_processCount, Cond.instanceMethod yX3_processCount, Cond.selects RX3 yX3_processCount yX3_processCount, Cond.code yX3_processCount cX3_processCount 1 (some .int)]
def wsL_adds : List Cond := .code yL_adds cL_adds 12 (some .int) :: ((wsL_adds_r1 ++ (wsL_adds_r2 ++ (wsL_adds_r3 ++ (wsL_adds_r4 ++ wsL_adds_r5)))) ++ wsX30 ++ wsX20)
def wsL_related_r1 : List Cond := [Cond.methodLink RL 53 yX3_areRelated, Cond.instanceMethod yX3_areRelated, Cond.selects RX3 yX3_areRelated yX3_areRelated, Cond.initialized RX3, Cond.code yX3_areRelated cX3_areRelated 5 (some .int), Cond.fieldLink RX3 21 "NamePassingComparer" "game" "LNamePassingComparer$Game;", Cond.methodLink RX3 90 yX3_errorOfPair, Cond.instanceMethod yX3_errorOfPair, Cond.selects RX3 yX3_errorOfPair yX3_errorOfPair, Cond.code yX3_errorOfPair cX3_errorOfPair 4 (some .int), Cond.fieldLink RX3 10 "NamePassingComparer" "store" "LNamePassingComparer$Store;", Cond.instanceMethod yX2_holds, Cond.initialized RX2, Cond.selects RX2 yX2_holds yX2_holds, Cond.code yX2_holds cX2_holds 2 (some .boolean), Cond.fieldLink RX2 50 "NamePassingComparer$Store" "count" "I", Cond.methodLink RX3 103 yX3_isRelation, Cond.static yX3_isRelation, Cond.code yX3_isRelation cX3_isRelation 1 (some .boolean), Cond.instanceMethod yX2_isClosed, Cond.selects RX2 yX2_isClosed yX2_isClosed, Cond.code yX2_isClosed cX2_isClosed 2 (some .boolean), Cond.fieldLink RX2 33 "NamePassingComparer$Store" "needs" "[I", Cond.static yX3_at]
def wsL_related_r2 : List Cond := [Cond.code yX3_at cX3_at 2 (some .int), Cond.instanceMethod yX0_roundsOf, Cond.initialized RX0, Cond.selects RX0 yX0_roundsOf yX0_roundsOf, Cond.code yX0_roundsOf cX0_roundsOf 5 (some .int), Cond.methodLink RX0 29 yX0_worth, Cond.instanceMethod yX0_worth, Cond.selects RX0 yX0_worth yX0_worth, Cond.code yX0_worth cX0_worth 11 (some .int), Cond.fieldLink RX0 15 "NamePassingComparer$Game" "worths" "[I", Cond.methodLink RX0 67 Lib.Math.min.name, Cond.static Lib.Math.min.name, Cond.initialized "java/lang/Math", Cond.code Lib.Math.min.name Lib.Math.min.code 2 (some .int), Cond.methodLink RX0 57 yX0_placeOf, Cond.static yX0_placeOf, Cond.code yX0_placeOf cX0_placeOf 6 (some .int), Cond.methodLink RX0 79 Lib.Math.max.name, Cond.static Lib.Math.max.name, Cond.code Lib.Math.max.name Lib.Math.max.code 2 (some .int), Cond.methodLink RX0 107 yX0_viewOf, Cond.static yX0_viewOf, Cond.code yX0_viewOf cX0_viewOf 3 (some .int), Cond.static yX1_valueOf]
def wsL_related_r3 : List Cond := [Cond.initialized RX1, Cond.code yX1_valueOf cX1_valueOf 2 (some .int), Cond.static yX1_with, Cond.code yX1_with cX1_with 2 (some .int), Cond.methodLink RX0 19 yX0_firstPlace, Cond.static yX0_firstPlace, Cond.code yX0_firstPlace cX0_firstPlace 1 (some .int), Cond.methodLink RX0 64 yX0_sideWorth, Cond.instanceMethod yX0_sideWorth, Cond.selects RX0 yX0_sideWorth yX0_sideWorth, Cond.static yX3_put, Cond.code yX3_put cX3_put 3 none, Cond.code yX0_answerWorth cX0_answerWorth 15 (some .int), Cond.fieldLink RX0 9 "NamePassingComparer$Game" "store" "LNamePassingComparer$Store;", Cond.static yX1_nextFresh, Cond.code yX1_nextFresh cX1_nextFresh 3 (some .int), Cond.methodLink RX1 15 Lib.Math.max.name, Cond.methodLink RX1 11 yX1_valueOf, Cond.code yX0_attackWorth cX0_attackWorth 11 (some .int), Cond.instanceMethod yX2_actionIn, Cond.selects RX2 yX2_actionIn yX2_actionIn, Cond.code yX2_actionIn cX2_actionIn 5 (some .int), Cond.fieldLink RX2 30 "NamePassingComparer$Store" "breadths" "[I", Cond.fieldLink RX2 46 "NamePassingComparer$Store" "guards" "[J"]
def wsL_related_r4 : List Cond := [Cond.fieldLink RX2 43 "NamePassingComparer$Store" "actions" "[I", Cond.static yX3_at_, Cond.code yX3_at_ cX3_at_ 2 (some .long), Cond.methodLink RX2 110 yX2_isOpen, Cond.static yX2_isOpen, Cond.code yX2_isOpen cX2_isOpen 6 (some .boolean), Cond.static yX1_areEqual, Cond.code yX1_areEqual cX1_areEqual 3 (some .boolean), Cond.methodLink RX0 72 yX0_agree, Cond.instanceMethod yX0_agree, Cond.selects RX0 yX0_agree yX0_agree, Cond.code yX0_agree cX0_agree 6 (some .boolean), Cond.methodLink RX0 76 yX0_answerWorth, Cond.instanceMethod yX0_answerWorth, Cond.selects RX0 yX0_answerWorth yX0_answerWorth, Cond.code yX0_sideWorth cX0_sideWorth 12 (some .int), Cond.methodLink RX0 46 yX0_lastChoice, Cond.instanceMethod yX0_lastChoice, Cond.selects RX0 yX0_lastChoice yX0_lastChoice, Cond.code yX0_lastChoice cX0_lastChoice 4 (some .int), Cond.methodLink RX0 103 yX0_isChosenWith, Cond.instanceMethod yX0_isChosenWith, Cond.selects RX0 yX0_isChosenWith yX0_isChosenWith, Cond.code yX0_isChosenWith cX0_isChosenWith 3 (some .boolean)]
def wsL_related_r5 : List Cond := [Cond.methodLink RX0 49 yX0_firstChoice, Cond.instanceMethod yX0_firstChoice, Cond.selects RX0 yX0_firstChoice yX0_firstChoice, Cond.code yX0_firstChoice cX0_firstChoice 3 (some .int), Cond.methodLink RX0 53 yX0_attackWorth, Cond.instanceMethod yX0_attackWorth, Cond.selects RX0 yX0_attackWorth yX0_attackWorth, Cond.methodLink RL 56 yX3_rounds, Cond.instanceMethod yX3_rounds, Cond.selects RX3 yX3_rounds yX3_rounds, Cond.code yX3_rounds cX3_rounds 5 (some .int)]
def wsL_related : List Cond := .code yL_related cL_related 3 (some .boolean) :: ((wsL_related_r1 ++ (wsL_related_r2 ++ (wsL_related_r3 ++ (wsL_related_r4 ++ wsL_related_r5)))) ++ wsX30 ++ wsX20 ++ wsX00)
abbrev vwCl : List vw_C := [(RX0, TX0, 2), (RX2, TX2, 12), (RX3, TX3, 2)]
