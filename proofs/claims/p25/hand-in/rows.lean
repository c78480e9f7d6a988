section
-- ===== PART A: goes FIRST, ahead of the names: the tables' words, and 'selects' of the private methods out of them =====
/-- a private method of a class that the tables say can be made, by its rows of tables_1 -/
def lw_okq (q : MethodName × Nat) : Prop := (q.1.cls ≠ "java/lang/invoke/MethodHandle" ∧ q.1.cls ≠ "java/lang/invoke/VarHandle") ∧ Cond.instantiable q.1.cls q.2 ∈ tables_1 ∧ Cond.privateMethod q.1 ∈ tables_1 ∧ Cond.instanceMethod q.1 ∈ tables_1
theorem lw_p0 : lw_okq (⟨"NamePassingComparer$Store", "holds", "(I)Z"⟩, 12) := ⟨⟨by decide +kernel, by decide +kernel⟩, List.mem_of_getElem? (i := 16) (by decide +kernel), List.mem_of_getElem? (i := 119) (by decide +kernel), List.mem_of_getElem? (i := 120) (by decide +kernel)⟩
theorem lw_p1 : lw_okq (⟨"NamePassingComparer$Store", "build", "(IIIII)I"⟩, 12) := ⟨⟨by decide +kernel, by decide +kernel⟩, List.mem_of_getElem? (i := 16) (by decide +kernel), List.mem_of_getElem? (i := 123) (by decide +kernel), List.mem_of_getElem? (i := 124) (by decide +kernel)⟩
theorem lw_p2 : lw_okq (⟨"NamePassingComparer$Store", "needFor", "(IIIII)I"⟩, 12) := ⟨⟨by decide +kernel, by decide +kernel⟩, List.mem_of_getElem? (i := 16) (by decide +kernel), List.mem_of_getElem? (i := 136) (by decide +kernel), List.mem_of_getElem? (i := 137) (by decide +kernel)⟩
theorem lw_p3 : lw_okq (⟨"NamePassingComparer$Store", "lengthFor", "(III)I"⟩, 12) := ⟨⟨by decide +kernel, by decide +kernel⟩, List.mem_of_getElem? (i := 16) (by decide +kernel), List.mem_of_getElem? (i := 140) (by decide +kernel), List.mem_of_getElem? (i := 141) (by decide +kernel)⟩
theorem lw_p4 : lw_okq (⟨"NamePassingComparer$Store", "putActions", "(IIIIII)V"⟩, 12) := ⟨⟨by decide +kernel, by decide +kernel⟩, List.mem_of_getElem? (i := 16) (by decide +kernel), List.mem_of_getElem? (i := 144) (by decide +kernel), List.mem_of_getElem? (i := 145) (by decide +kernel)⟩
theorem lw_p5 : lw_okq (⟨"NamePassingComparer$Store", "copyActions", "(IIIJ)V"⟩, 12) := ⟨⟨by decide +kernel, by decide +kernel⟩, List.mem_of_getElem? (i := 16) (by decide +kernel), List.mem_of_getElem? (i := 151) (by decide +kernel), List.mem_of_getElem? (i := 152) (by decide +kernel)⟩
theorem lw_p6 : lw_okq (⟨"NamePassingComparer$Game", "forget", "(I)V"⟩, 2) := ⟨⟨by decide +kernel, by decide +kernel⟩, List.mem_of_getElem? (i := 95) (by decide +kernel), List.mem_of_getElem? (i := 181) (by decide +kernel), List.mem_of_getElem? (i := 182) (by decide +kernel)⟩
theorem lw_p7 : lw_okq (⟨"NamePassingComparer$Store", "isClosed", "(I)Z"⟩, 12) := ⟨⟨by decide +kernel, by decide +kernel⟩, List.mem_of_getElem? (i := 16) (by decide +kernel), List.mem_of_getElem? (i := 206) (by decide +kernel), List.mem_of_getElem? (i := 207) (by decide +kernel)⟩
theorem lw_p8 : lw_okq (⟨"NamePassingComparer$Store", "movesOf", "(I)I"⟩, 12) := ⟨⟨by decide +kernel, by decide +kernel⟩, List.mem_of_getElem? (i := 16) (by decide +kernel), List.mem_of_getElem? (i := 210) (by decide +kernel), List.mem_of_getElem? (i := 211) (by decide +kernel)⟩
theorem lw_p9 : lw_okq (⟨"NamePassingComparer$Store", "actionIn", "(III)I"⟩, 12) := ⟨⟨by decide +kernel, by decide +kernel⟩, List.mem_of_getElem? (i := 16) (by decide +kernel), List.mem_of_getElem? (i := 214) (by decide +kernel), List.mem_of_getElem? (i := 215) (by decide +kernel)⟩
theorem lw_p10 : lw_okq (⟨"NamePassingComparer", "errorOfPair", "(III)I"⟩, 2) := ⟨⟨by decide +kernel, by decide +kernel⟩, List.mem_of_getElem? (i := 8) (by decide +kernel), List.mem_of_getElem? (i := 231) (by decide +kernel), List.mem_of_getElem? (i := 232) (by decide +kernel)⟩
theorem lw_p11 : lw_okq (⟨"NamePassingComparer$Game", "roundsOf", "(III)I"⟩, 2) := ⟨⟨by decide +kernel, by decide +kernel⟩, List.mem_of_getElem? (i := 95) (by decide +kernel), List.mem_of_getElem? (i := 238) (by decide +kernel), List.mem_of_getElem? (i := 239) (by decide +kernel)⟩
theorem lw_p12 : lw_okq (⟨"NamePassingComparer$Game", "worth", "(IIIII)I"⟩, 2) := ⟨⟨by decide +kernel, by decide +kernel⟩, List.mem_of_getElem? (i := 95) (by decide +kernel), List.mem_of_getElem? (i := 242) (by decide +kernel), List.mem_of_getElem? (i := 243) (by decide +kernel)⟩
theorem lw_p13 : lw_okq (⟨"NamePassingComparer$Game", "sideWorth", "(IIIII)I"⟩, 2) := ⟨⟨by decide +kernel, by decide +kernel⟩, List.mem_of_getElem? (i := 95) (by decide +kernel), List.mem_of_getElem? (i := 261) (by decide +kernel), List.mem_of_getElem? (i := 262) (by decide +kernel)⟩
theorem lw_p14 : lw_okq (⟨"NamePassingComparer$Game", "lastChoice", "(III)I"⟩, 2) := ⟨⟨by decide +kernel, by decide +kernel⟩, List.mem_of_getElem? (i := 95) (by decide +kernel), List.mem_of_getElem? (i := 266) (by decide +kernel), List.mem_of_getElem? (i := 267) (by decide +kernel)⟩
theorem lw_p15 : lw_okq (⟨"NamePassingComparer$Game", "isChosenWith", "(II)Z"⟩, 2) := ⟨⟨by decide +kernel, by decide +kernel⟩, List.mem_of_getElem? (i := 95) (by decide +kernel), List.mem_of_getElem? (i := 270) (by decide +kernel), List.mem_of_getElem? (i := 271) (by decide +kernel)⟩
def lw_privs_1 : List (MethodName × Nat) := [(⟨"NamePassingComparer$Store", "holds", "(I)Z"⟩, 12), (⟨"NamePassingComparer$Store", "build", "(IIIII)I"⟩, 12), (⟨"NamePassingComparer$Store", "needFor", "(IIIII)I"⟩, 12), (⟨"NamePassingComparer$Store", "lengthFor", "(III)I"⟩, 12), (⟨"NamePassingComparer$Store", "putActions", "(IIIIII)V"⟩, 12), (⟨"NamePassingComparer$Store", "copyActions", "(IIIJ)V"⟩, 12), (⟨"NamePassingComparer$Game", "forget", "(I)V"⟩, 2), (⟨"NamePassingComparer$Store", "isClosed", "(I)Z"⟩, 12), (⟨"NamePassingComparer$Store", "movesOf", "(I)I"⟩, 12), (⟨"NamePassingComparer$Store", "actionIn", "(III)I"⟩, 12), (⟨"NamePassingComparer", "errorOfPair", "(III)I"⟩, 2), (⟨"NamePassingComparer$Game", "roundsOf", "(III)I"⟩, 2), (⟨"NamePassingComparer$Game", "worth", "(IIIII)I"⟩, 2), (⟨"NamePassingComparer$Game", "sideWorth", "(IIIII)I"⟩, 2), (⟨"NamePassingComparer$Game", "lastChoice", "(III)I"⟩, 2), (⟨"NamePassingComparer$Game", "isChosenWith", "(II)Z"⟩, 2)]
theorem lw_r1 : ∀ q ∈ lw_privs_1, lw_okq q := List.forall_mem_cons.mpr ⟨lw_p0, List.forall_mem_cons.mpr ⟨lw_p1, List.forall_mem_cons.mpr ⟨lw_p2, List.forall_mem_cons.mpr ⟨lw_p3, List.forall_mem_cons.mpr ⟨lw_p4, List.forall_mem_cons.mpr ⟨lw_p5, List.forall_mem_cons.mpr ⟨lw_p6, List.forall_mem_cons.mpr ⟨lw_p7, List.forall_mem_cons.mpr ⟨lw_p8, List.forall_mem_cons.mpr ⟨lw_p9, List.forall_mem_cons.mpr ⟨lw_p10, List.forall_mem_cons.mpr ⟨lw_p11, List.forall_mem_cons.mpr ⟨lw_p12, List.forall_mem_cons.mpr ⟨lw_p13, List.forall_mem_cons.mpr ⟨lw_p14, List.forall_mem_cons.mpr ⟨lw_p15, fun _ h => absurd h List.not_mem_nil⟩⟩⟩⟩⟩⟩⟩⟩⟩⟩⟩⟩⟩⟩⟩⟩
theorem lw_p16 : lw_okq (⟨"NamePassingComparer$Game", "firstChoice", "(II)I"⟩, 2) := ⟨⟨by decide +kernel, by decide +kernel⟩, List.mem_of_getElem? (i := 95) (by decide +kernel), List.mem_of_getElem? (i := 278) (by decide +kernel), List.mem_of_getElem? (i := 279) (by decide +kernel)⟩
theorem lw_p17 : lw_okq (⟨"NamePassingComparer$Game", "attackWorth", "(IIIIII)I"⟩, 2) := ⟨⟨by decide +kernel, by decide +kernel⟩, List.mem_of_getElem? (i := 95) (by decide +kernel), List.mem_of_getElem? (i := 282) (by decide +kernel), List.mem_of_getElem? (i := 283) (by decide +kernel)⟩
theorem lw_p18 : lw_okq (⟨"NamePassingComparer$Game", "agree", "(III)Z"⟩, 2) := ⟨⟨by decide +kernel, by decide +kernel⟩, List.mem_of_getElem? (i := 95) (by decide +kernel), List.mem_of_getElem? (i := 286) (by decide +kernel), List.mem_of_getElem? (i := 287) (by decide +kernel)⟩
theorem lw_p19 : lw_okq (⟨"NamePassingComparer$Game", "answerWorth", "(IIIIII)I"⟩, 2) := ⟨⟨by decide +kernel, by decide +kernel⟩, List.mem_of_getElem? (i := 95) (by decide +kernel), List.mem_of_getElem? (i := 291) (by decide +kernel), List.mem_of_getElem? (i := 292) (by decide +kernel)⟩
theorem lw_p20 : lw_okq (⟨"NamePassingComparer$Game", "attackOf", "(III)I"⟩, 2) := ⟨⟨by decide +kernel, by decide +kernel⟩, List.mem_of_getElem? (i := 95) (by decide +kernel), List.mem_of_getElem? (i := 303) (by decide +kernel), List.mem_of_getElem? (i := 304) (by decide +kernel)⟩
theorem lw_p21 : lw_okq (⟨"NamePassingComparer$Game", "attackWith", "(IIII)I"⟩, 2) := ⟨⟨by decide +kernel, by decide +kernel⟩, List.mem_of_getElem? (i := 95) (by decide +kernel), List.mem_of_getElem? (i := 308) (by decide +kernel), List.mem_of_getElem? (i := 309) (by decide +kernel)⟩
theorem lw_p22 : lw_okq (⟨"NamePassingComparer", "lowestRelated", "(II)I"⟩, 2) := ⟨⟨by decide +kernel, by decide +kernel⟩, List.mem_of_getElem? (i := 8) (by decide +kernel), List.mem_of_getElem? (i := 316) (by decide +kernel), List.mem_of_getElem? (i := 317) (by decide +kernel)⟩
def lw_privs_2 : List (MethodName × Nat) := [(⟨"NamePassingComparer$Game", "firstChoice", "(II)I"⟩, 2), (⟨"NamePassingComparer$Game", "attackWorth", "(IIIIII)I"⟩, 2), (⟨"NamePassingComparer$Game", "agree", "(III)Z"⟩, 2), (⟨"NamePassingComparer$Game", "answerWorth", "(IIIIII)I"⟩, 2), (⟨"NamePassingComparer$Game", "attackOf", "(III)I"⟩, 2), (⟨"NamePassingComparer$Game", "attackWith", "(IIII)I"⟩, 2), (⟨"NamePassingComparer", "lowestRelated", "(II)I"⟩, 2)]
theorem lw_r2 : ∀ q ∈ lw_privs_2, lw_okq q := List.forall_mem_cons.mpr ⟨lw_p16, List.forall_mem_cons.mpr ⟨lw_p17, List.forall_mem_cons.mpr ⟨lw_p18, List.forall_mem_cons.mpr ⟨lw_p19, List.forall_mem_cons.mpr ⟨lw_p20, List.forall_mem_cons.mpr ⟨lw_p21, List.forall_mem_cons.mpr ⟨lw_p22, fun _ h => absurd h List.not_mem_nil⟩⟩⟩⟩⟩⟩⟩
def lw_privs : List (MethodName × Nat) := lw_privs_1 ++ (lw_privs_2)
def lw_tbl : List Cond := k2_sels lw_privs ++ tables_1
theorem lw_privs_ok : ∀ q ∈ lw_privs, lw_okq q := by
  show ∀ q ∈ lw_privs_1 ++ (lw_privs_2), lw_okq q
  exact List.forall_mem_append.mpr ⟨lw_r1, lw_r2⟩
-- ===== end of PART A; then your names; then what follows =====
end
section
theorem goodIn_r {big : List Cond} (ws : List Cond) (ps : List Nat) (hp : ws = ps.filterMap (fun i => big[i]?)) (h : ws.all goodWord = true) : GoodIn big ws := by
  intro w hw
  have h1 := List.all_eq_true.mp h w hw
  rw [hp] at hw
  obtain ⟨i, -, hi⟩ := List.mem_filterMap.mp hw
  have hm : w ∈ big := by first | exact List.mem_of_getElem? hi | exact List.getElem?_mem hi
  exact ⟨hm, good_of_word h1⟩
theorem goodIn_app {big a b : List Cond} (ha : GoodIn big a) (hb : GoodIn big b) : GoodIn big (a ++ b) := fun w h => (List.mem_append.mp h).elim (ha w) (hb w)
theorem goodIn_ca {big a b : List Cond} {c : Cond} (ha : GoodIn big (c :: a)) (hb : GoodIn big b) : GoodIn big (c :: (a ++ b)) := fun w h => (List.mem_cons.mp h).elim (fun e => ha w (List.mem_cons.mpr (Or.inl e))) (fun h => (List.mem_append.mp h).elim (fun h => ha w (List.mem_cons.mpr (Or.inr h))) (hb w))
theorem goodIn_sub {big ws : List Cond} (hm : ∀ w ∈ ws, w ∈ big) (h : ws.all goodWord = true) : GoodIn big ws := fun w hw => ⟨hm w hw, good_of_word (List.all_eq_true.mp h w hw)⟩
def RX0 : String := "NamePassingComparer$Game"
def TX0 : u_T := fun k => match k with
  | 0 => ("NamePassingComparer$Game", "store", "LNamePassingComparer$Store;", true)
  | _ => ("NamePassingComparer$Game", "worths", "[I", true)
def tyX0 : Nat → FieldType := fun k => match k with
  | 0 => .object "NamePassingComparer$Store"
  | _ => .array .int
abbrev wsX00 : List Cond := u_ws RX0 TX0 2
theorem nmX0 : ∀ a, a < 2 → ∀ b, b < 2 → a ≠ b → (TX0 a).2.1 ≠ (TX0 b).2.1 := by decide +kernel
theorem tyX0_ok : ∀ k, k < 2 → parseFieldDescriptor (TX0 k).2.2.1 = some (tyX0 k) := by decide +kernel
abbrev cX0_init : ByteArray := prog_2_method_1_code
def yX0_init : MethodName := ⟨RX0, "<init>", "(LNamePassingComparer$Store;)V"⟩
abbrev cX0_forget : ByteArray := prog_2_method_2_code
def yX0_forget : MethodName := ⟨RX0, "forget", "(I)V"⟩
abbrev cX0_roundsOf : ByteArray := prog_2_method_3_code
def yX0_roundsOf : MethodName := ⟨RX0, "roundsOf", "(III)I"⟩
abbrev cX0_attackOf : ByteArray := prog_2_method_4_code
def yX0_attackOf : MethodName := ⟨RX0, "attackOf", "(III)I"⟩
abbrev cX0_attackWith : ByteArray := prog_2_method_5_code
def yX0_attackWith : MethodName := ⟨RX0, "attackWith", "(IIII)I"⟩
abbrev cX0_worth : ByteArray := prog_2_method_6_code
def yX0_worth : MethodName := ⟨RX0, "worth", "(IIIII)I"⟩
abbrev cX0_sideWorth : ByteArray := prog_2_method_7_code
def yX0_sideWorth : MethodName := ⟨RX0, "sideWorth", "(IIIII)I"⟩
abbrev cX0_attackWorth : ByteArray := prog_2_method_8_code
def yX0_attackWorth : MethodName := ⟨RX0, "attackWorth", "(IIIIII)I"⟩
abbrev cX0_answerWorth : ByteArray := prog_2_method_9_code
def yX0_answerWorth : MethodName := ⟨RX0, "answerWorth", "(IIIIII)I"⟩
abbrev cX0_agree : ByteArray := prog_2_method_10_code
def yX0_agree : MethodName := ⟨RX0, "agree", "(III)Z"⟩
abbrev cX0_isChosenWith : ByteArray := prog_2_method_11_code
def yX0_isChosenWith : MethodName := ⟨RX0, "isChosenWith", "(II)Z"⟩
abbrev cX0_firstChoice : ByteArray := prog_2_method_12_code
def yX0_firstChoice : MethodName := ⟨RX0, "firstChoice", "(II)I"⟩
abbrev cX0_lastChoice : ByteArray := prog_2_method_13_code
def yX0_lastChoice : MethodName := ⟨RX0, "lastChoice", "(III)I"⟩
abbrev cX0_placeOf : ByteArray := prog_2_method_14_code
def yX0_placeOf : MethodName := ⟨RX0, "placeOf", "(IIII)I"⟩
abbrev cX0_firstPlace : ByteArray := prog_2_method_15_code
def yX0_firstPlace : MethodName := ⟨RX0, "firstPlace", "(I)I"⟩
abbrev cX0_viewOf : ByteArray := prog_2_method_16_code
def yX0_viewOf : MethodName := ⟨RX0, "viewOf", "(I)I"⟩
def RX1 : String := "NamePassingComparer$Received"
def TX1 : u_T := fun k => match k with
  | _ => ("", "", "", false)
def tyX1 : Nat → FieldType := fun k => match k with
  | _ => .int
abbrev wsX10 : List Cond := u_ws RX1 TX1 0
theorem nmX1 : ∀ a, a < 0 → ∀ b, b < 0 → a ≠ b → (TX1 a).2.1 ≠ (TX1 b).2.1 := by decide +kernel
theorem tyX1_ok : ∀ k, k < 0 → parseFieldDescriptor (TX1 k).2.2.1 = some (tyX1 k) := by decide +kernel
abbrev cX1_with : ByteArray := prog_3_method_2_code
def yX1_with : MethodName := ⟨RX1, "with", "(II)I"⟩
abbrev cX1_valueOf : ByteArray := prog_3_method_3_code
def yX1_valueOf : MethodName := ⟨RX1, "valueOf", "(II)I"⟩
abbrev cX1_areEqual : ByteArray := prog_3_method_4_code
def yX1_areEqual : MethodName := ⟨RX1, "areEqual", "(III)Z"⟩
abbrev cX1_nextFresh : ByteArray := prog_3_method_5_code
def yX1_nextFresh : MethodName := ⟨RX1, "nextFresh", "(I)I"⟩
def RX2 : String := "NamePassingComparer$Store"
def TX2 : u_T := fun k => match k with
  | 0 => ("NamePassingComparer$Store", "count", "I", false)
  | 1 => ("NamePassingComparer$Store", "kinds", "[I", true)
  | 2 => ("NamePassingComparer$Store", "channels", "[I", true)
  | 3 => ("NamePassingComparer$Store", "objects", "[I", true)
  | 4 => ("NamePassingComparer$Store", "firstParts", "[I", true)
  | 5 => ("NamePassingComparer$Store", "secondParts", "[I", true)
  | 6 => ("NamePassingComparer$Store", "depths", "[I", true)
  | 7 => ("NamePassingComparer$Store", "breadths", "[I", true)
  | 8 => ("NamePassingComparer$Store", "needs", "[I", true)
  | 9 => ("NamePassingComparer$Store", "lengths", "[I", true)
  | 10 => ("NamePassingComparer$Store", "actions", "[I", true)
  | _ => ("NamePassingComparer$Store", "guards", "[J", true)
def tyX2 : Nat → FieldType := fun k => match k with
  | 0 => .int
  | 1 => .array .int
  | 2 => .array .int
  | 3 => .array .int
  | 4 => .array .int
  | 5 => .array .int
  | 6 => .array .int
  | 7 => .array .int
  | 8 => .array .int
  | 9 => .array .int
  | 10 => .array .int
  | _ => .array .long
abbrev wsX20 : List Cond := u_ws RX2 TX2 12
theorem nmX2 : ∀ a, a < 12 → ∀ b, b < 12 → a ≠ b → (TX2 a).2.1 ≠ (TX2 b).2.1 := by decide +kernel
theorem tyX2_ok : ∀ k, k < 12 → parseFieldDescriptor (TX2 k).2.2.1 = some (tyX2 k) := by decide +kernel
abbrev cX2_init : ByteArray := prog_4_method_1_code
def yX2_init : MethodName := ⟨RX2, "<init>", "()V"⟩
abbrev cX2_lengthsOfNew : ByteArray := prog_4_method_2_code
def yX2_lengthsOfNew : MethodName := ⟨RX2, "lengthsOfNew", "()[I"⟩
abbrev cX2_holds : ByteArray := prog_4_method_3_code
def yX2_holds : MethodName := ⟨RX2, "holds", "(I)Z"⟩
abbrev cX2_isClosed : ByteArray := prog_4_method_4_code
def yX2_isClosed : MethodName := ⟨RX2, "isClosed", "(I)Z"⟩
abbrev cX2_isAction : ByteArray := prog_4_method_5_code
def yX2_isAction : MethodName := ⟨RX2, "isAction", "(I)Z"⟩
abbrev cX2_build : ByteArray := prog_4_method_7_code
def yX2_build : MethodName := ⟨RX2, "build", "(IIIII)I"⟩
abbrev cX2_needFor : ByteArray := prog_4_method_8_code
def yX2_needFor : MethodName := ⟨RX2, "needFor", "(IIIII)I"⟩
abbrev cX2_lengthFor : ByteArray := prog_4_method_9_code
def yX2_lengthFor : MethodName := ⟨RX2, "lengthFor", "(III)I"⟩
abbrev cX2_putActions : ByteArray := prog_4_method_10_code
def yX2_putActions : MethodName := ⟨RX2, "putActions", "(IIIIII)V"⟩
abbrev cX2_copyActions : ByteArray := prog_4_method_11_code
def yX2_copyActions : MethodName := ⟨RX2, "copyActions", "(IIIJ)V"⟩
abbrev cX2_isOpen : ByteArray := prog_4_method_12_code
def yX2_isOpen : MethodName := ⟨RX2, "isOpen", "(JI)Z"⟩
abbrev cX2_actionIn : ByteArray := prog_4_method_13_code
def yX2_actionIn : MethodName := ⟨RX2, "actionIn", "(III)I"⟩
abbrev cX2_movesOf : ByteArray := prog_4_method_14_code
def yX2_movesOf : MethodName := ⟨RX2, "movesOf", "(I)I"⟩
abbrev cX2_headOf : ByteArray := prog_4_method_16_code
def yX2_headOf : MethodName := ⟨RX2, "headOf", "(I)Ljava/lang/String;"⟩
def RX3 : String := "NamePassingComparer"
def TX3 : u_T := fun k => match k with
  | 0 => ("NamePassingComparer", "store", "LNamePassingComparer$Store;", true)
  | _ => ("NamePassingComparer", "game", "LNamePassingComparer$Game;", true)
def tyX3 : Nat → FieldType := fun k => match k with
  | 0 => .object "NamePassingComparer$Store"
  | _ => .object "NamePassingComparer$Game"
abbrev wsX30 : List Cond := u_ws RX3 TX3 2
theorem nmX3 : ∀ a, a < 2 → ∀ b, b < 2 → a ≠ b → (TX3 a).2.1 ≠ (TX3 b).2.1 := by decide +kernel
theorem tyX3_ok : ∀ k, k < 2 → parseFieldDescriptor (TX3 k).2.2.1 = some (tyX3 k) := by decide +kernel
abbrev cX3_init : ByteArray := prog_1_method_1_code
def yX3_init : MethodName := ⟨RX3, "<init>", "()V"⟩
abbrev cX3_tau : ByteArray := prog_1_method_2_code
def yX3_tau : MethodName := ⟨RX3, "tau", "(I)I"⟩
abbrev cX3_output : ByteArray := prog_1_method_3_code
def yX3_output : MethodName := ⟨RX3, "output", "(III)I"⟩
abbrev cX3_input : ByteArray := prog_1_method_4_code
def yX3_input : MethodName := ⟨RX3, "input", "(II)I"⟩
abbrev cX3_match : ByteArray := prog_1_method_5_code
def yX3_match : MethodName := ⟨RX3, "match", "(III)I"⟩
abbrev cX3_sum : ByteArray := prog_1_method_6_code
def yX3_sum : MethodName := ⟨RX3, "sum", "(II)I"⟩
abbrev cX3_removeLast : ByteArray := prog_1_method_7_code
def yX3_removeLast : MethodName := ⟨RX3, "removeLast", "()I"⟩
abbrev cX3_processCount : ByteArray := prog_1_method_8_code
def yX3_processCount : MethodName := ⟨RX3, "processCount", "()I"⟩
abbrev cX3_depthOf : ByteArray := prog_1_method_11_code
def yX3_depthOf : MethodName := ⟨RX3, "depthOf", "(I)I"⟩
abbrev cX3_needOf : ByteArray := prog_1_method_12_code
def yX3_needOf : MethodName := ⟨RX3, "needOf", "(I)I"⟩
abbrev cX3_textLength : ByteArray := prog_1_method_13_code
def yX3_textLength : MethodName := ⟨RX3, "textLength", "(I)I"⟩
abbrev cX3_moveCount : ByteArray := prog_1_method_15_code
def yX3_moveCount : MethodName := ⟨RX3, "moveCount", "(I)I"⟩
abbrev cX3_areRelated : ByteArray := prog_1_method_19_code
def yX3_areRelated : MethodName := ⟨RX3, "areRelated", "(III)I"⟩
abbrev cX3_rounds : ByteArray := prog_1_method_20_code
def yX3_rounds : MethodName := ⟨RX3, "rounds", "(III)I"⟩
abbrev cX3_firstAttack : ByteArray := prog_1_method_21_code
def yX3_firstAttack : MethodName := ⟨RX3, "firstAttack", "(III)I"⟩
abbrev cX3_representative : ByteArray := prog_1_method_22_code
def yX3_representative : MethodName := ⟨RX3, "representative", "(II)I"⟩
abbrev cX3_classCount : ByteArray := prog_1_method_23_code
def yX3_classCount : MethodName := ⟨RX3, "classCount", "(I)I"⟩
abbrev cX3_lowestRelated : ByteArray := prog_1_method_24_code
def yX3_lowestRelated : MethodName := ⟨RX3, "lowestRelated", "(II)I"⟩
abbrev cX3_errorOfPair : ByteArray := prog_1_method_26_code
def yX3_errorOfPair : MethodName := ⟨RX3, "errorOfPair", "(III)I"⟩
abbrev cX3_isName : ByteArray := prog_1_method_27_code
def yX3_isName : MethodName := ⟨RX3, "isName", "(I)Z"⟩
abbrev cX3_isRelation : ByteArray := prog_1_method_28_code
def yX3_isRelation : MethodName := ⟨RX3, "isRelation", "(I)Z"⟩
abbrev cX3_at : ByteArray := prog_1_method_29_code
def yX3_at : MethodName := ⟨RX3, "at", "([II)I"⟩
abbrev cX3_at_ : ByteArray := prog_1_method_30_code
def yX3_at_ : MethodName := ⟨RX3, "at", "([JI)J"⟩
abbrev cX3_put : ByteArray := prog_1_method_31_code
def yX3_put : MethodName := ⟨RX3, "put", "([III)V"⟩
abbrev cX3_put_ : ByteArray := prog_1_method_32_code
def yX3_put_ : MethodName := ⟨RX3, "put", "([JIJ)V"⟩
def RX4 : String := "NamePassingComparerModel"
def TX4 : u_T := fun k => match k with
  | _ => ("", "", "", false)
def tyX4 : Nat → FieldType := fun k => match k with
  | _ => .int
abbrev wsX40 : List Cond := u_ws RX4 TX4 0
theorem nmX4 : ∀ a, a < 0 → ∀ b, b < 0 → a ≠ b → (TX4 a).2.1 ≠ (TX4 b).2.1 := by decide +kernel
theorem tyX4_ok : ∀ k, k < 0 → parseFieldDescriptor (TX4 k).2.2.1 = some (tyX4 k) := by decide +kernel
def RJ9 : String := "java/lang/Math"
def TJ9 : u_T := fun k => match k with
  | _ => ("", "", "", false)
def tyJ9 : Nat → FieldType := fun k => match k with
  | _ => .int
abbrev wsJ90 : List Cond := u_ws RJ9 TJ9 0
theorem nmJ9 : ∀ a, a < 0 → ∀ b, b < 0 → a ≠ b → (TJ9 a).2.1 ≠ (TJ9 b).2.1 := by decide +kernel
theorem tyJ9_ok : ∀ k, k < 0 → parseFieldDescriptor (TJ9 k).2.2.1 = some (tyJ9 k) := by decide +kernel
abbrev cJ9_max_7cf53 : ByteArray := prog_7_method_65_code
def yJ9_max_7cf53 : MethodName := ⟨RJ9, "max", "(II)I"⟩
abbrev cJ9_min_7cf53 : ByteArray := prog_7_method_69_code
def yJ9_min_7cf53 : MethodName := ⟨RJ9, "min", "(II)I"⟩
def RJ0 : String := "java/lang/String"
def TJ0 : u_T := fun k => match k with
  | _ => ("", "", "", false)
def tyJ0 : Nat → FieldType := fun k => match k with
  | _ => .int
abbrev wsJ00 : List Cond := u_ws RJ0 TJ0 0
theorem nmJ0 : ∀ a, a < 0 → ∀ b, b < 0 → a ≠ b → (TJ0 a).2.1 ≠ (TJ0 b).2.1 := by decide +kernel
theorem tyJ0_ok : ∀ k, k < 0 → parseFieldDescriptor (TJ0 k).2.2.1 = some (tyJ0 k) := by decide +kernel
abbrev cJ0_length_8abf5 : ByteArray := prog_8_method_54_code
def yJ0_length_8abf5 : MethodName := ⟨RJ0, "length", "()I"⟩
abbrev cJ0_coder_7d493 : ByteArray := prog_8_method_152_code
def yJ0_coder_7d493 : MethodName := ⟨RJ0, "coder", "()B"⟩
def RL : String := "NamePassingComparerLaw"
abbrev cL_cell : ByteArray := method_2_code
def yL_cell : MethodName := ⟨RL, "cell", "([II)I"⟩
abbrev cL_process : ByteArray := method_4_code
def yL_process : MethodName := ⟨RL, "process", "(IIIII)I"⟩
abbrev cL_most : ByteArray := method_5_code
def yL_most : MethodName := ⟨RL, "most", "(II)I"⟩
abbrev cL_named : ByteArray := method_6_code
def yL_named : MethodName := ⟨RL, "named", "(I)I"⟩
abbrev cL_sizes : ByteArray := method_7_code
def yL_sizes : MethodName := ⟨RL, "sizes", "([IIIIII)I"⟩
abbrev cL_builds : ByteArray := method_8_code
def yL_builds : MethodName := ⟨RL, "builds", "(LNamePassingComparer;IIIII)I"⟩
abbrev cL_adds : ByteArray := method_9_code
def yL_adds : MethodName := ⟨RL, "adds", "(LNamePassingComparer;II[I[I)I"⟩
abbrev cL_related : ByteArray := method_10_code
def yL_related : MethodName := ⟨RL, "related", "(LNamePassingComparer;II)Z"⟩
abbrev cL_law : ByteArray := code
def yL_law : MethodName := ⟨RL, "law", "([I)Z"⟩
def wsL_cell : List Cond := .code yL_cell cL_cell 2 (some .int) :: ([.constant RL 7 (15485959), .constant RL 8 (2147483647)])
def wsL_process : List Cond := .code yL_process cL_process 5 (some .int) :: ([])
def wsL_most : List Cond := .code yL_most cL_most 2 (some .int) :: ([])
def wsL_named : List Cond := .code yL_named cL_named 1 (some .int) :: ([])
def wsL_sizes : List Cond := .code yL_sizes cL_sizes 10 (some .int) :: ([.methodLink RL 9 yL_most, .static yL_most, .initialized RL, .code yL_most cL_most 2 (some .int), .methodLink RL 15 yL_named, .static yL_named, .code yL_named cL_named 1 (some .int)])
def wsL_builds_r1 : List Cond := [Cond.methodLink RL 19 yX3_tau, Cond.instanceMethod yX3_tau, Cond.selects RX3 yX3_tau yX3_tau, Cond.initialized RX3, Cond.code yX3_tau cX3_tau 2 (some .int), Cond.fieldLink RX3 10 "NamePassingComparer" "store" "LNamePassingComparer$Store;", Cond.instanceMethod yX2_holds, Cond.initialized RX2, Cond.selects RX2 yX2_holds yX2_holds, Cond.code yX2_holds cX2_holds 2 (some .boolean), Cond.fieldLink RX2 50 "NamePassingComparer$Store" "count" "I", Cond.instanceMethod yX2_build, Cond.selects RX2 yX2_build yX2_build, Cond.code yX2_build cX2_build 9 (some .int), Cond.fieldLink RX2 27 "NamePassingComparer$Store" "depths" "[I", Cond.methodLink RX2 72 Lib.Math.max.name, Cond.static Lib.Math.max.name, Cond.initialized "java/lang/Math", Cond.code Lib.Math.max.name Lib.Math.max.code 2 (some .int), Cond.fieldLink RX2 30 "NamePassingComparer$Store" "breadths" "[I", Cond.fieldLink RX2 9 "NamePassingComparer$Store" "kinds" "[I", Cond.fieldLink RX2 15 "NamePassingComparer$Store" "channels" "[I", Cond.fieldLink RX2 18 "NamePassingComparer$Store" "objects" "[I", Cond.fieldLink RX2 21 "NamePassingComparer$Store" "firstParts" "[I"]
def wsL_builds_r2 : List Cond := [Cond.fieldLink RX2 24 "NamePassingComparer$Store" "secondParts" "[I", Cond.fieldLink RX2 33 "NamePassingComparer$Store" "needs" "[I", Cond.fieldLink RX2 40 "NamePassingComparer$Store" "lengths" "[I", Cond.static yX3_at, Cond.code yX3_at cX3_at 2 (some .int), Cond.methodLink RX2 78 yX2_isAction, Cond.static yX2_isAction, Cond.code yX2_isAction cX2_isAction 1 (some .boolean), Cond.static yX3_put, Cond.code yX3_put cX3_put 3 none, Cond.methodLink RX2 82 yX2_needFor, Cond.instanceMethod yX2_needFor, Cond.selects RX2 yX2_needFor yX2_needFor, Cond.code yX2_needFor cX2_needFor 9 (some .int), Cond.methodLink RX2 86 yX2_lengthFor, Cond.instanceMethod yX2_lengthFor, Cond.selects RX2 yX2_lengthFor yX2_lengthFor, Cond.code yX2_lengthFor cX2_lengthFor 5 (some .int), Cond.methodLink RX2 54 yX2_headOf, Cond.static yX2_headOf, Cond.code yX2_headOf cX2_headOf 1 (some (.object "java/lang/String")), Cond.methodLink RX2 58 yJ0_length_8abf5, Cond.instanceMethod yJ0_length_8abf5, Cond.selects RJ0 yJ0_length_8abf5 yJ0_length_8abf5]
def wsL_builds_r3 : List Cond := [Cond.initialized RJ0, Cond.code yJ0_length_8abf5 cJ0_length_8abf5 1 (some .int), Cond.fieldLink RJ0 9 "java/lang/String" "value" "[B", Cond.methodLink RJ0 335 yJ0_coder_7d493, Cond.instanceMethod yJ0_coder_7d493, Cond.selects RJ0 yJ0_coder_7d493 yJ0_coder_7d493, Cond.code yJ0_coder_7d493 cJ0_coder_7d493 1 (some .byte), Cond.fieldLink RJ0 38 "java/lang/String" "COMPACT_STRINGS" "Z", Cond.fieldLink RJ0 15 "java/lang/String" "coder" "B", Cond.methodLink RX2 90 yX2_putActions, Cond.instanceMethod yX2_putActions, Cond.selects RX2 yX2_putActions yX2_putActions, Cond.code yX2_putActions cX2_putActions 9 none, Cond.fieldLink RX2 43 "NamePassingComparer$Store" "actions" "[I", Cond.fieldLink RX2 46 "NamePassingComparer$Store" "guards" "[J", Cond.static yX3_put_, Cond.code yX3_put_ cX3_put_ 4 none, Cond.methodLink RX2 99 yX2_copyActions, Cond.instanceMethod yX2_copyActions, Cond.selects RX2 yX2_copyActions yX2_copyActions, Cond.code yX2_copyActions cX2_copyActions 9 none, Cond.static yX3_at_, Cond.code yX3_at_ cX3_at_ 2 (some .long), Cond.methodLink RL 24 yX3_output]
def wsL_builds_r4 : List Cond := [Cond.instanceMethod yX3_output, Cond.selects RX3 yX3_output yX3_output, Cond.code yX3_output cX3_output 4 (some .int), Cond.methodLink RX3 33 yX3_isName, Cond.static yX3_isName, Cond.code yX3_isName cX3_isName 1 (some .boolean), Cond.methodLink RL 28 yX3_input, Cond.instanceMethod yX3_input, Cond.selects RX3 yX3_input yX3_input, Cond.code yX3_input cX3_input 3 (some .int), Cond.methodLink RL 31 yX3_match, Cond.instanceMethod yX3_match, Cond.selects RX3 yX3_match yX3_match, Cond.code yX3_match cX3_match 4 (some .int), Cond.methodLink RL 34 yX3_sum, Cond.instanceMethod yX3_sum, Cond.selects RX3 yX3_sum yX3_sum, Cond.code yX3_sum cX3_sum 3 (some .int)]
def wsL_builds : List Cond := .code yL_builds cL_builds 6 (some .int) :: ((wsL_builds_r1 ++ (wsL_builds_r2 ++ (wsL_builds_r3 ++ wsL_builds_r4))) ++ wsX30 ++ wsX20)
def wsL_adds_r1 : List Cond := [Cond.methodLink RL 37 yL_sizes, Cond.static yL_sizes, Cond.initialized RL, Cond.code yL_sizes cL_sizes 10 (some .int), Cond.methodLink RL 9 yL_most, Cond.static yL_most, Cond.code yL_most cL_most 2 (some .int), Cond.methodLink RL 15 yL_named, Cond.static yL_named, Cond.code yL_named cL_named 1 (some .int), Cond.methodLink RL 41 yL_builds, Cond.static yL_builds, Cond.code yL_builds cL_builds 6 (some .int), Cond.methodLink RL 19 yX3_tau, Cond.instanceMethod yX3_tau, Cond.selects RX3 yX3_tau yX3_tau, Cond.initialized RX3, Cond.code yX3_tau cX3_tau 2 (some .int), Cond.fieldLink RX3 10 "NamePassingComparer" "store" "LNamePassingComparer$Store;", Cond.instanceMethod yX2_holds, Cond.initialized RX2, Cond.selects RX2 yX2_holds yX2_holds, Cond.code yX2_holds cX2_holds 2 (some .boolean), Cond.fieldLink RX2 50 "NamePassingComparer$Store" "count" "I"]
def wsL_adds_r2 : List Cond := [Cond.instanceMethod yX2_build, Cond.selects RX2 yX2_build yX2_build, Cond.code yX2_build cX2_build 9 (some .int), Cond.fieldLink RX2 27 "NamePassingComparer$Store" "depths" "[I", Cond.methodLink RX2 72 Lib.Math.max.name, Cond.static Lib.Math.max.name, Cond.initialized "java/lang/Math", Cond.code Lib.Math.max.name Lib.Math.max.code 2 (some .int), Cond.fieldLink RX2 30 "NamePassingComparer$Store" "breadths" "[I", Cond.fieldLink RX2 9 "NamePassingComparer$Store" "kinds" "[I", Cond.fieldLink RX2 15 "NamePassingComparer$Store" "channels" "[I", Cond.fieldLink RX2 18 "NamePassingComparer$Store" "objects" "[I", Cond.fieldLink RX2 21 "NamePassingComparer$Store" "firstParts" "[I", Cond.fieldLink RX2 24 "NamePassingComparer$Store" "secondParts" "[I", Cond.fieldLink RX2 33 "NamePassingComparer$Store" "needs" "[I", Cond.fieldLink RX2 40 "NamePassingComparer$Store" "lengths" "[I", Cond.static yX3_at, Cond.code yX3_at cX3_at 2 (some .int), Cond.methodLink RX2 78 yX2_isAction, Cond.static yX2_isAction, Cond.code yX2_isAction cX2_isAction 1 (some .boolean), Cond.static yX3_put, Cond.code yX3_put cX3_put 3 none, Cond.methodLink RX2 82 yX2_needFor]
def wsL_adds_r3 : List Cond := [Cond.instanceMethod yX2_needFor, Cond.selects RX2 yX2_needFor yX2_needFor, Cond.code yX2_needFor cX2_needFor 9 (some .int), Cond.methodLink RX2 86 yX2_lengthFor, Cond.instanceMethod yX2_lengthFor, Cond.selects RX2 yX2_lengthFor yX2_lengthFor, Cond.code yX2_lengthFor cX2_lengthFor 5 (some .int), Cond.methodLink RX2 54 yX2_headOf, Cond.static yX2_headOf, Cond.code yX2_headOf cX2_headOf 1 (some (.object "java/lang/String")), Cond.methodLink RX2 58 yJ0_length_8abf5, Cond.instanceMethod yJ0_length_8abf5, Cond.selects RJ0 yJ0_length_8abf5 yJ0_length_8abf5, Cond.initialized RJ0, Cond.code yJ0_length_8abf5 cJ0_length_8abf5 1 (some .int), Cond.fieldLink RJ0 9 "java/lang/String" "value" "[B", Cond.methodLink RJ0 335 yJ0_coder_7d493, Cond.instanceMethod yJ0_coder_7d493, Cond.selects RJ0 yJ0_coder_7d493 yJ0_coder_7d493, Cond.code yJ0_coder_7d493 cJ0_coder_7d493 1 (some .byte), Cond.fieldLink RJ0 38 "java/lang/String" "COMPACT_STRINGS" "Z", Cond.fieldLink RJ0 15 "java/lang/String" "coder" "B", Cond.methodLink RX2 90 yX2_putActions, Cond.instanceMethod yX2_putActions]
def wsL_adds_r4 : List Cond := [Cond.selects RX2 yX2_putActions yX2_putActions, Cond.code yX2_putActions cX2_putActions 9 none, Cond.fieldLink RX2 43 "NamePassingComparer$Store" "actions" "[I", Cond.fieldLink RX2 46 "NamePassingComparer$Store" "guards" "[J", Cond.static yX3_put_, Cond.code yX3_put_ cX3_put_ 4 none, Cond.methodLink RX2 99 yX2_copyActions, Cond.instanceMethod yX2_copyActions, Cond.selects RX2 yX2_copyActions yX2_copyActions, Cond.code yX2_copyActions cX2_copyActions 9 none, Cond.static yX3_at_, Cond.code yX3_at_ cX3_at_ 2 (some .long), Cond.methodLink RL 24 yX3_output, Cond.instanceMethod yX3_output, Cond.selects RX3 yX3_output yX3_output, Cond.code yX3_output cX3_output 4 (some .int), Cond.methodLink RX3 33 yX3_isName, Cond.static yX3_isName, Cond.code yX3_isName cX3_isName 1 (some .boolean), Cond.methodLink RL 28 yX3_input, Cond.instanceMethod yX3_input, Cond.selects RX3 yX3_input yX3_input, Cond.code yX3_input cX3_input 3 (some .int), Cond.methodLink RL 31 yX3_match]
def wsL_adds_r5 : List Cond := [Cond.instanceMethod yX3_match, Cond.selects RX3 yX3_match yX3_match, Cond.code yX3_match cX3_match 4 (some .int), Cond.methodLink RL 34 yX3_sum, Cond.instanceMethod yX3_sum, Cond.selects RX3 yX3_sum yX3_sum, Cond.code yX3_sum cX3_sum 3 (some .int), Cond.methodLink RL 45 yL_process, Cond.static yL_process, Cond.code yL_process cL_process 5 (some .int), Cond.methodLink RL 49 yX3_processCount, Cond.instanceMethod yX3_processCount, Cond.selects RX3 yX3_processCount yX3_processCount, Cond.code yX3_processCount cX3_processCount 1 (some .int)]
def wsL_adds : List Cond := .code yL_adds cL_adds 12 (some .int) :: ((wsL_adds_r1 ++ (wsL_adds_r2 ++ (wsL_adds_r3 ++ (wsL_adds_r4 ++ wsL_adds_r5)))) ++ wsX30 ++ wsX20)
def wsL_related_r1 : List Cond := [Cond.methodLink RL 53 yX3_areRelated, Cond.instanceMethod yX3_areRelated, Cond.selects RX3 yX3_areRelated yX3_areRelated, Cond.initialized RX3, Cond.code yX3_areRelated cX3_areRelated 5 (some .int), Cond.fieldLink RX3 21 "NamePassingComparer" "game" "LNamePassingComparer$Game;", Cond.methodLink RX3 90 yX3_errorOfPair, Cond.instanceMethod yX3_errorOfPair, Cond.selects RX3 yX3_errorOfPair yX3_errorOfPair, Cond.code yX3_errorOfPair cX3_errorOfPair 4 (some .int), Cond.fieldLink RX3 10 "NamePassingComparer" "store" "LNamePassingComparer$Store;", Cond.instanceMethod yX2_holds, Cond.initialized RX2, Cond.selects RX2 yX2_holds yX2_holds, Cond.code yX2_holds cX2_holds 2 (some .boolean), Cond.fieldLink RX2 50 "NamePassingComparer$Store" "count" "I", Cond.methodLink RX3 103 yX3_isRelation, Cond.static yX3_isRelation, Cond.code yX3_isRelation cX3_isRelation 1 (some .boolean), Cond.instanceMethod yX2_isClosed, Cond.selects RX2 yX2_isClosed yX2_isClosed, Cond.code yX2_isClosed cX2_isClosed 2 (some .boolean), Cond.fieldLink RX2 33 "NamePassingComparer$Store" "needs" "[I", Cond.static yX3_at]
def wsL_related_r2 : List Cond := [Cond.code yX3_at cX3_at 2 (some .int), Cond.instanceMethod yX0_roundsOf, Cond.initialized RX0, Cond.selects RX0 yX0_roundsOf yX0_roundsOf, Cond.code yX0_roundsOf cX0_roundsOf 5 (some .int), Cond.methodLink RX0 29 yX0_worth, Cond.instanceMethod yX0_worth, Cond.selects RX0 yX0_worth yX0_worth, Cond.code yX0_worth cX0_worth 11 (some .int), Cond.fieldLink RX0 15 "NamePassingComparer$Game" "worths" "[I", Cond.methodLink RX0 67 Lib.Math.min.name, Cond.static Lib.Math.min.name, Cond.initialized "java/lang/Math", Cond.code Lib.Math.min.name Lib.Math.min.code 2 (some .int), Cond.methodLink RX0 57 yX0_placeOf, Cond.static yX0_placeOf, Cond.code yX0_placeOf cX0_placeOf 6 (some .int), Cond.methodLink RX0 79 Lib.Math.max.name, Cond.static Lib.Math.max.name, Cond.code Lib.Math.max.name Lib.Math.max.code 2 (some .int), Cond.methodLink RX0 107 yX0_viewOf, Cond.static yX0_viewOf, Cond.code yX0_viewOf cX0_viewOf 3 (some .int), Cond.static yX1_valueOf]
def wsL_related_r3 : List Cond := [Cond.initialized RX1, Cond.code yX1_valueOf cX1_valueOf 2 (some .int), Cond.static yX1_with, Cond.code yX1_with cX1_with 2 (some .int), Cond.methodLink RX0 19 yX0_firstPlace, Cond.static yX0_firstPlace, Cond.code yX0_firstPlace cX0_firstPlace 1 (some .int), Cond.methodLink RX0 64 yX0_sideWorth, Cond.instanceMethod yX0_sideWorth, Cond.selects RX0 yX0_sideWorth yX0_sideWorth, Cond.static yX3_put, Cond.code yX3_put cX3_put 3 none, Cond.code yX0_answerWorth cX0_answerWorth 15 (some .int), Cond.fieldLink RX0 9 "NamePassingComparer$Game" "store" "LNamePassingComparer$Store;", Cond.static yX1_nextFresh, Cond.code yX1_nextFresh cX1_nextFresh 3 (some .int), Cond.methodLink RX1 15 Lib.Math.max.name, Cond.methodLink RX1 11 yX1_valueOf, Cond.code yX0_attackWorth cX0_attackWorth 11 (some .int), Cond.instanceMethod yX2_actionIn, Cond.selects RX2 yX2_actionIn yX2_actionIn, Cond.code yX2_actionIn cX2_actionIn 5 (some .int), Cond.fieldLink RX2 30 "NamePassingComparer$Store" "breadths" "[I", Cond.fieldLink RX2 46 "NamePassingComparer$Store" "guards" "[J"]
def wsL_related_r4 : List Cond := [Cond.fieldLink RX2 43 "NamePassingComparer$Store" "actions" "[I", Cond.static yX3_at_, Cond.code yX3_at_ cX3_at_ 2 (some .long), Cond.methodLink RX2 110 yX2_isOpen, Cond.static yX2_isOpen, Cond.code yX2_isOpen cX2_isOpen 6 (some .boolean), Cond.static yX1_areEqual, Cond.code yX1_areEqual cX1_areEqual 3 (some .boolean), Cond.methodLink RX0 72 yX0_agree, Cond.instanceMethod yX0_agree, Cond.selects RX0 yX0_agree yX0_agree, Cond.code yX0_agree cX0_agree 6 (some .boolean), Cond.methodLink RX0 76 yX0_answerWorth, Cond.instanceMethod yX0_answerWorth, Cond.selects RX0 yX0_answerWorth yX0_answerWorth, Cond.code yX0_sideWorth cX0_sideWorth 12 (some .int), Cond.methodLink RX0 46 yX0_lastChoice, Cond.instanceMethod yX0_lastChoice, Cond.selects RX0 yX0_lastChoice yX0_lastChoice, Cond.code yX0_lastChoice cX0_lastChoice 4 (some .int), Cond.methodLink RX0 103 yX0_isChosenWith, Cond.instanceMethod yX0_isChosenWith, Cond.selects RX0 yX0_isChosenWith yX0_isChosenWith, Cond.code yX0_isChosenWith cX0_isChosenWith 3 (some .boolean)]
def wsL_related_r5 : List Cond := [Cond.methodLink RX0 49 yX0_firstChoice, Cond.instanceMethod yX0_firstChoice, Cond.selects RX0 yX0_firstChoice yX0_firstChoice, Cond.code yX0_firstChoice cX0_firstChoice 3 (some .int), Cond.methodLink RX0 53 yX0_attackWorth, Cond.instanceMethod yX0_attackWorth, Cond.selects RX0 yX0_attackWorth yX0_attackWorth, Cond.methodLink RL 56 yX3_rounds, Cond.instanceMethod yX3_rounds, Cond.selects RX3 yX3_rounds yX3_rounds, Cond.code yX3_rounds cX3_rounds 5 (some .int)]
def wsL_related : List Cond := .code yL_related cL_related 3 (some .boolean) :: ((wsL_related_r1 ++ (wsL_related_r2 ++ (wsL_related_r3 ++ (wsL_related_r4 ++ wsL_related_r5)))) ++ wsX30 ++ wsX20 ++ wsX00)
abbrev vwCl : List vw_C := [(RX0, TX0, 2), (RX2, TX2, 12), (RX3, TX3, 2)]
end
section
theorem dX0_init_0 : decode cX0_init 0 = .ok (.aload_n 0, 1) := by decide +kernel
theorem dX0_init_1 : decode cX0_init 1 = .ok (.invokespecial 3, 3) := by decide +kernel
theorem dX0_init_4 : decode cX0_init 4 = .ok (.aload_n 0, 1) := by decide +kernel
theorem dX0_init_5 : decode cX0_init 5 = .ok (.aload_n 1, 1) := by decide +kernel
theorem dX0_init_6 : decode cX0_init 6 = .ok (.putfield 9, 3) := by decide +kernel
theorem dX0_init_9 : decode cX0_init 9 = .ok (.aload_n 0, 1) := by decide +kernel
theorem dX0_init_10 : decode cX0_init 10 = .ok (.sipush 4140, 3) := by decide +kernel
theorem dX0_init_13 : decode cX0_init 13 = .ok (.newarray .int, 2) := by decide +kernel
theorem dX0_init_15 : decode cX0_init 15 = .ok (.putfield 15, 3) := by decide +kernel
theorem dX0_init_18 : decode cX0_init 18 = .ok (.return_, 1) := by decide +kernel
theorem dX0_forget_0 : decode cX0_forget 0 = .ok (.iload_n 1, 1) := by decide +kernel
theorem dX0_forget_1 : decode cX0_forget 1 = .ok (.invokestatic 19, 3) := by decide +kernel
theorem dX0_forget_4 : decode cX0_forget 4 = .ok (.istore_n 2, 1) := by decide +kernel
theorem dX0_forget_5 : decode cX0_forget 5 = .ok (.iload_n 1, 1) := by decide +kernel
theorem dX0_forget_6 : decode cX0_forget 6 = .ok (.iconst 1, 1) := by decide +kernel
theorem dX0_forget_7 : decode cX0_forget 7 = .ok (.iadd, 1) := by decide +kernel
theorem dX0_forget_8 : decode cX0_forget 8 = .ok (.invokestatic 19, 3) := by decide +kernel
theorem dX0_forget_11 : decode cX0_forget 11 = .ok (.istore_n 3, 1) := by decide +kernel
theorem dX0_forget_12 : decode cX0_forget 12 = .ok (.iload_n 2, 1) := by decide +kernel
theorem dX0_forget_13 : decode cX0_forget 13 = .ok (.istore 4, 2) := by decide +kernel
theorem dX0_forget_15 : decode cX0_forget 15 = .ok (.iload 4, 2) := by decide +kernel
theorem dX0_forget_17 : decode cX0_forget 17 = .ok (.iload_n 3, 1) := by decide +kernel
theorem dX0_forget_18 : decode cX0_forget 18 = .ok (.if_icmp .ge 19, 3) := by decide +kernel
theorem dX0_forget_21 : decode cX0_forget 21 = .ok (.aload_n 0, 1) := by decide +kernel
theorem dX0_forget_22 : decode cX0_forget 22 = .ok (.getfield 15, 3) := by decide +kernel
theorem dX0_forget_25 : decode cX0_forget 25 = .ok (.iload 4, 2) := by decide +kernel
theorem dX0_forget_27 : decode cX0_forget 27 = .ok (.iconst 0, 1) := by decide +kernel
theorem dX0_forget_28 : decode cX0_forget 28 = .ok (.invokestatic 23, 3) := by decide +kernel
theorem dX0_forget_31 : decode cX0_forget 31 = .ok (.iinc 4 1, 3) := by decide +kernel
theorem dX0_forget_34 : decode cX0_forget 34 = .ok (.goto (-19), 3) := by decide +kernel
theorem dX0_forget_37 : decode cX0_forget 37 = .ok (.return_, 1) := by decide +kernel
theorem dX0_roundsOf_0 : decode cX0_roundsOf 0 = .ok (.aload_n 0, 1) := by decide +kernel
theorem dX0_roundsOf_1 : decode cX0_roundsOf 1 = .ok (.iload_n 3, 1) := by decide +kernel
theorem dX0_roundsOf_2 : decode cX0_roundsOf 2 = .ok (.iload_n 1, 1) := by decide +kernel
theorem dX0_roundsOf_3 : decode cX0_roundsOf 3 = .ok (.iload_n 2, 1) := by decide +kernel
theorem dX0_roundsOf_4 : decode cX0_roundsOf 4 = .ok (.iconst 1, 1) := by decide +kernel
theorem dX0_roundsOf_5 : decode cX0_roundsOf 5 = .ok (.iconst 3, 1) := by decide +kernel
theorem dX0_roundsOf_6 : decode cX0_roundsOf 6 = .ok (.invokevirtual 29, 3) := by decide +kernel
theorem dX0_roundsOf_9 : decode cX0_roundsOf 9 = .ok (.istore 4, 2) := by decide +kernel
theorem dX0_roundsOf_11 : decode cX0_roundsOf 11 = .ok (.iload 4, 2) := by decide +kernel
theorem dX0_roundsOf_13 : decode cX0_roundsOf 13 = .ok (.iconst 4, 1) := by decide +kernel
theorem dX0_roundsOf_14 : decode cX0_roundsOf 14 = .ok (.if_icmp .ne 8, 3) := by decide +kernel
theorem dX0_roundsOf_17 : decode cX0_roundsOf 17 = .ok (.bipush (-4), 2) := by decide +kernel
theorem dX0_roundsOf_19 : decode cX0_roundsOf 19 = .ok (.goto 5, 3) := by decide +kernel
theorem dX0_roundsOf_22 : decode cX0_roundsOf 22 = .ok (.iload 4, 2) := by decide +kernel
theorem dX0_roundsOf_24 : decode cX0_roundsOf 24 = .ok (.ireturn, 1) := by decide +kernel
theorem dX0_attackOf_0 : decode cX0_attackOf 0 = .ok (.aload_n 0, 1) := by decide +kernel
theorem dX0_attackOf_1 : decode cX0_attackOf 1 = .ok (.iload_n 1, 1) := by decide +kernel
theorem dX0_attackOf_2 : decode cX0_attackOf 2 = .ok (.iload_n 2, 1) := by decide +kernel
theorem dX0_attackOf_3 : decode cX0_attackOf 3 = .ok (.iload_n 3, 1) := by decide +kernel
theorem dX0_attackOf_4 : decode cX0_attackOf 4 = .ok (.invokevirtual 33, 3) := by decide +kernel
theorem dX0_attackOf_7 : decode cX0_attackOf 7 = .ok (.istore 4, 2) := by decide +kernel
theorem dX0_attackOf_9 : decode cX0_attackOf 9 = .ok (.iload 4, 2) := by decide +kernel
theorem dX0_attackOf_11 : decode cX0_attackOf 11 = .ok (.bipush (-4), 2) := by decide +kernel
theorem dX0_attackOf_13 : decode cX0_attackOf 13 = .ok (.if_icmp .ne 6, 3) := by decide +kernel
theorem dX0_attackOf_16 : decode cX0_attackOf 16 = .ok (.bipush (-4), 2) := by decide +kernel
theorem dX0_attackOf_18 : decode cX0_attackOf 18 = .ok (.ireturn, 1) := by decide +kernel
theorem dX0_attackOf_19 : decode cX0_attackOf 19 = .ok (.aload_n 0, 1) := by decide +kernel
theorem dX0_attackOf_20 : decode cX0_attackOf 20 = .ok (.iload_n 3, 1) := by decide +kernel
theorem dX0_attackOf_21 : decode cX0_attackOf 21 = .ok (.iload_n 1, 1) := by decide +kernel
theorem dX0_attackOf_22 : decode cX0_attackOf 22 = .ok (.iload_n 2, 1) := by decide +kernel
theorem dX0_attackOf_23 : decode cX0_attackOf 23 = .ok (.iload 4, 2) := by decide +kernel
theorem dX0_attackOf_25 : decode cX0_attackOf 25 = .ok (.invokevirtual 37, 3) := by decide +kernel
theorem dX0_attackOf_28 : decode cX0_attackOf 28 = .ok (.istore 5, 2) := by decide +kernel
theorem dX0_attackOf_30 : decode cX0_attackOf 30 = .ok (.iload 5, 2) := by decide +kernel
theorem dX0_attackOf_32 : decode cX0_attackOf 32 = .ok (.ifCond .lt 6, 3) := by decide +kernel
theorem dX0_attackOf_35 : decode cX0_attackOf 35 = .ok (.iload 5, 2) := by decide +kernel
theorem dX0_attackOf_37 : decode cX0_attackOf 37 = .ok (.ireturn, 1) := by decide +kernel
theorem dX0_attackOf_38 : decode cX0_attackOf 38 = .ok (.aload_n 0, 1) := by decide +kernel
theorem dX0_attackOf_39 : decode cX0_attackOf 39 = .ok (.iload_n 3, 1) := by decide +kernel
theorem dX0_attackOf_40 : decode cX0_attackOf 40 = .ok (.iload_n 2, 1) := by decide +kernel
theorem dX0_attackOf_41 : decode cX0_attackOf 41 = .ok (.iload_n 1, 1) := by decide +kernel
theorem dX0_attackOf_42 : decode cX0_attackOf 42 = .ok (.iload 4, 2) := by decide +kernel
theorem dX0_attackOf_44 : decode cX0_attackOf 44 = .ok (.invokevirtual 37, 3) := by decide +kernel
theorem dX0_attackOf_47 : decode cX0_attackOf 47 = .ok (.istore 6, 2) := by decide +kernel
theorem dX0_attackOf_49 : decode cX0_attackOf 49 = .ok (.iload 6, 2) := by decide +kernel
theorem dX0_attackOf_51 : decode cX0_attackOf 51 = .ok (.ifCond .lt 12, 3) := by decide +kernel
theorem dX0_attackOf_54 : decode cX0_attackOf 54 = .ok (.sipush 1000, 3) := by decide +kernel
theorem dX0_attackOf_57 : decode cX0_attackOf 57 = .ok (.iload 6, 2) := by decide +kernel
theorem dX0_attackOf_59 : decode cX0_attackOf 59 = .ok (.iadd, 1) := by decide +kernel
theorem dX0_attackOf_60 : decode cX0_attackOf 60 = .ok (.goto 5, 3) := by decide +kernel
theorem dX0_attackOf_63 : decode cX0_attackOf 63 = .ok (.bipush (-4), 2) := by decide +kernel
theorem dX0_attackOf_65 : decode cX0_attackOf 65 = .ok (.ireturn, 1) := by decide +kernel
theorem dX0_attackWith_0 : decode cX0_attackWith 0 = .ok (.iconst 1, 1) := by decide +kernel
theorem dX0_attackWith_1 : decode cX0_attackWith 1 = .ok (.istore 5, 2) := by decide +kernel
theorem dX0_attackWith_3 : decode cX0_attackWith 3 = .ok (.iconst 0, 1) := by decide +kernel
theorem dX0_attackWith_4 : decode cX0_attackWith 4 = .ok (.istore 6, 2) := by decide +kernel
theorem dX0_attackWith_6 : decode cX0_attackWith 6 = .ok (.iconst 0, 1) := by decide +kernel
theorem dX0_attackWith_7 : decode cX0_attackWith 7 = .ok (.istore 7, 2) := by decide +kernel
theorem dX0_attackWith_9 : decode cX0_attackWith 9 = .ok (.iload 7, 2) := by decide +kernel
theorem dX0_attackWith_11 : decode cX0_attackWith 11 = .ok (.iconst 3, 1) := by decide +kernel
theorem dX0_attackWith_12 : decode cX0_attackWith 12 = .ok (.if_icmp .ge 93, 3) := by decide +kernel
theorem dX0_attackWith_15 : decode cX0_attackWith 15 = .ok (.aload_n 0, 1) := by decide +kernel
theorem dX0_attackWith_16 : decode cX0_attackWith 16 = .ok (.getfield 9, 3) := by decide +kernel
theorem dX0_attackWith_19 : decode cX0_attackWith 19 = .ok (.iload_n 2, 1) := by decide +kernel
theorem dX0_attackWith_20 : decode cX0_attackWith 20 = .ok (.iload 7, 2) := by decide +kernel
theorem dX0_attackWith_22 : decode cX0_attackWith 22 = .ok (.iload 5, 2) := by decide +kernel
theorem dX0_attackWith_24 : decode cX0_attackWith 24 = .ok (.invokevirtual 41, 3) := by decide +kernel
theorem dX0_attackWith_27 : decode cX0_attackWith 27 = .ok (.istore 8, 2) := by decide +kernel
theorem dX0_attackWith_29 : decode cX0_attackWith 29 = .ok (.iload 8, 2) := by decide +kernel
theorem dX0_attackWith_31 : decode cX0_attackWith 31 = .ok (.bipush (-4), 2) := by decide +kernel
theorem dX0_attackWith_33 : decode cX0_attackWith 33 = .ok (.if_icmp .eq 66, 3) := by decide +kernel
theorem dX0_attackWith_36 : decode cX0_attackWith 36 = .ok (.aload_n 0, 1) := by decide +kernel
theorem dX0_attackWith_37 : decode cX0_attackWith 37 = .ok (.iload_n 1, 1) := by decide +kernel
theorem dX0_attackWith_38 : decode cX0_attackWith 38 = .ok (.iload 8, 2) := by decide +kernel
theorem dX0_attackWith_40 : decode cX0_attackWith 40 = .ok (.iload 5, 2) := by decide +kernel
theorem dX0_attackWith_42 : decode cX0_attackWith 42 = .ok (.invokevirtual 46, 3) := by decide +kernel
theorem dX0_attackWith_45 : decode cX0_attackWith 45 = .ok (.istore 9, 2) := by decide +kernel
theorem dX0_attackWith_47 : decode cX0_attackWith 47 = .ok (.aload_n 0, 1) := by decide +kernel
theorem dX0_attackWith_48 : decode cX0_attackWith 48 = .ok (.iload_n 1, 1) := by decide +kernel
theorem dX0_attackWith_49 : decode cX0_attackWith 49 = .ok (.iload 8, 2) := by decide +kernel
theorem dX0_attackWith_51 : decode cX0_attackWith 51 = .ok (.invokevirtual 49, 3) := by decide +kernel
theorem dX0_attackWith_54 : decode cX0_attackWith 54 = .ok (.istore 10, 2) := by decide +kernel
theorem dX0_attackWith_56 : decode cX0_attackWith 56 = .ok (.iload 10, 2) := by decide +kernel
theorem dX0_attackWith_58 : decode cX0_attackWith 58 = .ok (.iload 9, 2) := by decide +kernel
theorem dX0_attackWith_60 : decode cX0_attackWith 60 = .ok (.if_icmp .gt 36, 3) := by decide +kernel
theorem dX0_attackWith_63 : decode cX0_attackWith 63 = .ok (.aload_n 0, 1) := by decide +kernel
theorem dX0_attackWith_64 : decode cX0_attackWith 64 = .ok (.iload_n 1, 1) := by decide +kernel
theorem dX0_attackWith_65 : decode cX0_attackWith 65 = .ok (.iload 8, 2) := by decide +kernel
theorem dX0_attackWith_67 : decode cX0_attackWith 67 = .ok (.iload 10, 2) := by decide +kernel
theorem dX0_attackWith_69 : decode cX0_attackWith 69 = .ok (.iload_n 3, 1) := by decide +kernel
theorem dX0_attackWith_70 : decode cX0_attackWith 70 = .ok (.iload 5, 2) := by decide +kernel
theorem dX0_attackWith_72 : decode cX0_attackWith 72 = .ok (.iconst 3, 1) := by decide +kernel
theorem dX0_attackWith_73 : decode cX0_attackWith 73 = .ok (.invokevirtual 53, 3) := by decide +kernel
theorem dX0_attackWith_76 : decode cX0_attackWith 76 = .ok (.iload 4, 2) := by decide +kernel
theorem dX0_attackWith_78 : decode cX0_attackWith 78 = .ok (.if_icmp .ne 12, 3) := by decide +kernel
theorem dX0_attackWith_81 : decode cX0_attackWith 81 = .ok (.bipush 10, 2) := by decide +kernel
theorem dX0_attackWith_83 : decode cX0_attackWith 83 = .ok (.iload 6, 2) := by decide +kernel
theorem dX0_attackWith_85 : decode cX0_attackWith 85 = .ok (.imul, 1) := by decide +kernel
theorem dX0_attackWith_86 : decode cX0_attackWith 86 = .ok (.iload 10, 2) := by decide +kernel
theorem dX0_attackWith_88 : decode cX0_attackWith 88 = .ok (.iadd, 1) := by decide +kernel
theorem dX0_attackWith_89 : decode cX0_attackWith 89 = .ok (.ireturn, 1) := by decide +kernel
theorem dX0_attackWith_90 : decode cX0_attackWith 90 = .ok (.iinc 10 1, 3) := by decide +kernel
theorem dX0_attackWith_93 : decode cX0_attackWith 93 = .ok (.goto (-37), 3) := by decide +kernel
theorem dX0_attackWith_96 : decode cX0_attackWith 96 = .ok (.iinc 6 1, 3) := by decide +kernel
theorem dX0_attackWith_99 : decode cX0_attackWith 99 = .ok (.iinc 7 1, 3) := by decide +kernel
theorem dX0_attackWith_102 : decode cX0_attackWith 102 = .ok (.goto (-93), 3) := by decide +kernel
theorem dX0_attackWith_105 : decode cX0_attackWith 105 = .ok (.bipush (-4), 2) := by decide +kernel
theorem dX0_attackWith_107 : decode cX0_attackWith 107 = .ok (.ireturn, 1) := by decide +kernel
theorem dX0_worth_0 : decode cX0_worth 0 = .ok (.iload 5, 2) := by decide +kernel
theorem dX0_worth_2 : decode cX0_worth 2 = .ok (.ifCond .le 8, 3) := by decide +kernel
theorem dX0_worth_5 : decode cX0_worth 5 = .ok (.iload_n 2, 1) := by decide +kernel
theorem dX0_worth_6 : decode cX0_worth 6 = .ok (.iload_n 3, 1) := by decide +kernel
theorem dX0_worth_7 : decode cX0_worth 7 = .ok (.if_icmp .ne 5, 3) := by decide +kernel
theorem dX0_worth_10 : decode cX0_worth 10 = .ok (.iconst 4, 1) := by decide +kernel
theorem dX0_worth_11 : decode cX0_worth 11 = .ok (.ireturn, 1) := by decide +kernel
theorem dX0_worth_12 : decode cX0_worth 12 = .ok (.iload_n 1, 1) := by decide +kernel
theorem dX0_worth_13 : decode cX0_worth 13 = .ok (.iload_n 2, 1) := by decide +kernel
theorem dX0_worth_14 : decode cX0_worth 14 = .ok (.iload_n 3, 1) := by decide +kernel
theorem dX0_worth_15 : decode cX0_worth 15 = .ok (.iload 4, 2) := by decide +kernel
theorem dX0_worth_17 : decode cX0_worth 17 = .ok (.invokestatic 57, 3) := by decide +kernel
theorem dX0_worth_20 : decode cX0_worth 20 = .ok (.istore 6, 2) := by decide +kernel
theorem dX0_worth_22 : decode cX0_worth 22 = .ok (.aload_n 0, 1) := by decide +kernel
theorem dX0_worth_23 : decode cX0_worth 23 = .ok (.getfield 15, 3) := by decide +kernel
theorem dX0_worth_26 : decode cX0_worth 26 = .ok (.iload 6, 2) := by decide +kernel
theorem dX0_worth_28 : decode cX0_worth 28 = .ok (.invokestatic 60, 3) := by decide +kernel
theorem dX0_worth_31 : decode cX0_worth 31 = .ok (.istore 7, 2) := by decide +kernel
theorem dX0_worth_33 : decode cX0_worth 33 = .ok (.iload 7, 2) := by decide +kernel
theorem dX0_worth_35 : decode cX0_worth 35 = .ok (.ifCond .eq 6, 3) := by decide +kernel
theorem dX0_worth_38 : decode cX0_worth 38 = .ok (.iload 7, 2) := by decide +kernel
theorem dX0_worth_40 : decode cX0_worth 40 = .ok (.ireturn, 1) := by decide +kernel
theorem dX0_worth_41 : decode cX0_worth 41 = .ok (.aload_n 0, 1) := by decide +kernel
theorem dX0_worth_42 : decode cX0_worth 42 = .ok (.iload_n 1, 1) := by decide +kernel
theorem dX0_worth_43 : decode cX0_worth 43 = .ok (.iload_n 2, 1) := by decide +kernel
theorem dX0_worth_44 : decode cX0_worth 44 = .ok (.iload_n 3, 1) := by decide +kernel
theorem dX0_worth_45 : decode cX0_worth 45 = .ok (.iload 4, 2) := by decide +kernel
theorem dX0_worth_47 : decode cX0_worth 47 = .ok (.iload 5, 2) := by decide +kernel
theorem dX0_worth_49 : decode cX0_worth 49 = .ok (.invokevirtual 64, 3) := by decide +kernel
theorem dX0_worth_52 : decode cX0_worth 52 = .ok (.istore 8, 2) := by decide +kernel
theorem dX0_worth_54 : decode cX0_worth 54 = .ok (.aload_n 0, 1) := by decide +kernel
theorem dX0_worth_55 : decode cX0_worth 55 = .ok (.iload_n 1, 1) := by decide +kernel
theorem dX0_worth_56 : decode cX0_worth 56 = .ok (.iload_n 3, 1) := by decide +kernel
theorem dX0_worth_57 : decode cX0_worth 57 = .ok (.iload_n 2, 1) := by decide +kernel
theorem dX0_worth_58 : decode cX0_worth 58 = .ok (.iload 4, 2) := by decide +kernel
theorem dX0_worth_60 : decode cX0_worth 60 = .ok (.iload 5, 2) := by decide +kernel
theorem dX0_worth_62 : decode cX0_worth 62 = .ok (.invokevirtual 64, 3) := by decide +kernel
theorem dX0_worth_65 : decode cX0_worth 65 = .ok (.istore 9, 2) := by decide +kernel
theorem dX0_worth_67 : decode cX0_worth 67 = .ok (.iload 8, 2) := by decide +kernel
theorem dX0_worth_69 : decode cX0_worth 69 = .ok (.iload 9, 2) := by decide +kernel
theorem dX0_worth_71 : decode cX0_worth 71 = .ok (.invokestatic 67, 3) := by decide +kernel
theorem dX0_worth_74 : decode cX0_worth 74 = .ok (.istore 10, 2) := by decide +kernel
theorem dX0_worth_76 : decode cX0_worth 76 = .ok (.aload_n 0, 1) := by decide +kernel
theorem dX0_worth_77 : decode cX0_worth 77 = .ok (.getfield 15, 3) := by decide +kernel
theorem dX0_worth_80 : decode cX0_worth 80 = .ok (.iload 6, 2) := by decide +kernel
theorem dX0_worth_82 : decode cX0_worth 82 = .ok (.iload 10, 2) := by decide +kernel
theorem dX0_worth_84 : decode cX0_worth 84 = .ok (.invokestatic 23, 3) := by decide +kernel
theorem dX0_worth_87 : decode cX0_worth 87 = .ok (.iload 10, 2) := by decide +kernel
theorem dX0_worth_89 : decode cX0_worth 89 = .ok (.ireturn, 1) := by decide +kernel
theorem dX0_sideWorth_0 : decode cX0_sideWorth 0 = .ok (.iconst 4, 1) := by decide +kernel
theorem dX0_sideWorth_1 : decode cX0_sideWorth 1 = .ok (.istore 6, 2) := by decide +kernel
theorem dX0_sideWorth_3 : decode cX0_sideWorth 3 = .ok (.iconst 0, 1) := by decide +kernel
theorem dX0_sideWorth_4 : decode cX0_sideWorth 4 = .ok (.istore 7, 2) := by decide +kernel
theorem dX0_sideWorth_6 : decode cX0_sideWorth 6 = .ok (.iload 7, 2) := by decide +kernel
theorem dX0_sideWorth_8 : decode cX0_sideWorth 8 = .ok (.iconst 3, 1) := by decide +kernel
theorem dX0_sideWorth_9 : decode cX0_sideWorth 9 = .ok (.if_icmp .ge 94, 3) := by decide +kernel
theorem dX0_sideWorth_12 : decode cX0_sideWorth 12 = .ok (.iload 6, 2) := by decide +kernel
theorem dX0_sideWorth_14 : decode cX0_sideWorth 14 = .ok (.iconst 1, 1) := by decide +kernel
theorem dX0_sideWorth_15 : decode cX0_sideWorth 15 = .ok (.if_icmp .le 88, 3) := by decide +kernel
theorem dX0_sideWorth_18 : decode cX0_sideWorth 18 = .ok (.aload_n 0, 1) := by decide +kernel
theorem dX0_sideWorth_19 : decode cX0_sideWorth 19 = .ok (.getfield 9, 3) := by decide +kernel
theorem dX0_sideWorth_22 : decode cX0_sideWorth 22 = .ok (.iload_n 2, 1) := by decide +kernel
theorem dX0_sideWorth_23 : decode cX0_sideWorth 23 = .ok (.iload 7, 2) := by decide +kernel
theorem dX0_sideWorth_25 : decode cX0_sideWorth 25 = .ok (.iload 4, 2) := by decide +kernel
theorem dX0_sideWorth_27 : decode cX0_sideWorth 27 = .ok (.invokevirtual 41, 3) := by decide +kernel
theorem dX0_sideWorth_30 : decode cX0_sideWorth 30 = .ok (.istore 8, 2) := by decide +kernel
theorem dX0_sideWorth_32 : decode cX0_sideWorth 32 = .ok (.iload 8, 2) := by decide +kernel
theorem dX0_sideWorth_34 : decode cX0_sideWorth 34 = .ok (.bipush (-4), 2) := by decide +kernel
theorem dX0_sideWorth_36 : decode cX0_sideWorth 36 = .ok (.if_icmp .eq 61, 3) := by decide +kernel
theorem dX0_sideWorth_39 : decode cX0_sideWorth 39 = .ok (.aload_n 0, 1) := by decide +kernel
theorem dX0_sideWorth_40 : decode cX0_sideWorth 40 = .ok (.iload_n 1, 1) := by decide +kernel
theorem dX0_sideWorth_41 : decode cX0_sideWorth 41 = .ok (.iload 8, 2) := by decide +kernel
theorem dX0_sideWorth_43 : decode cX0_sideWorth 43 = .ok (.iload 4, 2) := by decide +kernel
theorem dX0_sideWorth_45 : decode cX0_sideWorth 45 = .ok (.invokevirtual 46, 3) := by decide +kernel
theorem dX0_sideWorth_48 : decode cX0_sideWorth 48 = .ok (.istore 9, 2) := by decide +kernel
theorem dX0_sideWorth_50 : decode cX0_sideWorth 50 = .ok (.aload_n 0, 1) := by decide +kernel
theorem dX0_sideWorth_51 : decode cX0_sideWorth 51 = .ok (.iload_n 1, 1) := by decide +kernel
theorem dX0_sideWorth_52 : decode cX0_sideWorth 52 = .ok (.iload 8, 2) := by decide +kernel
theorem dX0_sideWorth_54 : decode cX0_sideWorth 54 = .ok (.invokevirtual 49, 3) := by decide +kernel
theorem dX0_sideWorth_57 : decode cX0_sideWorth 57 = .ok (.istore 10, 2) := by decide +kernel
theorem dX0_sideWorth_59 : decode cX0_sideWorth 59 = .ok (.iload 10, 2) := by decide +kernel
theorem dX0_sideWorth_61 : decode cX0_sideWorth 61 = .ok (.iload 9, 2) := by decide +kernel
theorem dX0_sideWorth_63 : decode cX0_sideWorth 63 = .ok (.if_icmp .gt 34, 3) := by decide +kernel
theorem dX0_sideWorth_66 : decode cX0_sideWorth 66 = .ok (.aload_n 0, 1) := by decide +kernel
theorem dX0_sideWorth_67 : decode cX0_sideWorth 67 = .ok (.iload_n 1, 1) := by decide +kernel
theorem dX0_sideWorth_68 : decode cX0_sideWorth 68 = .ok (.iload 8, 2) := by decide +kernel
theorem dX0_sideWorth_70 : decode cX0_sideWorth 70 = .ok (.iload 10, 2) := by decide +kernel
theorem dX0_sideWorth_72 : decode cX0_sideWorth 72 = .ok (.iload_n 3, 1) := by decide +kernel
theorem dX0_sideWorth_73 : decode cX0_sideWorth 73 = .ok (.iload 4, 2) := by decide +kernel
theorem dX0_sideWorth_75 : decode cX0_sideWorth 75 = .ok (.iload 5, 2) := by decide +kernel
theorem dX0_sideWorth_77 : decode cX0_sideWorth 77 = .ok (.invokevirtual 53, 3) := by decide +kernel
theorem dX0_sideWorth_80 : decode cX0_sideWorth 80 = .ok (.istore 11, 2) := by decide +kernel
theorem dX0_sideWorth_82 : decode cX0_sideWorth 82 = .ok (.iload 6, 2) := by decide +kernel
theorem dX0_sideWorth_84 : decode cX0_sideWorth 84 = .ok (.iload 11, 2) := by decide +kernel
theorem dX0_sideWorth_86 : decode cX0_sideWorth 86 = .ok (.invokestatic 67, 3) := by decide +kernel
theorem dX0_sideWorth_89 : decode cX0_sideWorth 89 = .ok (.istore 6, 2) := by decide +kernel
theorem dX0_sideWorth_91 : decode cX0_sideWorth 91 = .ok (.iinc 10 1, 3) := by decide +kernel
theorem dX0_sideWorth_94 : decode cX0_sideWorth 94 = .ok (.goto (-35), 3) := by decide +kernel
theorem dX0_sideWorth_97 : decode cX0_sideWorth 97 = .ok (.iinc 7 1, 3) := by decide +kernel
theorem dX0_sideWorth_100 : decode cX0_sideWorth 100 = .ok (.goto (-94), 3) := by decide +kernel
theorem dX0_sideWorth_103 : decode cX0_sideWorth 103 = .ok (.iload 6, 2) := by decide +kernel
theorem dX0_sideWorth_105 : decode cX0_sideWorth 105 = .ok (.ireturn, 1) := by decide +kernel
theorem dX0_attackWorth_0 : decode cX0_attackWorth 0 = .ok (.iconst 0, 1) := by decide +kernel
theorem dX0_attackWorth_1 : decode cX0_attackWorth 1 = .ok (.istore 7, 2) := by decide +kernel
theorem dX0_attackWorth_3 : decode cX0_attackWorth 3 = .ok (.iconst 0, 1) := by decide +kernel
theorem dX0_attackWorth_4 : decode cX0_attackWorth 4 = .ok (.istore 8, 2) := by decide +kernel
theorem dX0_attackWorth_6 : decode cX0_attackWorth 6 = .ok (.iload 8, 2) := by decide +kernel
theorem dX0_attackWorth_8 : decode cX0_attackWorth 8 = .ok (.iconst 3, 1) := by decide +kernel
theorem dX0_attackWorth_9 : decode cX0_attackWorth 9 = .ok (.if_icmp .ge 73, 3) := by decide +kernel
theorem dX0_attackWorth_12 : decode cX0_attackWorth 12 = .ok (.iload 7, 2) := by decide +kernel
theorem dX0_attackWorth_14 : decode cX0_attackWorth 14 = .ok (.iconst 4, 1) := by decide +kernel
theorem dX0_attackWorth_15 : decode cX0_attackWorth 15 = .ok (.if_icmp .ge 67, 3) := by decide +kernel
theorem dX0_attackWorth_18 : decode cX0_attackWorth 18 = .ok (.aload_n 0, 1) := by decide +kernel
theorem dX0_attackWorth_19 : decode cX0_attackWorth 19 = .ok (.getfield 9, 3) := by decide +kernel
theorem dX0_attackWorth_22 : decode cX0_attackWorth 22 = .ok (.iload 4, 2) := by decide +kernel
theorem dX0_attackWorth_24 : decode cX0_attackWorth 24 = .ok (.iload 8, 2) := by decide +kernel
theorem dX0_attackWorth_26 : decode cX0_attackWorth 26 = .ok (.iload 5, 2) := by decide +kernel
theorem dX0_attackWorth_28 : decode cX0_attackWorth 28 = .ok (.invokevirtual 41, 3) := by decide +kernel
theorem dX0_attackWorth_31 : decode cX0_attackWorth 31 = .ok (.istore 9, 2) := by decide +kernel
theorem dX0_attackWorth_33 : decode cX0_attackWorth 33 = .ok (.iload 9, 2) := by decide +kernel
theorem dX0_attackWorth_35 : decode cX0_attackWorth 35 = .ok (.bipush (-4), 2) := by decide +kernel
theorem dX0_attackWorth_37 : decode cX0_attackWorth 37 = .ok (.if_icmp .eq 39, 3) := by decide +kernel
theorem dX0_attackWorth_40 : decode cX0_attackWorth 40 = .ok (.aload_n 0, 1) := by decide +kernel
theorem dX0_attackWorth_41 : decode cX0_attackWorth 41 = .ok (.iload_n 2, 1) := by decide +kernel
theorem dX0_attackWorth_42 : decode cX0_attackWorth 42 = .ok (.iload 9, 2) := by decide +kernel
theorem dX0_attackWorth_44 : decode cX0_attackWorth 44 = .ok (.iload 5, 2) := by decide +kernel
theorem dX0_attackWorth_46 : decode cX0_attackWorth 46 = .ok (.invokevirtual 72, 3) := by decide +kernel
theorem dX0_attackWorth_49 : decode cX0_attackWorth 49 = .ok (.ifCond .eq 27, 3) := by decide +kernel
theorem dX0_attackWorth_52 : decode cX0_attackWorth 52 = .ok (.aload_n 0, 1) := by decide +kernel
theorem dX0_attackWorth_53 : decode cX0_attackWorth 53 = .ok (.iload_n 1, 1) := by decide +kernel
theorem dX0_attackWorth_54 : decode cX0_attackWorth 54 = .ok (.iload_n 2, 1) := by decide +kernel
theorem dX0_attackWorth_55 : decode cX0_attackWorth 55 = .ok (.iload_n 3, 1) := by decide +kernel
theorem dX0_attackWorth_56 : decode cX0_attackWorth 56 = .ok (.iload 9, 2) := by decide +kernel
theorem dX0_attackWorth_58 : decode cX0_attackWorth 58 = .ok (.iload 5, 2) := by decide +kernel
theorem dX0_attackWorth_60 : decode cX0_attackWorth 60 = .ok (.iload 6, 2) := by decide +kernel
theorem dX0_attackWorth_62 : decode cX0_attackWorth 62 = .ok (.invokevirtual 76, 3) := by decide +kernel
theorem dX0_attackWorth_65 : decode cX0_attackWorth 65 = .ok (.istore 10, 2) := by decide +kernel
theorem dX0_attackWorth_67 : decode cX0_attackWorth 67 = .ok (.iload 7, 2) := by decide +kernel
theorem dX0_attackWorth_69 : decode cX0_attackWorth 69 = .ok (.iload 10, 2) := by decide +kernel
theorem dX0_attackWorth_71 : decode cX0_attackWorth 71 = .ok (.invokestatic 79, 3) := by decide +kernel
theorem dX0_attackWorth_74 : decode cX0_attackWorth 74 = .ok (.istore 7, 2) := by decide +kernel
theorem dX0_attackWorth_76 : decode cX0_attackWorth 76 = .ok (.iinc 8 1, 3) := by decide +kernel
theorem dX0_attackWorth_79 : decode cX0_attackWorth 79 = .ok (.goto (-73), 3) := by decide +kernel
theorem dX0_attackWorth_82 : decode cX0_attackWorth 82 = .ok (.iconst 4, 1) := by decide +kernel
theorem dX0_attackWorth_83 : decode cX0_attackWorth 83 = .ok (.iload 7, 2) := by decide +kernel
theorem dX0_attackWorth_85 : decode cX0_attackWorth 85 = .ok (.iconst 1, 1) := by decide +kernel
theorem dX0_attackWorth_86 : decode cX0_attackWorth 86 = .ok (.iadd, 1) := by decide +kernel
theorem dX0_attackWorth_87 : decode cX0_attackWorth 87 = .ok (.invokestatic 67, 3) := by decide +kernel
theorem dX0_attackWorth_90 : decode cX0_attackWorth 90 = .ok (.ireturn, 1) := by decide +kernel
theorem dX0_answerWorth_0 : decode cX0_answerWorth 0 = .ok (.aload_n 0, 1) := by decide +kernel
theorem dX0_answerWorth_1 : decode cX0_answerWorth 1 = .ok (.getfield 9, 3) := by decide +kernel
theorem dX0_answerWorth_4 : decode cX0_answerWorth 4 = .ok (.getfield 82, 3) := by decide +kernel
theorem dX0_answerWorth_7 : decode cX0_answerWorth 7 = .ok (.iload_n 2, 1) := by decide +kernel
theorem dX0_answerWorth_8 : decode cX0_answerWorth 8 = .ok (.invokestatic 60, 3) := by decide +kernel
theorem dX0_answerWorth_11 : decode cX0_answerWorth 11 = .ok (.istore 7, 2) := by decide +kernel
theorem dX0_answerWorth_13 : decode cX0_answerWorth 13 = .ok (.aload_n 0, 1) := by decide +kernel
theorem dX0_answerWorth_14 : decode cX0_answerWorth 14 = .ok (.getfield 9, 3) := by decide +kernel
theorem dX0_answerWorth_17 : decode cX0_answerWorth 17 = .ok (.getfield 82, 3) := by decide +kernel
theorem dX0_answerWorth_20 : decode cX0_answerWorth 20 = .ok (.iload 4, 2) := by decide +kernel
theorem dX0_answerWorth_22 : decode cX0_answerWorth 22 = .ok (.invokestatic 60, 3) := by decide +kernel
theorem dX0_answerWorth_25 : decode cX0_answerWorth 25 = .ok (.istore 8, 2) := by decide +kernel
theorem dX0_answerWorth_27 : decode cX0_answerWorth 27 = .ok (.aload_n 0, 1) := by decide +kernel
theorem dX0_answerWorth_28 : decode cX0_answerWorth 28 = .ok (.getfield 9, 3) := by decide +kernel
theorem dX0_answerWorth_31 : decode cX0_answerWorth 31 = .ok (.getfield 85, 3) := by decide +kernel
theorem dX0_answerWorth_34 : decode cX0_answerWorth 34 = .ok (.iload_n 2, 1) := by decide +kernel
theorem dX0_answerWorth_35 : decode cX0_answerWorth 35 = .ok (.invokestatic 60, 3) := by decide +kernel
theorem dX0_answerWorth_38 : decode cX0_answerWorth 38 = .ok (.iconst 3, 1) := by decide +kernel
theorem dX0_answerWorth_39 : decode cX0_answerWorth 39 = .ok (.if_icmp .eq 19, 3) := by decide +kernel
theorem dX0_answerWorth_42 : decode cX0_answerWorth 42 = .ok (.aload_n 0, 1) := by decide +kernel
theorem dX0_answerWorth_43 : decode cX0_answerWorth 43 = .ok (.iload_n 1, 1) := by decide +kernel
theorem dX0_answerWorth_44 : decode cX0_answerWorth 44 = .ok (.iload 7, 2) := by decide +kernel
theorem dX0_answerWorth_46 : decode cX0_answerWorth 46 = .ok (.iload 8, 2) := by decide +kernel
theorem dX0_answerWorth_48 : decode cX0_answerWorth 48 = .ok (.iload 5, 2) := by decide +kernel
theorem dX0_answerWorth_50 : decode cX0_answerWorth 50 = .ok (.iload 6, 2) := by decide +kernel
theorem dX0_answerWorth_52 : decode cX0_answerWorth 52 = .ok (.iconst 1, 1) := by decide +kernel
theorem dX0_answerWorth_53 : decode cX0_answerWorth 53 = .ok (.isub, 1) := by decide +kernel
theorem dX0_answerWorth_54 : decode cX0_answerWorth 54 = .ok (.invokevirtual 29, 3) := by decide +kernel
theorem dX0_answerWorth_57 : decode cX0_answerWorth 57 = .ok (.ireturn, 1) := by decide +kernel
theorem dX0_answerWorth_58 : decode cX0_answerWorth 58 = .ok (.iload 5, 2) := by decide +kernel
theorem dX0_answerWorth_60 : decode cX0_answerWorth 60 = .ok (.invokestatic 88, 3) := by decide +kernel
theorem dX0_answerWorth_63 : decode cX0_answerWorth 63 = .ok (.istore 9, 2) := by decide +kernel
theorem dX0_answerWorth_65 : decode cX0_answerWorth 65 = .ok (.iload_n 1, 1) := by decide +kernel
theorem dX0_answerWorth_66 : decode cX0_answerWorth 66 = .ok (.iconst 2, 1) := by decide +kernel
theorem dX0_answerWorth_67 : decode cX0_answerWorth 67 = .ok (.if_icmp .ne 7, 3) := by decide +kernel
theorem dX0_answerWorth_70 : decode cX0_answerWorth 70 = .ok (.iconst 0, 1) := by decide +kernel
theorem dX0_answerWorth_71 : decode cX0_answerWorth 71 = .ok (.goto 14, 3) := by decide +kernel
theorem dX0_answerWorth_74 : decode cX0_answerWorth 74 = .ok (.iload_n 1, 1) := by decide +kernel
theorem dX0_answerWorth_75 : decode cX0_answerWorth 75 = .ok (.iconst 1, 1) := by decide +kernel
theorem dX0_answerWorth_76 : decode cX0_answerWorth 76 = .ok (.if_icmp .ne 7, 3) := by decide +kernel
theorem dX0_answerWorth_79 : decode cX0_answerWorth 79 = .ok (.iload_n 3, 1) := by decide +kernel
theorem dX0_answerWorth_80 : decode cX0_answerWorth 80 = .ok (.goto 5, 3) := by decide +kernel
theorem dX0_answerWorth_83 : decode cX0_answerWorth 83 = .ok (.iload 9, 2) := by decide +kernel
theorem dX0_answerWorth_85 : decode cX0_answerWorth 85 = .ok (.istore 10, 2) := by decide +kernel
theorem dX0_answerWorth_87 : decode cX0_answerWorth 87 = .ok (.iload_n 1, 1) := by decide +kernel
theorem dX0_answerWorth_88 : decode cX0_answerWorth 88 = .ok (.iconst 1, 1) := by decide +kernel
theorem dX0_answerWorth_89 : decode cX0_answerWorth 89 = .ok (.if_icmp .ne 7, 3) := by decide +kernel
theorem dX0_answerWorth_92 : decode cX0_answerWorth 92 = .ok (.iload_n 3, 1) := by decide +kernel
theorem dX0_answerWorth_93 : decode cX0_answerWorth 93 = .ok (.goto 5, 3) := by decide +kernel
theorem dX0_answerWorth_96 : decode cX0_answerWorth 96 = .ok (.iload 9, 2) := by decide +kernel
theorem dX0_answerWorth_98 : decode cX0_answerWorth 98 = .ok (.istore 11, 2) := by decide +kernel
theorem dX0_answerWorth_100 : decode cX0_answerWorth 100 = .ok (.iconst 4, 1) := by decide +kernel
theorem dX0_answerWorth_101 : decode cX0_answerWorth 101 = .ok (.istore 12, 2) := by decide +kernel
theorem dX0_answerWorth_103 : decode cX0_answerWorth 103 = .ok (.iload 10, 2) := by decide +kernel
theorem dX0_answerWorth_105 : decode cX0_answerWorth 105 = .ok (.istore 13, 2) := by decide +kernel
theorem dX0_answerWorth_107 : decode cX0_answerWorth 107 = .ok (.iload 13, 2) := by decide +kernel
theorem dX0_answerWorth_109 : decode cX0_answerWorth 109 = .ok (.iload 11, 2) := by decide +kernel
theorem dX0_answerWorth_111 : decode cX0_answerWorth 111 = .ok (.if_icmp .gt 40, 3) := by decide +kernel
theorem dX0_answerWorth_114 : decode cX0_answerWorth 114 = .ok (.iload 5, 2) := by decide +kernel
theorem dX0_answerWorth_116 : decode cX0_answerWorth 116 = .ok (.iload 13, 2) := by decide +kernel
theorem dX0_answerWorth_118 : decode cX0_answerWorth 118 = .ok (.invokestatic 91, 3) := by decide +kernel
theorem dX0_answerWorth_121 : decode cX0_answerWorth 121 = .ok (.istore 14, 2) := by decide +kernel
theorem dX0_answerWorth_123 : decode cX0_answerWorth 123 = .ok (.iload 12, 2) := by decide +kernel
theorem dX0_answerWorth_125 : decode cX0_answerWorth 125 = .ok (.aload_n 0, 1) := by decide +kernel
theorem dX0_answerWorth_126 : decode cX0_answerWorth 126 = .ok (.iload_n 1, 1) := by decide +kernel
theorem dX0_answerWorth_127 : decode cX0_answerWorth 127 = .ok (.iload 7, 2) := by decide +kernel
theorem dX0_answerWorth_129 : decode cX0_answerWorth 129 = .ok (.iload 8, 2) := by decide +kernel
theorem dX0_answerWorth_131 : decode cX0_answerWorth 131 = .ok (.iload 14, 2) := by decide +kernel
theorem dX0_answerWorth_133 : decode cX0_answerWorth 133 = .ok (.iload 6, 2) := by decide +kernel
theorem dX0_answerWorth_135 : decode cX0_answerWorth 135 = .ok (.iconst 1, 1) := by decide +kernel
theorem dX0_answerWorth_136 : decode cX0_answerWorth 136 = .ok (.isub, 1) := by decide +kernel
theorem dX0_answerWorth_137 : decode cX0_answerWorth 137 = .ok (.invokevirtual 29, 3) := by decide +kernel
theorem dX0_answerWorth_140 : decode cX0_answerWorth 140 = .ok (.invokestatic 67, 3) := by decide +kernel
theorem dX0_answerWorth_143 : decode cX0_answerWorth 143 = .ok (.istore 12, 2) := by decide +kernel
theorem dX0_answerWorth_145 : decode cX0_answerWorth 145 = .ok (.iinc 13 1, 3) := by decide +kernel
theorem dX0_answerWorth_148 : decode cX0_answerWorth 148 = .ok (.goto (-41), 3) := by decide +kernel
theorem dX0_answerWorth_151 : decode cX0_answerWorth 151 = .ok (.iload 12, 2) := by decide +kernel
theorem dX0_answerWorth_153 : decode cX0_answerWorth 153 = .ok (.ireturn, 1) := by decide +kernel
theorem dX0_agree_0 : decode cX0_agree 0 = .ok (.aload_n 0, 1) := by decide +kernel
theorem dX0_agree_1 : decode cX0_agree 1 = .ok (.getfield 9, 3) := by decide +kernel
theorem dX0_agree_4 : decode cX0_agree 4 = .ok (.getfield 85, 3) := by decide +kernel
theorem dX0_agree_7 : decode cX0_agree 7 = .ok (.iload_n 1, 1) := by decide +kernel
theorem dX0_agree_8 : decode cX0_agree 8 = .ok (.invokestatic 60, 3) := by decide +kernel
theorem dX0_agree_11 : decode cX0_agree 11 = .ok (.aload_n 0, 1) := by decide +kernel
theorem dX0_agree_12 : decode cX0_agree 12 = .ok (.getfield 9, 3) := by decide +kernel
theorem dX0_agree_15 : decode cX0_agree 15 = .ok (.getfield 85, 3) := by decide +kernel
theorem dX0_agree_18 : decode cX0_agree 18 = .ok (.iload_n 2, 1) := by decide +kernel
theorem dX0_agree_19 : decode cX0_agree 19 = .ok (.invokestatic 60, 3) := by decide +kernel
theorem dX0_agree_22 : decode cX0_agree 22 = .ok (.if_icmp .eq 5, 3) := by decide +kernel
theorem dX0_agree_25 : decode cX0_agree 25 = .ok (.iconst 0, 1) := by decide +kernel
theorem dX0_agree_26 : decode cX0_agree 26 = .ok (.ireturn, 1) := by decide +kernel
theorem dX0_agree_27 : decode cX0_agree 27 = .ok (.aload_n 0, 1) := by decide +kernel
theorem dX0_agree_28 : decode cX0_agree 28 = .ok (.getfield 9, 3) := by decide +kernel
theorem dX0_agree_31 : decode cX0_agree 31 = .ok (.getfield 94, 3) := by decide +kernel
theorem dX0_agree_34 : decode cX0_agree 34 = .ok (.iload_n 1, 1) := by decide +kernel
theorem dX0_agree_35 : decode cX0_agree 35 = .ok (.invokestatic 60, 3) := by decide +kernel
theorem dX0_agree_38 : decode cX0_agree 38 = .ok (.istore 4, 2) := by decide +kernel
theorem dX0_agree_40 : decode cX0_agree 40 = .ok (.aload_n 0, 1) := by decide +kernel
theorem dX0_agree_41 : decode cX0_agree 41 = .ok (.getfield 9, 3) := by decide +kernel
theorem dX0_agree_44 : decode cX0_agree 44 = .ok (.getfield 97, 3) := by decide +kernel
theorem dX0_agree_47 : decode cX0_agree 47 = .ok (.iload_n 1, 1) := by decide +kernel
theorem dX0_agree_48 : decode cX0_agree 48 = .ok (.invokestatic 60, 3) := by decide +kernel
theorem dX0_agree_51 : decode cX0_agree 51 = .ok (.istore 5, 2) := by decide +kernel
theorem dX0_agree_53 : decode cX0_agree 53 = .ok (.iload 4, 2) := by decide +kernel
theorem dX0_agree_55 : decode cX0_agree 55 = .ok (.aload_n 0, 1) := by decide +kernel
theorem dX0_agree_56 : decode cX0_agree 56 = .ok (.getfield 9, 3) := by decide +kernel
theorem dX0_agree_59 : decode cX0_agree 59 = .ok (.getfield 94, 3) := by decide +kernel
theorem dX0_agree_62 : decode cX0_agree 62 = .ok (.iload_n 2, 1) := by decide +kernel
theorem dX0_agree_63 : decode cX0_agree 63 = .ok (.invokestatic 60, 3) := by decide +kernel
theorem dX0_agree_66 : decode cX0_agree 66 = .ok (.iload_n 3, 1) := by decide +kernel
theorem dX0_agree_67 : decode cX0_agree 67 = .ok (.invokestatic 100, 3) := by decide +kernel
theorem dX0_agree_70 : decode cX0_agree 70 = .ok (.ifCond .eq 27, 3) := by decide +kernel
theorem dX0_agree_73 : decode cX0_agree 73 = .ok (.iload 5, 2) := by decide +kernel
theorem dX0_agree_75 : decode cX0_agree 75 = .ok (.aload_n 0, 1) := by decide +kernel
theorem dX0_agree_76 : decode cX0_agree 76 = .ok (.getfield 9, 3) := by decide +kernel
theorem dX0_agree_79 : decode cX0_agree 79 = .ok (.getfield 97, 3) := by decide +kernel
theorem dX0_agree_82 : decode cX0_agree 82 = .ok (.iload_n 2, 1) := by decide +kernel
theorem dX0_agree_83 : decode cX0_agree 83 = .ok (.invokestatic 60, 3) := by decide +kernel
theorem dX0_agree_86 : decode cX0_agree 86 = .ok (.iload_n 3, 1) := by decide +kernel
theorem dX0_agree_87 : decode cX0_agree 87 = .ok (.invokestatic 100, 3) := by decide +kernel
theorem dX0_agree_90 : decode cX0_agree 90 = .ok (.ifCond .eq 7, 3) := by decide +kernel
theorem dX0_agree_93 : decode cX0_agree 93 = .ok (.iconst 1, 1) := by decide +kernel
theorem dX0_agree_94 : decode cX0_agree 94 = .ok (.goto 4, 3) := by decide +kernel
theorem dX0_agree_97 : decode cX0_agree 97 = .ok (.iconst 0, 1) := by decide +kernel
theorem dX0_agree_98 : decode cX0_agree 98 = .ok (.ireturn, 1) := by decide +kernel
theorem dX0_isChosenWith_0 : decode cX0_isChosenWith 0 = .ok (.iload_n 1, 1) := by decide +kernel
theorem dX0_isChosenWith_1 : decode cX0_isChosenWith 1 = .ok (.iconst 1, 1) := by decide +kernel
theorem dX0_isChosenWith_2 : decode cX0_isChosenWith 2 = .ok (.if_icmp .ne 22, 3) := by decide +kernel
theorem dX0_isChosenWith_5 : decode cX0_isChosenWith 5 = .ok (.aload_n 0, 1) := by decide +kernel
theorem dX0_isChosenWith_6 : decode cX0_isChosenWith 6 = .ok (.getfield 9, 3) := by decide +kernel
theorem dX0_isChosenWith_9 : decode cX0_isChosenWith 9 = .ok (.getfield 85, 3) := by decide +kernel
theorem dX0_isChosenWith_12 : decode cX0_isChosenWith 12 = .ok (.iload_n 2, 1) := by decide +kernel
theorem dX0_isChosenWith_13 : decode cX0_isChosenWith 13 = .ok (.invokestatic 60, 3) := by decide +kernel
theorem dX0_isChosenWith_16 : decode cX0_isChosenWith 16 = .ok (.iconst 3, 1) := by decide +kernel
theorem dX0_isChosenWith_17 : decode cX0_isChosenWith 17 = .ok (.if_icmp .ne 7, 3) := by decide +kernel
theorem dX0_isChosenWith_20 : decode cX0_isChosenWith 20 = .ok (.iconst 1, 1) := by decide +kernel
theorem dX0_isChosenWith_21 : decode cX0_isChosenWith 21 = .ok (.goto 4, 3) := by decide +kernel
theorem dX0_isChosenWith_24 : decode cX0_isChosenWith 24 = .ok (.iconst 0, 1) := by decide +kernel
theorem dX0_isChosenWith_25 : decode cX0_isChosenWith 25 = .ok (.ireturn, 1) := by decide +kernel
theorem dX0_firstChoice_0 : decode cX0_firstChoice 0 = .ok (.aload_n 0, 1) := by decide +kernel
theorem dX0_firstChoice_1 : decode cX0_firstChoice 1 = .ok (.iload_n 1, 1) := by decide +kernel
theorem dX0_firstChoice_2 : decode cX0_firstChoice 2 = .ok (.iload_n 2, 1) := by decide +kernel
theorem dX0_firstChoice_3 : decode cX0_firstChoice 3 = .ok (.invokevirtual 103, 3) := by decide +kernel
theorem dX0_firstChoice_6 : decode cX0_firstChoice 6 = .ok (.ifCond .eq 7, 3) := by decide +kernel
theorem dX0_firstChoice_9 : decode cX0_firstChoice 9 = .ok (.iconst 0, 1) := by decide +kernel
theorem dX0_firstChoice_10 : decode cX0_firstChoice 10 = .ok (.goto 5, 3) := by decide +kernel
theorem dX0_firstChoice_13 : decode cX0_firstChoice 13 = .ok (.bipush 9, 2) := by decide +kernel
theorem dX0_firstChoice_15 : decode cX0_firstChoice 15 = .ok (.ireturn, 1) := by decide +kernel
theorem dX0_lastChoice_0 : decode cX0_lastChoice 0 = .ok (.aload_n 0, 1) := by decide +kernel
theorem dX0_lastChoice_1 : decode cX0_lastChoice 1 = .ok (.iload_n 1, 1) := by decide +kernel
theorem dX0_lastChoice_2 : decode cX0_lastChoice 2 = .ok (.iload_n 2, 1) := by decide +kernel
theorem dX0_lastChoice_3 : decode cX0_lastChoice 3 = .ok (.invokevirtual 103, 3) := by decide +kernel
theorem dX0_lastChoice_6 : decode cX0_lastChoice 6 = .ok (.ifCond .eq 10, 3) := by decide +kernel
theorem dX0_lastChoice_9 : decode cX0_lastChoice 9 = .ok (.iload_n 3, 1) := by decide +kernel
theorem dX0_lastChoice_10 : decode cX0_lastChoice 10 = .ok (.invokestatic 88, 3) := by decide +kernel
theorem dX0_lastChoice_13 : decode cX0_lastChoice 13 = .ok (.goto 5, 3) := by decide +kernel
theorem dX0_lastChoice_16 : decode cX0_lastChoice 16 = .ok (.bipush 9, 2) := by decide +kernel
theorem dX0_lastChoice_18 : decode cX0_lastChoice 18 = .ok (.ireturn, 1) := by decide +kernel
theorem dX0_placeOf_0 : decode cX0_placeOf 0 = .ok (.iload_n 3, 1) := by decide +kernel
theorem dX0_placeOf_1 : decode cX0_placeOf 1 = .ok (.invokestatic 107, 3) := by decide +kernel
theorem dX0_placeOf_4 : decode cX0_placeOf 4 = .ok (.istore 4, 2) := by decide +kernel
theorem dX0_placeOf_6 : decode cX0_placeOf 6 = .ok (.iload 4, 2) := by decide +kernel
theorem dX0_placeOf_8 : decode cX0_placeOf 8 = .ok (.iconst (-1), 1) := by decide +kernel
theorem dX0_placeOf_9 : decode cX0_placeOf 9 = .ok (.if_icmp .ne 5, 3) := by decide +kernel
theorem dX0_placeOf_12 : decode cX0_placeOf 12 = .ok (.iconst (-1), 1) := by decide +kernel
theorem dX0_placeOf_13 : decode cX0_placeOf 13 = .ok (.ireturn, 1) := by decide +kernel
theorem dX0_placeOf_14 : decode cX0_placeOf 14 = .ok (.iload_n 1, 1) := by decide +kernel
theorem dX0_placeOf_15 : decode cX0_placeOf 15 = .ok (.iload_n 2, 1) := by decide +kernel
theorem dX0_placeOf_16 : decode cX0_placeOf 16 = .ok (.invokestatic 79, 3) := by decide +kernel
theorem dX0_placeOf_19 : decode cX0_placeOf 19 = .ok (.invokestatic 19, 3) := by decide +kernel
theorem dX0_placeOf_22 : decode cX0_placeOf 22 = .ok (.iload_n 1, 1) := by decide +kernel
theorem dX0_placeOf_23 : decode cX0_placeOf 23 = .ok (.iload_n 2, 1) := by decide +kernel
theorem dX0_placeOf_24 : decode cX0_placeOf 24 = .ok (.invokestatic 67, 3) := by decide +kernel
theorem dX0_placeOf_27 : decode cX0_placeOf 27 = .ok (.iconst 3, 1) := by decide +kernel
theorem dX0_placeOf_28 : decode cX0_placeOf 28 = .ok (.imul, 1) := by decide +kernel
theorem dX0_placeOf_29 : decode cX0_placeOf 29 = .ok (.iconst 5, 1) := by decide +kernel
theorem dX0_placeOf_30 : decode cX0_placeOf 30 = .ok (.imul, 1) := by decide +kernel
theorem dX0_placeOf_31 : decode cX0_placeOf 31 = .ok (.iadd, 1) := by decide +kernel
theorem dX0_placeOf_32 : decode cX0_placeOf 32 = .ok (.istore 5, 2) := by decide +kernel
theorem dX0_placeOf_34 : decode cX0_placeOf 34 = .ok (.iload 5, 2) := by decide +kernel
theorem dX0_placeOf_36 : decode cX0_placeOf 36 = .ok (.iload_n 0, 1) := by decide +kernel
theorem dX0_placeOf_37 : decode cX0_placeOf 37 = .ok (.iconst 5, 1) := by decide +kernel
theorem dX0_placeOf_38 : decode cX0_placeOf 38 = .ok (.imul, 1) := by decide +kernel
theorem dX0_placeOf_39 : decode cX0_placeOf 39 = .ok (.iadd, 1) := by decide +kernel
theorem dX0_placeOf_40 : decode cX0_placeOf 40 = .ok (.iload 4, 2) := by decide +kernel
theorem dX0_placeOf_42 : decode cX0_placeOf 42 = .ok (.iadd, 1) := by decide +kernel
theorem dX0_placeOf_43 : decode cX0_placeOf 43 = .ok (.ireturn, 1) := by decide +kernel
theorem dX0_firstPlace_0 : decode cX0_firstPlace 0 = .ok (.iload_n 0, 1) := by decide +kernel
theorem dX0_firstPlace_1 : decode cX0_firstPlace 1 = .ok (.iload_n 0, 1) := by decide +kernel
theorem dX0_firstPlace_2 : decode cX0_firstPlace 2 = .ok (.iconst 1, 1) := by decide +kernel
theorem dX0_firstPlace_3 : decode cX0_firstPlace 3 = .ok (.isub, 1) := by decide +kernel
theorem dX0_firstPlace_4 : decode cX0_firstPlace 4 = .ok (.imul, 1) := by decide +kernel
theorem dX0_firstPlace_5 : decode cX0_firstPlace 5 = .ok (.iconst 2, 1) := by decide +kernel
theorem dX0_firstPlace_6 : decode cX0_firstPlace 6 = .ok (.idiv, 1) := by decide +kernel
theorem dX0_firstPlace_7 : decode cX0_firstPlace 7 = .ok (.iconst 3, 1) := by decide +kernel
theorem dX0_firstPlace_8 : decode cX0_firstPlace 8 = .ok (.imul, 1) := by decide +kernel
theorem dX0_firstPlace_9 : decode cX0_firstPlace 9 = .ok (.iconst 5, 1) := by decide +kernel
theorem dX0_firstPlace_10 : decode cX0_firstPlace 10 = .ok (.imul, 1) := by decide +kernel
theorem dX0_firstPlace_11 : decode cX0_firstPlace 11 = .ok (.ireturn, 1) := by decide +kernel
theorem dX0_viewOf_0 : decode cX0_viewOf 0 = .ok (.iload_n 0, 1) := by decide +kernel
theorem dX0_viewOf_1 : decode cX0_viewOf 1 = .ok (.iconst 1, 1) := by decide +kernel
theorem dX0_viewOf_2 : decode cX0_viewOf 2 = .ok (.if_icmp .ne 5, 3) := by decide +kernel
theorem dX0_viewOf_5 : decode cX0_viewOf 5 = .ok (.iconst 0, 1) := by decide +kernel
theorem dX0_viewOf_6 : decode cX0_viewOf 6 = .ok (.ireturn, 1) := by decide +kernel
theorem dX0_viewOf_7 : decode cX0_viewOf 7 = .ok (.iconst 3, 1) := by decide +kernel
theorem dX0_viewOf_8 : decode cX0_viewOf 8 = .ok (.iload_n 0, 1) := by decide +kernel
theorem dX0_viewOf_9 : decode cX0_viewOf 9 = .ok (.invokestatic 110, 3) := by decide +kernel
theorem dX0_viewOf_12 : decode cX0_viewOf 12 = .ok (.istore_n 1, 1) := by decide +kernel
theorem dX0_viewOf_13 : decode cX0_viewOf 13 = .ok (.iload_n 0, 1) := by decide +kernel
theorem dX0_viewOf_14 : decode cX0_viewOf 14 = .ok (.iconst 1, 1) := by decide +kernel
theorem dX0_viewOf_15 : decode cX0_viewOf 15 = .ok (.iload_n 1, 1) := by decide +kernel
theorem dX0_viewOf_16 : decode cX0_viewOf 16 = .ok (.invokestatic 91, 3) := by decide +kernel
theorem dX0_viewOf_19 : decode cX0_viewOf 19 = .ok (.if_icmp .ne 7, 3) := by decide +kernel
theorem dX0_viewOf_22 : decode cX0_viewOf 22 = .ok (.iconst 1, 1) := by decide +kernel
theorem dX0_viewOf_23 : decode cX0_viewOf 23 = .ok (.goto 4, 3) := by decide +kernel
theorem dX0_viewOf_26 : decode cX0_viewOf 26 = .ok (.iconst 0, 1) := by decide +kernel
theorem dX0_viewOf_27 : decode cX0_viewOf 27 = .ok (.istore_n 2, 1) := by decide +kernel
theorem dX0_viewOf_28 : decode cX0_viewOf 28 = .ok (.iload_n 2, 1) := by decide +kernel
theorem dX0_viewOf_29 : decode cX0_viewOf 29 = .ok (.ifCond .eq 9, 3) := by decide +kernel
theorem dX0_viewOf_32 : decode cX0_viewOf 32 = .ok (.iconst 1, 1) := by decide +kernel
theorem dX0_viewOf_33 : decode cX0_viewOf 33 = .ok (.iload_n 1, 1) := by decide +kernel
theorem dX0_viewOf_34 : decode cX0_viewOf 34 = .ok (.iadd, 1) := by decide +kernel
theorem dX0_viewOf_35 : decode cX0_viewOf 35 = .ok (.goto 4, 3) := by decide +kernel
theorem dX0_viewOf_38 : decode cX0_viewOf 38 = .ok (.iconst (-1), 1) := by decide +kernel
theorem dX0_viewOf_39 : decode cX0_viewOf 39 = .ok (.ireturn, 1) := by decide +kernel
theorem dX1_with_0 : decode cX1_with 0 = .ok (.iload_n 0, 1) := by decide +kernel
theorem dX1_with_1 : decode cX1_with 1 = .ok (.iconst 3, 1) := by decide +kernel
theorem dX1_with_2 : decode cX1_with 2 = .ok (.ishl, 1) := by decide +kernel
theorem dX1_with_3 : decode cX1_with 3 = .ok (.iload_n 1, 1) := by decide +kernel
theorem dX1_with_4 : decode cX1_with 4 = .ok (.ior, 1) := by decide +kernel
theorem dX1_with_5 : decode cX1_with 5 = .ok (.ireturn, 1) := by decide +kernel
theorem dX1_valueOf_0 : decode cX1_valueOf 0 = .ok (.iload_n 0, 1) := by decide +kernel
theorem dX1_valueOf_1 : decode cX1_valueOf 1 = .ok (.iconst 3, 1) := by decide +kernel
theorem dX1_valueOf_2 : decode cX1_valueOf 2 = .ok (.if_icmp .ge 5, 3) := by decide +kernel
theorem dX1_valueOf_5 : decode cX1_valueOf 5 = .ok (.iload_n 0, 1) := by decide +kernel
theorem dX1_valueOf_6 : decode cX1_valueOf 6 = .ok (.ireturn, 1) := by decide +kernel
theorem dX1_valueOf_7 : decode cX1_valueOf 7 = .ok (.iload_n 1, 1) := by decide +kernel
theorem dX1_valueOf_8 : decode cX1_valueOf 8 = .ok (.iconst 3, 1) := by decide +kernel
theorem dX1_valueOf_9 : decode cX1_valueOf 9 = .ok (.iload_n 0, 1) := by decide +kernel
theorem dX1_valueOf_10 : decode cX1_valueOf 10 = .ok (.iconst 3, 1) := by decide +kernel
theorem dX1_valueOf_11 : decode cX1_valueOf 11 = .ok (.isub, 1) := by decide +kernel
theorem dX1_valueOf_12 : decode cX1_valueOf 12 = .ok (.imul, 1) := by decide +kernel
theorem dX1_valueOf_13 : decode cX1_valueOf 13 = .ok (.ishr, 1) := by decide +kernel
theorem dX1_valueOf_14 : decode cX1_valueOf 14 = .ok (.bipush 7, 2) := by decide +kernel
theorem dX1_valueOf_16 : decode cX1_valueOf 16 = .ok (.iand, 1) := by decide +kernel
theorem dX1_valueOf_17 : decode cX1_valueOf 17 = .ok (.ireturn, 1) := by decide +kernel
theorem dX1_areEqual_0 : decode cX1_areEqual 0 = .ok (.iload_n 0, 1) := by decide +kernel
theorem dX1_areEqual_1 : decode cX1_areEqual 1 = .ok (.iload_n 2, 1) := by decide +kernel
theorem dX1_areEqual_2 : decode cX1_areEqual 2 = .ok (.invokestatic 11, 3) := by decide +kernel
theorem dX1_areEqual_5 : decode cX1_areEqual 5 = .ok (.iload_n 1, 1) := by decide +kernel
theorem dX1_areEqual_6 : decode cX1_areEqual 6 = .ok (.iload_n 2, 1) := by decide +kernel
theorem dX1_areEqual_7 : decode cX1_areEqual 7 = .ok (.invokestatic 11, 3) := by decide +kernel
theorem dX1_areEqual_10 : decode cX1_areEqual 10 = .ok (.if_icmp .ne 7, 3) := by decide +kernel
theorem dX1_areEqual_13 : decode cX1_areEqual 13 = .ok (.iconst 1, 1) := by decide +kernel
theorem dX1_areEqual_14 : decode cX1_areEqual 14 = .ok (.goto 4, 3) := by decide +kernel
theorem dX1_areEqual_17 : decode cX1_areEqual 17 = .ok (.iconst 0, 1) := by decide +kernel
theorem dX1_areEqual_18 : decode cX1_areEqual 18 = .ok (.ireturn, 1) := by decide +kernel
theorem dX1_nextFresh_0 : decode cX1_nextFresh 0 = .ok (.iconst 3, 1) := by decide +kernel
theorem dX1_nextFresh_1 : decode cX1_nextFresh 1 = .ok (.istore_n 1, 1) := by decide +kernel
theorem dX1_nextFresh_2 : decode cX1_nextFresh 2 = .ok (.iconst 3, 1) := by decide +kernel
theorem dX1_nextFresh_3 : decode cX1_nextFresh 3 = .ok (.istore_n 2, 1) := by decide +kernel
theorem dX1_nextFresh_4 : decode cX1_nextFresh 4 = .ok (.iload_n 2, 1) := by decide +kernel
theorem dX1_nextFresh_5 : decode cX1_nextFresh 5 = .ok (.bipush 6, 2) := by decide +kernel
theorem dX1_nextFresh_7 : decode cX1_nextFresh 7 = .ok (.if_icmp .ge 21, 3) := by decide +kernel
theorem dX1_nextFresh_10 : decode cX1_nextFresh 10 = .ok (.iload_n 1, 1) := by decide +kernel
theorem dX1_nextFresh_11 : decode cX1_nextFresh 11 = .ok (.iload_n 2, 1) := by decide +kernel
theorem dX1_nextFresh_12 : decode cX1_nextFresh 12 = .ok (.iload_n 0, 1) := by decide +kernel
theorem dX1_nextFresh_13 : decode cX1_nextFresh 13 = .ok (.invokestatic 11, 3) := by decide +kernel
theorem dX1_nextFresh_16 : decode cX1_nextFresh 16 = .ok (.iconst 1, 1) := by decide +kernel
theorem dX1_nextFresh_17 : decode cX1_nextFresh 17 = .ok (.iadd, 1) := by decide +kernel
theorem dX1_nextFresh_18 : decode cX1_nextFresh 18 = .ok (.invokestatic 15, 3) := by decide +kernel
theorem dX1_nextFresh_21 : decode cX1_nextFresh 21 = .ok (.istore_n 1, 1) := by decide +kernel
theorem dX1_nextFresh_22 : decode cX1_nextFresh 22 = .ok (.iinc 2 1, 3) := by decide +kernel
theorem dX1_nextFresh_25 : decode cX1_nextFresh 25 = .ok (.goto (-21), 3) := by decide +kernel
theorem dX1_nextFresh_28 : decode cX1_nextFresh 28 = .ok (.iload_n 1, 1) := by decide +kernel
theorem dX1_nextFresh_29 : decode cX1_nextFresh 29 = .ok (.ireturn, 1) := by decide +kernel
theorem dX2_init_0 : decode cX2_init 0 = .ok (.aload_n 0, 1) := by decide +kernel
theorem dX2_init_1 : decode cX2_init 1 = .ok (.invokespecial 3, 3) := by decide +kernel
theorem dX2_init_4 : decode cX2_init 4 = .ok (.aload_n 0, 1) := by decide +kernel
theorem dX2_init_5 : decode cX2_init 5 = .ok (.bipush 24, 2) := by decide +kernel
theorem dX2_init_7 : decode cX2_init 7 = .ok (.newarray .int, 2) := by decide +kernel
theorem dX2_init_9 : decode cX2_init 9 = .ok (.putfield 9, 3) := by decide +kernel
theorem dX2_init_12 : decode cX2_init 12 = .ok (.aload_n 0, 1) := by decide +kernel
theorem dX2_init_13 : decode cX2_init 13 = .ok (.bipush 24, 2) := by decide +kernel
theorem dX2_init_15 : decode cX2_init 15 = .ok (.newarray .int, 2) := by decide +kernel
theorem dX2_init_17 : decode cX2_init 17 = .ok (.putfield 15, 3) := by decide +kernel
theorem dX2_init_20 : decode cX2_init 20 = .ok (.aload_n 0, 1) := by decide +kernel
theorem dX2_init_21 : decode cX2_init 21 = .ok (.bipush 24, 2) := by decide +kernel
theorem dX2_init_23 : decode cX2_init 23 = .ok (.newarray .int, 2) := by decide +kernel
theorem dX2_init_25 : decode cX2_init 25 = .ok (.putfield 18, 3) := by decide +kernel
theorem dX2_init_28 : decode cX2_init 28 = .ok (.aload_n 0, 1) := by decide +kernel
theorem dX2_init_29 : decode cX2_init 29 = .ok (.bipush 24, 2) := by decide +kernel
theorem dX2_init_31 : decode cX2_init 31 = .ok (.newarray .int, 2) := by decide +kernel
theorem dX2_init_33 : decode cX2_init 33 = .ok (.putfield 21, 3) := by decide +kernel
theorem dX2_init_36 : decode cX2_init 36 = .ok (.aload_n 0, 1) := by decide +kernel
theorem dX2_init_37 : decode cX2_init 37 = .ok (.bipush 24, 2) := by decide +kernel
theorem dX2_init_39 : decode cX2_init 39 = .ok (.newarray .int, 2) := by decide +kernel
theorem dX2_init_41 : decode cX2_init 41 = .ok (.putfield 24, 3) := by decide +kernel
theorem dX2_init_44 : decode cX2_init 44 = .ok (.aload_n 0, 1) := by decide +kernel
theorem dX2_init_45 : decode cX2_init 45 = .ok (.bipush 24, 2) := by decide +kernel
theorem dX2_init_47 : decode cX2_init 47 = .ok (.newarray .int, 2) := by decide +kernel
theorem dX2_init_49 : decode cX2_init 49 = .ok (.putfield 27, 3) := by decide +kernel
theorem dX2_init_52 : decode cX2_init 52 = .ok (.aload_n 0, 1) := by decide +kernel
theorem dX2_init_53 : decode cX2_init 53 = .ok (.bipush 24, 2) := by decide +kernel
theorem dX2_init_55 : decode cX2_init 55 = .ok (.newarray .int, 2) := by decide +kernel
theorem dX2_init_57 : decode cX2_init 57 = .ok (.putfield 30, 3) := by decide +kernel
theorem dX2_init_60 : decode cX2_init 60 = .ok (.aload_n 0, 1) := by decide +kernel
theorem dX2_init_61 : decode cX2_init 61 = .ok (.bipush 24, 2) := by decide +kernel
theorem dX2_init_63 : decode cX2_init 63 = .ok (.newarray .int, 2) := by decide +kernel
theorem dX2_init_65 : decode cX2_init 65 = .ok (.putfield 33, 3) := by decide +kernel
theorem dX2_init_68 : decode cX2_init 68 = .ok (.aload_n 0, 1) := by decide +kernel
theorem dX2_init_69 : decode cX2_init 69 = .ok (.invokestatic 36, 3) := by decide +kernel
theorem dX2_init_72 : decode cX2_init 72 = .ok (.putfield 40, 3) := by decide +kernel
theorem dX2_init_75 : decode cX2_init 75 = .ok (.aload_n 0, 1) := by decide +kernel
theorem dX2_init_76 : decode cX2_init 76 = .ok (.bipush 72, 2) := by decide +kernel
theorem dX2_init_78 : decode cX2_init 78 = .ok (.newarray .int, 2) := by decide +kernel
theorem dX2_init_80 : decode cX2_init 80 = .ok (.putfield 43, 3) := by decide +kernel
theorem dX2_init_83 : decode cX2_init 83 = .ok (.aload_n 0, 1) := by decide +kernel
theorem dX2_init_84 : decode cX2_init 84 = .ok (.bipush 72, 2) := by decide +kernel
theorem dX2_init_86 : decode cX2_init 86 = .ok (.newarray .long, 2) := by decide +kernel
theorem dX2_init_88 : decode cX2_init 88 = .ok (.putfield 46, 3) := by decide +kernel
theorem dX2_init_91 : decode cX2_init 91 = .ok (.aload_n 0, 1) := by decide +kernel
theorem dX2_init_92 : decode cX2_init 92 = .ok (.iconst 1, 1) := by decide +kernel
theorem dX2_init_93 : decode cX2_init 93 = .ok (.putfield 50, 3) := by decide +kernel
theorem dX2_init_96 : decode cX2_init 96 = .ok (.return_, 1) := by decide +kernel
theorem dX2_lengthsOfNew_0 : decode cX2_lengthsOfNew 0 = .ok (.bipush 24, 2) := by decide +kernel
theorem dX2_lengthsOfNew_2 : decode cX2_lengthsOfNew 2 = .ok (.newarray .int, 2) := by decide +kernel
theorem dX2_lengthsOfNew_4 : decode cX2_lengthsOfNew 4 = .ok (.astore_n 0, 1) := by decide +kernel
theorem dX2_lengthsOfNew_5 : decode cX2_lengthsOfNew 5 = .ok (.aload_n 0, 1) := by decide +kernel
theorem dX2_lengthsOfNew_6 : decode cX2_lengthsOfNew 6 = .ok (.iconst 0, 1) := by decide +kernel
theorem dX2_lengthsOfNew_7 : decode cX2_lengthsOfNew 7 = .ok (.iconst 0, 1) := by decide +kernel
theorem dX2_lengthsOfNew_8 : decode cX2_lengthsOfNew 8 = .ok (.invokestatic 54, 3) := by decide +kernel
theorem dX2_lengthsOfNew_11 : decode cX2_lengthsOfNew 11 = .ok (.invokevirtual 58, 3) := by decide +kernel
theorem dX2_lengthsOfNew_14 : decode cX2_lengthsOfNew 14 = .ok (.invokestatic 64, 3) := by decide +kernel
theorem dX2_lengthsOfNew_17 : decode cX2_lengthsOfNew 17 = .ok (.aload_n 0, 1) := by decide +kernel
theorem dX2_lengthsOfNew_18 : decode cX2_lengthsOfNew 18 = .ok (.areturn, 1) := by decide +kernel
theorem dX2_holds_0 : decode cX2_holds 0 = .ok (.iload_n 1, 1) := by decide +kernel
theorem dX2_holds_1 : decode cX2_holds 1 = .ok (.ifCond .lt 15, 3) := by decide +kernel
theorem dX2_holds_4 : decode cX2_holds 4 = .ok (.iload_n 1, 1) := by decide +kernel
theorem dX2_holds_5 : decode cX2_holds 5 = .ok (.aload_n 0, 1) := by decide +kernel
theorem dX2_holds_6 : decode cX2_holds 6 = .ok (.getfield 50, 3) := by decide +kernel
theorem dX2_holds_9 : decode cX2_holds 9 = .ok (.if_icmp .ge 7, 3) := by decide +kernel
theorem dX2_holds_12 : decode cX2_holds 12 = .ok (.iconst 1, 1) := by decide +kernel
theorem dX2_holds_13 : decode cX2_holds 13 = .ok (.goto 4, 3) := by decide +kernel
theorem dX2_holds_16 : decode cX2_holds 16 = .ok (.iconst 0, 1) := by decide +kernel
theorem dX2_holds_17 : decode cX2_holds 17 = .ok (.ireturn, 1) := by decide +kernel
theorem dX2_isClosed_0 : decode cX2_isClosed 0 = .ok (.aload_n 0, 1) := by decide +kernel
theorem dX2_isClosed_1 : decode cX2_isClosed 1 = .ok (.getfield 33, 3) := by decide +kernel
theorem dX2_isClosed_4 : decode cX2_isClosed 4 = .ok (.iload_n 1, 1) := by decide +kernel
theorem dX2_isClosed_5 : decode cX2_isClosed 5 = .ok (.invokestatic 68, 3) := by decide +kernel
theorem dX2_isClosed_8 : decode cX2_isClosed 8 = .ok (.ifCond .ne 7, 3) := by decide +kernel
theorem dX2_isClosed_11 : decode cX2_isClosed 11 = .ok (.iconst 1, 1) := by decide +kernel
theorem dX2_isClosed_12 : decode cX2_isClosed 12 = .ok (.goto 4, 3) := by decide +kernel
theorem dX2_isClosed_15 : decode cX2_isClosed 15 = .ok (.iconst 0, 1) := by decide +kernel
theorem dX2_isClosed_16 : decode cX2_isClosed 16 = .ok (.ireturn, 1) := by decide +kernel
theorem dX2_isAction_0 : decode cX2_isAction 0 = .ok (.iload_n 0, 1) := by decide +kernel
theorem dX2_isAction_1 : decode cX2_isAction 1 = .ok (.iconst 1, 1) := by decide +kernel
theorem dX2_isAction_2 : decode cX2_isAction 2 = .ok (.if_icmp .eq 13, 3) := by decide +kernel
theorem dX2_isAction_5 : decode cX2_isAction 5 = .ok (.iload_n 0, 1) := by decide +kernel
theorem dX2_isAction_6 : decode cX2_isAction 6 = .ok (.iconst 2, 1) := by decide +kernel
theorem dX2_isAction_7 : decode cX2_isAction 7 = .ok (.if_icmp .eq 8, 3) := by decide +kernel
theorem dX2_isAction_10 : decode cX2_isAction 10 = .ok (.iload_n 0, 1) := by decide +kernel
theorem dX2_isAction_11 : decode cX2_isAction 11 = .ok (.iconst 3, 1) := by decide +kernel
theorem dX2_isAction_12 : decode cX2_isAction 12 = .ok (.if_icmp .ne 7, 3) := by decide +kernel
theorem dX2_isAction_15 : decode cX2_isAction 15 = .ok (.iconst 1, 1) := by decide +kernel
theorem dX2_isAction_16 : decode cX2_isAction 16 = .ok (.goto 4, 3) := by decide +kernel
theorem dX2_isAction_19 : decode cX2_isAction 19 = .ok (.iconst 0, 1) := by decide +kernel
theorem dX2_isAction_20 : decode cX2_isAction 20 = .ok (.ireturn, 1) := by decide +kernel
theorem dX2_build_0 : decode cX2_build 0 = .ok (.aload_n 0, 1) := by decide +kernel
theorem dX2_build_1 : decode cX2_build 1 = .ok (.getfield 27, 3) := by decide +kernel
theorem dX2_build_4 : decode cX2_build 4 = .ok (.iload 4, 2) := by decide +kernel
theorem dX2_build_6 : decode cX2_build 6 = .ok (.invokestatic 68, 3) := by decide +kernel
theorem dX2_build_9 : decode cX2_build 9 = .ok (.aload_n 0, 1) := by decide +kernel
theorem dX2_build_10 : decode cX2_build 10 = .ok (.getfield 27, 3) := by decide +kernel
theorem dX2_build_13 : decode cX2_build 13 = .ok (.iload 5, 2) := by decide +kernel
theorem dX2_build_15 : decode cX2_build 15 = .ok (.invokestatic 68, 3) := by decide +kernel
theorem dX2_build_18 : decode cX2_build 18 = .ok (.invokestatic 72, 3) := by decide +kernel
theorem dX2_build_21 : decode cX2_build 21 = .ok (.iload_n 1, 1) := by decide +kernel
theorem dX2_build_22 : decode cX2_build 22 = .ok (.invokestatic 78, 3) := by decide +kernel
theorem dX2_build_25 : decode cX2_build 25 = .ok (.ifCond .eq 7, 3) := by decide +kernel
theorem dX2_build_28 : decode cX2_build 28 = .ok (.iconst 1, 1) := by decide +kernel
theorem dX2_build_29 : decode cX2_build 29 = .ok (.goto 4, 3) := by decide +kernel
theorem dX2_build_32 : decode cX2_build 32 = .ok (.iconst 0, 1) := by decide +kernel
theorem dX2_build_33 : decode cX2_build 33 = .ok (.iadd, 1) := by decide +kernel
theorem dX2_build_34 : decode cX2_build 34 = .ok (.istore 6, 2) := by decide +kernel
theorem dX2_build_36 : decode cX2_build 36 = .ok (.iload_n 1, 1) := by decide +kernel
theorem dX2_build_37 : decode cX2_build 37 = .ok (.invokestatic 78, 3) := by decide +kernel
theorem dX2_build_40 : decode cX2_build 40 = .ok (.ifCond .eq 7, 3) := by decide +kernel
theorem dX2_build_43 : decode cX2_build 43 = .ok (.iconst 1, 1) := by decide +kernel
theorem dX2_build_44 : decode cX2_build 44 = .ok (.goto 22, 3) := by decide +kernel
theorem dX2_build_47 : decode cX2_build 47 = .ok (.aload_n 0, 1) := by decide +kernel
theorem dX2_build_48 : decode cX2_build 48 = .ok (.getfield 30, 3) := by decide +kernel
theorem dX2_build_51 : decode cX2_build 51 = .ok (.iload 4, 2) := by decide +kernel
theorem dX2_build_53 : decode cX2_build 53 = .ok (.invokestatic 68, 3) := by decide +kernel
theorem dX2_build_56 : decode cX2_build 56 = .ok (.aload_n 0, 1) := by decide +kernel
theorem dX2_build_57 : decode cX2_build 57 = .ok (.getfield 30, 3) := by decide +kernel
theorem dX2_build_60 : decode cX2_build 60 = .ok (.iload 5, 2) := by decide +kernel
theorem dX2_build_62 : decode cX2_build 62 = .ok (.invokestatic 68, 3) := by decide +kernel
theorem dX2_build_65 : decode cX2_build 65 = .ok (.iadd, 1) := by decide +kernel
theorem dX2_build_66 : decode cX2_build 66 = .ok (.istore 7, 2) := by decide +kernel
theorem dX2_build_68 : decode cX2_build 68 = .ok (.aload_n 0, 1) := by decide +kernel
theorem dX2_build_69 : decode cX2_build 69 = .ok (.getfield 50, 3) := by decide +kernel
theorem dX2_build_72 : decode cX2_build 72 = .ok (.bipush 24, 2) := by decide +kernel
theorem dX2_build_74 : decode cX2_build 74 = .ok (.if_icmp .ge 15, 3) := by decide +kernel
theorem dX2_build_77 : decode cX2_build 77 = .ok (.iload 6, 2) := by decide +kernel
theorem dX2_build_79 : decode cX2_build 79 = .ok (.iconst 3, 1) := by decide +kernel
theorem dX2_build_80 : decode cX2_build 80 = .ok (.if_icmp .gt 9, 3) := by decide +kernel
theorem dX2_build_83 : decode cX2_build 83 = .ok (.iload 7, 2) := by decide +kernel
theorem dX2_build_85 : decode cX2_build 85 = .ok (.iconst 3, 1) := by decide +kernel
theorem dX2_build_86 : decode cX2_build 86 = .ok (.if_icmp .le 6, 3) := by decide +kernel
theorem dX2_build_89 : decode cX2_build 89 = .ok (.bipush (-3), 2) := by decide +kernel
theorem dX2_build_91 : decode cX2_build 91 = .ok (.ireturn, 1) := by decide +kernel
theorem dX2_build_92 : decode cX2_build 92 = .ok (.aload_n 0, 1) := by decide +kernel
theorem dX2_build_93 : decode cX2_build 93 = .ok (.getfield 50, 3) := by decide +kernel
theorem dX2_build_96 : decode cX2_build 96 = .ok (.istore 8, 2) := by decide +kernel
theorem dX2_build_98 : decode cX2_build 98 = .ok (.aload_n 0, 1) := by decide +kernel
theorem dX2_build_99 : decode cX2_build 99 = .ok (.iload 8, 2) := by decide +kernel
theorem dX2_build_101 : decode cX2_build 101 = .ok (.iconst 1, 1) := by decide +kernel
theorem dX2_build_102 : decode cX2_build 102 = .ok (.iadd, 1) := by decide +kernel
theorem dX2_build_103 : decode cX2_build 103 = .ok (.putfield 50, 3) := by decide +kernel
theorem dX2_build_106 : decode cX2_build 106 = .ok (.aload_n 0, 1) := by decide +kernel
theorem dX2_build_107 : decode cX2_build 107 = .ok (.getfield 9, 3) := by decide +kernel
theorem dX2_build_110 : decode cX2_build 110 = .ok (.iload 8, 2) := by decide +kernel
theorem dX2_build_112 : decode cX2_build 112 = .ok (.iload_n 1, 1) := by decide +kernel
theorem dX2_build_113 : decode cX2_build 113 = .ok (.invokestatic 64, 3) := by decide +kernel
theorem dX2_build_116 : decode cX2_build 116 = .ok (.aload_n 0, 1) := by decide +kernel
theorem dX2_build_117 : decode cX2_build 117 = .ok (.getfield 15, 3) := by decide +kernel
theorem dX2_build_120 : decode cX2_build 120 = .ok (.iload 8, 2) := by decide +kernel
theorem dX2_build_122 : decode cX2_build 122 = .ok (.iload_n 2, 1) := by decide +kernel
theorem dX2_build_123 : decode cX2_build 123 = .ok (.invokestatic 64, 3) := by decide +kernel
theorem dX2_build_126 : decode cX2_build 126 = .ok (.aload_n 0, 1) := by decide +kernel
theorem dX2_build_127 : decode cX2_build 127 = .ok (.getfield 18, 3) := by decide +kernel
theorem dX2_build_130 : decode cX2_build 130 = .ok (.iload 8, 2) := by decide +kernel
theorem dX2_build_132 : decode cX2_build 132 = .ok (.iload_n 3, 1) := by decide +kernel
theorem dX2_build_133 : decode cX2_build 133 = .ok (.invokestatic 64, 3) := by decide +kernel
theorem dX2_build_136 : decode cX2_build 136 = .ok (.aload_n 0, 1) := by decide +kernel
theorem dX2_build_137 : decode cX2_build 137 = .ok (.getfield 21, 3) := by decide +kernel
theorem dX2_build_140 : decode cX2_build 140 = .ok (.iload 8, 2) := by decide +kernel
theorem dX2_build_142 : decode cX2_build 142 = .ok (.iload 4, 2) := by decide +kernel
theorem dX2_build_144 : decode cX2_build 144 = .ok (.invokestatic 64, 3) := by decide +kernel
theorem dX2_build_147 : decode cX2_build 147 = .ok (.aload_n 0, 1) := by decide +kernel
theorem dX2_build_148 : decode cX2_build 148 = .ok (.getfield 24, 3) := by decide +kernel
theorem dX2_build_151 : decode cX2_build 151 = .ok (.iload 8, 2) := by decide +kernel
theorem dX2_build_153 : decode cX2_build 153 = .ok (.iload 5, 2) := by decide +kernel
theorem dX2_build_155 : decode cX2_build 155 = .ok (.invokestatic 64, 3) := by decide +kernel
theorem dX2_build_158 : decode cX2_build 158 = .ok (.aload_n 0, 1) := by decide +kernel
theorem dX2_build_159 : decode cX2_build 159 = .ok (.getfield 27, 3) := by decide +kernel
theorem dX2_build_162 : decode cX2_build 162 = .ok (.iload 8, 2) := by decide +kernel
theorem dX2_build_164 : decode cX2_build 164 = .ok (.iload 6, 2) := by decide +kernel
theorem dX2_build_166 : decode cX2_build 166 = .ok (.invokestatic 64, 3) := by decide +kernel
theorem dX2_build_169 : decode cX2_build 169 = .ok (.aload_n 0, 1) := by decide +kernel
theorem dX2_build_170 : decode cX2_build 170 = .ok (.getfield 30, 3) := by decide +kernel
theorem dX2_build_173 : decode cX2_build 173 = .ok (.iload 8, 2) := by decide +kernel
theorem dX2_build_175 : decode cX2_build 175 = .ok (.iload 7, 2) := by decide +kernel
theorem dX2_build_177 : decode cX2_build 177 = .ok (.invokestatic 64, 3) := by decide +kernel
theorem dX2_build_180 : decode cX2_build 180 = .ok (.aload_n 0, 1) := by decide +kernel
theorem dX2_build_181 : decode cX2_build 181 = .ok (.getfield 33, 3) := by decide +kernel
theorem dX2_build_184 : decode cX2_build 184 = .ok (.iload 8, 2) := by decide +kernel
theorem dX2_build_186 : decode cX2_build 186 = .ok (.aload_n 0, 1) := by decide +kernel
theorem dX2_build_187 : decode cX2_build 187 = .ok (.iload_n 1, 1) := by decide +kernel
theorem dX2_build_188 : decode cX2_build 188 = .ok (.iload_n 2, 1) := by decide +kernel
theorem dX2_build_189 : decode cX2_build 189 = .ok (.iload_n 3, 1) := by decide +kernel
theorem dX2_build_190 : decode cX2_build 190 = .ok (.iload 4, 2) := by decide +kernel
theorem dX2_build_192 : decode cX2_build 192 = .ok (.iload 5, 2) := by decide +kernel
theorem dX2_build_194 : decode cX2_build 194 = .ok (.invokevirtual 82, 3) := by decide +kernel
theorem dX2_build_197 : decode cX2_build 197 = .ok (.invokestatic 64, 3) := by decide +kernel
theorem dX2_build_200 : decode cX2_build 200 = .ok (.aload_n 0, 1) := by decide +kernel
theorem dX2_build_201 : decode cX2_build 201 = .ok (.getfield 40, 3) := by decide +kernel
theorem dX2_build_204 : decode cX2_build 204 = .ok (.iload 8, 2) := by decide +kernel
theorem dX2_build_206 : decode cX2_build 206 = .ok (.aload_n 0, 1) := by decide +kernel
theorem dX2_build_207 : decode cX2_build 207 = .ok (.iload_n 1, 1) := by decide +kernel
theorem dX2_build_208 : decode cX2_build 208 = .ok (.iload 4, 2) := by decide +kernel
theorem dX2_build_210 : decode cX2_build 210 = .ok (.iload 5, 2) := by decide +kernel
theorem dX2_build_212 : decode cX2_build 212 = .ok (.invokevirtual 86, 3) := by decide +kernel
theorem dX2_build_215 : decode cX2_build 215 = .ok (.invokestatic 64, 3) := by decide +kernel
theorem dX2_build_218 : decode cX2_build 218 = .ok (.aload_n 0, 1) := by decide +kernel
theorem dX2_build_219 : decode cX2_build 219 = .ok (.iload 8, 2) := by decide +kernel
theorem dX2_build_221 : decode cX2_build 221 = .ok (.iload_n 1, 1) := by decide +kernel
theorem dX2_build_222 : decode cX2_build 222 = .ok (.iload_n 2, 1) := by decide +kernel
theorem dX2_build_223 : decode cX2_build 223 = .ok (.iload_n 3, 1) := by decide +kernel
theorem dX2_build_224 : decode cX2_build 224 = .ok (.iload 4, 2) := by decide +kernel
theorem dX2_build_226 : decode cX2_build 226 = .ok (.iload 5, 2) := by decide +kernel
theorem dX2_build_228 : decode cX2_build 228 = .ok (.invokevirtual 90, 3) := by decide +kernel
theorem dX2_build_231 : decode cX2_build 231 = .ok (.iload 8, 2) := by decide +kernel
theorem dX2_build_233 : decode cX2_build 233 = .ok (.ireturn, 1) := by decide +kernel
theorem dX2_needFor_0 : decode cX2_needFor 0 = .ok (.iload_n 2, 1) := by decide +kernel
theorem dX2_needFor_1 : decode cX2_needFor 1 = .ok (.iload_n 3, 1) := by decide +kernel
theorem dX2_needFor_2 : decode cX2_needFor 2 = .ok (.invokestatic 72, 3) := by decide +kernel
theorem dX2_needFor_5 : decode cX2_needFor 5 = .ok (.iconst 2, 1) := by decide +kernel
theorem dX2_needFor_6 : decode cX2_needFor 6 = .ok (.isub, 1) := by decide +kernel
theorem dX2_needFor_7 : decode cX2_needFor 7 = .ok (.istore 6, 2) := by decide +kernel
theorem dX2_needFor_9 : decode cX2_needFor 9 = .ok (.aload_n 0, 1) := by decide +kernel
theorem dX2_needFor_10 : decode cX2_needFor 10 = .ok (.getfield 33, 3) := by decide +kernel
theorem dX2_needFor_13 : decode cX2_needFor 13 = .ok (.iload 4, 2) := by decide +kernel
theorem dX2_needFor_15 : decode cX2_needFor 15 = .ok (.invokestatic 68, 3) := by decide +kernel
theorem dX2_needFor_18 : decode cX2_needFor 18 = .ok (.iload_n 1, 1) := by decide +kernel
theorem dX2_needFor_19 : decode cX2_needFor 19 = .ok (.iconst 3, 1) := by decide +kernel
theorem dX2_needFor_20 : decode cX2_needFor 20 = .ok (.if_icmp .ne 7, 3) := by decide +kernel
theorem dX2_needFor_23 : decode cX2_needFor 23 = .ok (.iconst 1, 1) := by decide +kernel
theorem dX2_needFor_24 : decode cX2_needFor 24 = .ok (.goto 4, 3) := by decide +kernel
theorem dX2_needFor_27 : decode cX2_needFor 27 = .ok (.iconst 0, 1) := by decide +kernel
theorem dX2_needFor_28 : decode cX2_needFor 28 = .ok (.isub, 1) := by decide +kernel
theorem dX2_needFor_29 : decode cX2_needFor 29 = .ok (.istore 7, 2) := by decide +kernel
theorem dX2_needFor_31 : decode cX2_needFor 31 = .ok (.iload 7, 2) := by decide +kernel
theorem dX2_needFor_33 : decode cX2_needFor 33 = .ok (.aload_n 0, 1) := by decide +kernel
theorem dX2_needFor_34 : decode cX2_needFor 34 = .ok (.getfield 33, 3) := by decide +kernel
theorem dX2_needFor_37 : decode cX2_needFor 37 = .ok (.iload 5, 2) := by decide +kernel
theorem dX2_needFor_39 : decode cX2_needFor 39 = .ok (.invokestatic 68, 3) := by decide +kernel
theorem dX2_needFor_42 : decode cX2_needFor 42 = .ok (.invokestatic 72, 3) := by decide +kernel
theorem dX2_needFor_45 : decode cX2_needFor 45 = .ok (.istore 8, 2) := by decide +kernel
theorem dX2_needFor_47 : decode cX2_needFor 47 = .ok (.iconst 0, 1) := by decide +kernel
theorem dX2_needFor_48 : decode cX2_needFor 48 = .ok (.iload 6, 2) := by decide +kernel
theorem dX2_needFor_50 : decode cX2_needFor 50 = .ok (.iload 8, 2) := by decide +kernel
theorem dX2_needFor_52 : decode cX2_needFor 52 = .ok (.invokestatic 72, 3) := by decide +kernel
theorem dX2_needFor_55 : decode cX2_needFor 55 = .ok (.invokestatic 72, 3) := by decide +kernel
theorem dX2_needFor_58 : decode cX2_needFor 58 = .ok (.ireturn, 1) := by decide +kernel
theorem dX2_lengthFor_0 : decode cX2_lengthFor 0 = .ok (.iload_n 1, 1) := by decide +kernel
theorem dX2_lengthFor_1 : decode cX2_lengthFor 1 = .ok (.invokestatic 54, 3) := by decide +kernel
theorem dX2_lengthFor_4 : decode cX2_lengthFor 4 = .ok (.invokevirtual 58, 3) := by decide +kernel
theorem dX2_lengthFor_7 : decode cX2_lengthFor 7 = .ok (.aload_n 0, 1) := by decide +kernel
theorem dX2_lengthFor_8 : decode cX2_lengthFor 8 = .ok (.getfield 40, 3) := by decide +kernel
theorem dX2_lengthFor_11 : decode cX2_lengthFor 11 = .ok (.iload_n 2, 1) := by decide +kernel
theorem dX2_lengthFor_12 : decode cX2_lengthFor 12 = .ok (.invokestatic 68, 3) := by decide +kernel
theorem dX2_lengthFor_15 : decode cX2_lengthFor 15 = .ok (.iadd, 1) := by decide +kernel
theorem dX2_lengthFor_16 : decode cX2_lengthFor 16 = .ok (.istore 4, 2) := by decide +kernel
theorem dX2_lengthFor_18 : decode cX2_lengthFor 18 = .ok (.iload_n 1, 1) := by decide +kernel
theorem dX2_lengthFor_19 : decode cX2_lengthFor 19 = .ok (.iconst 5, 1) := by decide +kernel
theorem dX2_lengthFor_20 : decode cX2_lengthFor 20 = .ok (.if_icmp .ne 18, 3) := by decide +kernel
theorem dX2_lengthFor_23 : decode cX2_lengthFor 23 = .ok (.iload 4, 2) := by decide +kernel
theorem dX2_lengthFor_25 : decode cX2_lengthFor 25 = .ok (.aload_n 0, 1) := by decide +kernel
theorem dX2_lengthFor_26 : decode cX2_lengthFor 26 = .ok (.getfield 40, 3) := by decide +kernel
theorem dX2_lengthFor_29 : decode cX2_lengthFor 29 = .ok (.iload_n 3, 1) := by decide +kernel
theorem dX2_lengthFor_30 : decode cX2_lengthFor 30 = .ok (.invokestatic 68, 3) := by decide +kernel
theorem dX2_lengthFor_33 : decode cX2_lengthFor 33 = .ok (.iconst 2, 1) := by decide +kernel
theorem dX2_lengthFor_34 : decode cX2_lengthFor 34 = .ok (.iadd, 1) := by decide +kernel
theorem dX2_lengthFor_35 : decode cX2_lengthFor 35 = .ok (.iadd, 1) := by decide +kernel
theorem dX2_lengthFor_36 : decode cX2_lengthFor 36 = .ok (.istore 4, 2) := by decide +kernel
theorem dX2_lengthFor_38 : decode cX2_lengthFor 38 = .ok (.iload 4, 2) := by decide +kernel
theorem dX2_lengthFor_40 : decode cX2_lengthFor 40 = .ok (.ireturn, 1) := by decide +kernel
theorem dX2_putActions_0 : decode cX2_putActions 0 = .ok (.iload_n 2, 1) := by decide +kernel
theorem dX2_putActions_1 : decode cX2_putActions 1 = .ok (.invokestatic 78, 3) := by decide +kernel
theorem dX2_putActions_4 : decode cX2_putActions 4 = .ok (.ifCond .eq 26, 3) := by decide +kernel
theorem dX2_putActions_7 : decode cX2_putActions 7 = .ok (.aload_n 0, 1) := by decide +kernel
theorem dX2_putActions_8 : decode cX2_putActions 8 = .ok (.getfield 43, 3) := by decide +kernel
theorem dX2_putActions_11 : decode cX2_putActions 11 = .ok (.iload_n 1, 1) := by decide +kernel
theorem dX2_putActions_12 : decode cX2_putActions 12 = .ok (.iconst 3, 1) := by decide +kernel
theorem dX2_putActions_13 : decode cX2_putActions 13 = .ok (.imul, 1) := by decide +kernel
theorem dX2_putActions_14 : decode cX2_putActions 14 = .ok (.iload_n 1, 1) := by decide +kernel
theorem dX2_putActions_15 : decode cX2_putActions 15 = .ok (.invokestatic 64, 3) := by decide +kernel
theorem dX2_putActions_18 : decode cX2_putActions 18 = .ok (.aload_n 0, 1) := by decide +kernel
theorem dX2_putActions_19 : decode cX2_putActions 19 = .ok (.getfield 46, 3) := by decide +kernel
theorem dX2_putActions_22 : decode cX2_putActions 22 = .ok (.iload_n 1, 1) := by decide +kernel
theorem dX2_putActions_23 : decode cX2_putActions 23 = .ok (.iconst 3, 1) := by decide +kernel
theorem dX2_putActions_24 : decode cX2_putActions 24 = .ok (.imul, 1) := by decide +kernel
theorem dX2_putActions_25 : decode cX2_putActions 25 = .ok (.lconst 0, 1) := by decide +kernel
theorem dX2_putActions_26 : decode cX2_putActions 26 = .ok (.invokestatic 96, 3) := by decide +kernel
theorem dX2_putActions_29 : decode cX2_putActions 29 = .ok (.return_, 1) := by decide +kernel
theorem dX2_putActions_30 : decode cX2_putActions 30 = .ok (.iload_n 2, 1) := by decide +kernel
theorem dX2_putActions_31 : decode cX2_putActions 31 = .ok (.iconst 4, 1) := by decide +kernel
theorem dX2_putActions_32 : decode cX2_putActions 32 = .ok (.if_icmp .ne 15, 3) := by decide +kernel
theorem dX2_putActions_35 : decode cX2_putActions 35 = .ok (.lconst 1, 1) := by decide +kernel
theorem dX2_putActions_36 : decode cX2_putActions 36 = .ok (.iload_n 3, 1) := by decide +kernel
theorem dX2_putActions_37 : decode cX2_putActions 37 = .ok (.bipush 6, 2) := by decide +kernel
theorem dX2_putActions_39 : decode cX2_putActions 39 = .ok (.imul, 1) := by decide +kernel
theorem dX2_putActions_40 : decode cX2_putActions 40 = .ok (.iload 4, 2) := by decide +kernel
theorem dX2_putActions_42 : decode cX2_putActions 42 = .ok (.iadd, 1) := by decide +kernel
theorem dX2_putActions_43 : decode cX2_putActions 43 = .ok (.lshl, 1) := by decide +kernel
theorem dX2_putActions_44 : decode cX2_putActions 44 = .ok (.goto 4, 3) := by decide +kernel
theorem dX2_putActions_47 : decode cX2_putActions 47 = .ok (.lconst 0, 1) := by decide +kernel
theorem dX2_putActions_48 : decode cX2_putActions 48 = .ok (.lstore 7, 2) := by decide +kernel
theorem dX2_putActions_50 : decode cX2_putActions 50 = .ok (.aload_n 0, 1) := by decide +kernel
theorem dX2_putActions_51 : decode cX2_putActions 51 = .ok (.iload 5, 2) := by decide +kernel
theorem dX2_putActions_53 : decode cX2_putActions 53 = .ok (.iload_n 1, 1) := by decide +kernel
theorem dX2_putActions_54 : decode cX2_putActions 54 = .ok (.iconst 0, 1) := by decide +kernel
theorem dX2_putActions_55 : decode cX2_putActions 55 = .ok (.lload 7, 2) := by decide +kernel
theorem dX2_putActions_57 : decode cX2_putActions 57 = .ok (.invokevirtual 99, 3) := by decide +kernel
theorem dX2_putActions_60 : decode cX2_putActions 60 = .ok (.aload_n 0, 1) := by decide +kernel
theorem dX2_putActions_61 : decode cX2_putActions 61 = .ok (.iload 6, 2) := by decide +kernel
theorem dX2_putActions_63 : decode cX2_putActions 63 = .ok (.iload_n 1, 1) := by decide +kernel
theorem dX2_putActions_64 : decode cX2_putActions 64 = .ok (.aload_n 0, 1) := by decide +kernel
theorem dX2_putActions_65 : decode cX2_putActions 65 = .ok (.getfield 30, 3) := by decide +kernel
theorem dX2_putActions_68 : decode cX2_putActions 68 = .ok (.iload 5, 2) := by decide +kernel
theorem dX2_putActions_70 : decode cX2_putActions 70 = .ok (.invokestatic 68, 3) := by decide +kernel
theorem dX2_putActions_73 : decode cX2_putActions 73 = .ok (.lload 7, 2) := by decide +kernel
theorem dX2_putActions_75 : decode cX2_putActions 75 = .ok (.invokevirtual 99, 3) := by decide +kernel
theorem dX2_putActions_78 : decode cX2_putActions 78 = .ok (.return_, 1) := by decide +kernel
theorem dX2_copyActions_0 : decode cX2_copyActions 0 = .ok (.iconst 0, 1) := by decide +kernel
theorem dX2_copyActions_1 : decode cX2_copyActions 1 = .ok (.istore 6, 2) := by decide +kernel
theorem dX2_copyActions_3 : decode cX2_copyActions 3 = .ok (.iload 6, 2) := by decide +kernel
theorem dX2_copyActions_5 : decode cX2_copyActions 5 = .ok (.aload_n 0, 1) := by decide +kernel
theorem dX2_copyActions_6 : decode cX2_copyActions 6 = .ok (.getfield 30, 3) := by decide +kernel
theorem dX2_copyActions_9 : decode cX2_copyActions 9 = .ok (.iload_n 1, 1) := by decide +kernel
theorem dX2_copyActions_10 : decode cX2_copyActions 10 = .ok (.invokestatic 68, 3) := by decide +kernel
theorem dX2_copyActions_13 : decode cX2_copyActions 13 = .ok (.if_icmp .ge 66, 3) := by decide +kernel
theorem dX2_copyActions_16 : decode cX2_copyActions 16 = .ok (.iload_n 1, 1) := by decide +kernel
theorem dX2_copyActions_17 : decode cX2_copyActions 17 = .ok (.iconst 3, 1) := by decide +kernel
theorem dX2_copyActions_18 : decode cX2_copyActions 18 = .ok (.imul, 1) := by decide +kernel
theorem dX2_copyActions_19 : decode cX2_copyActions 19 = .ok (.iload 6, 2) := by decide +kernel
theorem dX2_copyActions_21 : decode cX2_copyActions 21 = .ok (.iadd, 1) := by decide +kernel
theorem dX2_copyActions_22 : decode cX2_copyActions 22 = .ok (.istore 7, 2) := by decide +kernel
theorem dX2_copyActions_24 : decode cX2_copyActions 24 = .ok (.iload_n 2, 1) := by decide +kernel
theorem dX2_copyActions_25 : decode cX2_copyActions 25 = .ok (.iconst 3, 1) := by decide +kernel
theorem dX2_copyActions_26 : decode cX2_copyActions 26 = .ok (.imul, 1) := by decide +kernel
theorem dX2_copyActions_27 : decode cX2_copyActions 27 = .ok (.iload_n 3, 1) := by decide +kernel
theorem dX2_copyActions_28 : decode cX2_copyActions 28 = .ok (.iadd, 1) := by decide +kernel
theorem dX2_copyActions_29 : decode cX2_copyActions 29 = .ok (.iload 6, 2) := by decide +kernel
theorem dX2_copyActions_31 : decode cX2_copyActions 31 = .ok (.iadd, 1) := by decide +kernel
theorem dX2_copyActions_32 : decode cX2_copyActions 32 = .ok (.istore 8, 2) := by decide +kernel
theorem dX2_copyActions_34 : decode cX2_copyActions 34 = .ok (.aload_n 0, 1) := by decide +kernel
theorem dX2_copyActions_35 : decode cX2_copyActions 35 = .ok (.getfield 43, 3) := by decide +kernel
theorem dX2_copyActions_38 : decode cX2_copyActions 38 = .ok (.iload 8, 2) := by decide +kernel
theorem dX2_copyActions_40 : decode cX2_copyActions 40 = .ok (.aload_n 0, 1) := by decide +kernel
theorem dX2_copyActions_41 : decode cX2_copyActions 41 = .ok (.getfield 43, 3) := by decide +kernel
theorem dX2_copyActions_44 : decode cX2_copyActions 44 = .ok (.iload 7, 2) := by decide +kernel
theorem dX2_copyActions_46 : decode cX2_copyActions 46 = .ok (.invokestatic 68, 3) := by decide +kernel
theorem dX2_copyActions_49 : decode cX2_copyActions 49 = .ok (.invokestatic 64, 3) := by decide +kernel
theorem dX2_copyActions_52 : decode cX2_copyActions 52 = .ok (.aload_n 0, 1) := by decide +kernel
theorem dX2_copyActions_53 : decode cX2_copyActions 53 = .ok (.getfield 46, 3) := by decide +kernel
theorem dX2_copyActions_56 : decode cX2_copyActions 56 = .ok (.iload 8, 2) := by decide +kernel
theorem dX2_copyActions_58 : decode cX2_copyActions 58 = .ok (.aload_n 0, 1) := by decide +kernel
theorem dX2_copyActions_59 : decode cX2_copyActions 59 = .ok (.getfield 46, 3) := by decide +kernel
theorem dX2_copyActions_62 : decode cX2_copyActions 62 = .ok (.iload 7, 2) := by decide +kernel
theorem dX2_copyActions_64 : decode cX2_copyActions 64 = .ok (.invokestatic 103, 3) := by decide +kernel
theorem dX2_copyActions_67 : decode cX2_copyActions 67 = .ok (.lload 4, 2) := by decide +kernel
theorem dX2_copyActions_69 : decode cX2_copyActions 69 = .ok (.lor, 1) := by decide +kernel
theorem dX2_copyActions_70 : decode cX2_copyActions 70 = .ok (.invokestatic 96, 3) := by decide +kernel
theorem dX2_copyActions_73 : decode cX2_copyActions 73 = .ok (.iinc 6 1, 3) := by decide +kernel
theorem dX2_copyActions_76 : decode cX2_copyActions 76 = .ok (.goto (-73), 3) := by decide +kernel
theorem dX2_copyActions_79 : decode cX2_copyActions 79 = .ok (.return_, 1) := by decide +kernel
theorem dX2_isOpen_0 : decode cX2_isOpen 0 = .ok (.lload_n 0, 1) := by decide +kernel
theorem dX2_isOpen_1 : decode cX2_isOpen 1 = .ok (.lconst 0, 1) := by decide +kernel
theorem dX2_isOpen_2 : decode cX2_isOpen 2 = .ok (.lcmp, 1) := by decide +kernel
theorem dX2_isOpen_3 : decode cX2_isOpen 3 = .ok (.ifCond .ne 5, 3) := by decide +kernel
theorem dX2_isOpen_6 : decode cX2_isOpen 6 = .ok (.iconst 1, 1) := by decide +kernel
theorem dX2_isOpen_7 : decode cX2_isOpen 7 = .ok (.ireturn, 1) := by decide +kernel
theorem dX2_isOpen_8 : decode cX2_isOpen 8 = .ok (.iconst 0, 1) := by decide +kernel
theorem dX2_isOpen_9 : decode cX2_isOpen 9 = .ok (.istore_n 3, 1) := by decide +kernel
theorem dX2_isOpen_10 : decode cX2_isOpen 10 = .ok (.iload_n 3, 1) := by decide +kernel
theorem dX2_isOpen_11 : decode cX2_isOpen 11 = .ok (.bipush 36, 2) := by decide +kernel
theorem dX2_isOpen_13 : decode cX2_isOpen 13 = .ok (.if_icmp .ge 44, 3) := by decide +kernel
theorem dX2_isOpen_16 : decode cX2_isOpen 16 = .ok (.iload_n 3, 1) := by decide +kernel
theorem dX2_isOpen_17 : decode cX2_isOpen 17 = .ok (.bipush 6, 2) := by decide +kernel
theorem dX2_isOpen_19 : decode cX2_isOpen 19 = .ok (.idiv, 1) := by decide +kernel
theorem dX2_isOpen_20 : decode cX2_isOpen 20 = .ok (.istore 4, 2) := by decide +kernel
theorem dX2_isOpen_22 : decode cX2_isOpen 22 = .ok (.iload_n 3, 1) := by decide +kernel
theorem dX2_isOpen_23 : decode cX2_isOpen 23 = .ok (.bipush 6, 2) := by decide +kernel
theorem dX2_isOpen_25 : decode cX2_isOpen 25 = .ok (.irem, 1) := by decide +kernel
theorem dX2_isOpen_26 : decode cX2_isOpen 26 = .ok (.istore 5, 2) := by decide +kernel
theorem dX2_isOpen_28 : decode cX2_isOpen 28 = .ok (.lload_n 0, 1) := by decide +kernel
theorem dX2_isOpen_29 : decode cX2_isOpen 29 = .ok (.iload_n 3, 1) := by decide +kernel
theorem dX2_isOpen_30 : decode cX2_isOpen 30 = .ok (.lushr, 1) := by decide +kernel
theorem dX2_isOpen_31 : decode cX2_isOpen 31 = .ok (.lconst 1, 1) := by decide +kernel
theorem dX2_isOpen_32 : decode cX2_isOpen 32 = .ok (.land, 1) := by decide +kernel
theorem dX2_isOpen_33 : decode cX2_isOpen 33 = .ok (.lconst 0, 1) := by decide +kernel
theorem dX2_isOpen_34 : decode cX2_isOpen 34 = .ok (.lcmp, 1) := by decide +kernel
theorem dX2_isOpen_35 : decode cX2_isOpen 35 = .ok (.ifCond .eq 16, 3) := by decide +kernel
theorem dX2_isOpen_38 : decode cX2_isOpen 38 = .ok (.iload 4, 2) := by decide +kernel
theorem dX2_isOpen_40 : decode cX2_isOpen 40 = .ok (.iload 5, 2) := by decide +kernel
theorem dX2_isOpen_42 : decode cX2_isOpen 42 = .ok (.iload_n 2, 1) := by decide +kernel
theorem dX2_isOpen_43 : decode cX2_isOpen 43 = .ok (.invokestatic 106, 3) := by decide +kernel
theorem dX2_isOpen_46 : decode cX2_isOpen 46 = .ok (.ifCond .ne 5, 3) := by decide +kernel
theorem dX2_isOpen_49 : decode cX2_isOpen 49 = .ok (.iconst 0, 1) := by decide +kernel
theorem dX2_isOpen_50 : decode cX2_isOpen 50 = .ok (.ireturn, 1) := by decide +kernel
theorem dX2_isOpen_51 : decode cX2_isOpen 51 = .ok (.iinc 3 1, 3) := by decide +kernel
theorem dX2_isOpen_54 : decode cX2_isOpen 54 = .ok (.goto (-44), 3) := by decide +kernel
theorem dX2_isOpen_57 : decode cX2_isOpen 57 = .ok (.iconst 1, 1) := by decide +kernel
theorem dX2_isOpen_58 : decode cX2_isOpen 58 = .ok (.ireturn, 1) := by decide +kernel
theorem dX2_actionIn_0 : decode cX2_actionIn 0 = .ok (.iload_n 2, 1) := by decide +kernel
theorem dX2_actionIn_1 : decode cX2_actionIn 1 = .ok (.ifCond .lt 15, 3) := by decide +kernel
theorem dX2_actionIn_4 : decode cX2_actionIn 4 = .ok (.iload_n 2, 1) := by decide +kernel
theorem dX2_actionIn_5 : decode cX2_actionIn 5 = .ok (.aload_n 0, 1) := by decide +kernel
theorem dX2_actionIn_6 : decode cX2_actionIn 6 = .ok (.getfield 30, 3) := by decide +kernel
theorem dX2_actionIn_9 : decode cX2_actionIn 9 = .ok (.iload_n 1, 1) := by decide +kernel
theorem dX2_actionIn_10 : decode cX2_actionIn 10 = .ok (.invokestatic 68, 3) := by decide +kernel
theorem dX2_actionIn_13 : decode cX2_actionIn 13 = .ok (.if_icmp .lt 6, 3) := by decide +kernel
theorem dX2_actionIn_16 : decode cX2_actionIn 16 = .ok (.bipush (-4), 2) := by decide +kernel
theorem dX2_actionIn_18 : decode cX2_actionIn 18 = .ok (.ireturn, 1) := by decide +kernel
theorem dX2_actionIn_19 : decode cX2_actionIn 19 = .ok (.iload_n 1, 1) := by decide +kernel
theorem dX2_actionIn_20 : decode cX2_actionIn 20 = .ok (.iconst 3, 1) := by decide +kernel
theorem dX2_actionIn_21 : decode cX2_actionIn 21 = .ok (.imul, 1) := by decide +kernel
theorem dX2_actionIn_22 : decode cX2_actionIn 22 = .ok (.iload_n 2, 1) := by decide +kernel
theorem dX2_actionIn_23 : decode cX2_actionIn 23 = .ok (.iadd, 1) := by decide +kernel
theorem dX2_actionIn_24 : decode cX2_actionIn 24 = .ok (.istore 4, 2) := by decide +kernel
theorem dX2_actionIn_26 : decode cX2_actionIn 26 = .ok (.aload_n 0, 1) := by decide +kernel
theorem dX2_actionIn_27 : decode cX2_actionIn 27 = .ok (.getfield 46, 3) := by decide +kernel
theorem dX2_actionIn_30 : decode cX2_actionIn 30 = .ok (.iload 4, 2) := by decide +kernel
theorem dX2_actionIn_32 : decode cX2_actionIn 32 = .ok (.invokestatic 103, 3) := by decide +kernel
theorem dX2_actionIn_35 : decode cX2_actionIn 35 = .ok (.iload_n 3, 1) := by decide +kernel
theorem dX2_actionIn_36 : decode cX2_actionIn 36 = .ok (.invokestatic 110, 3) := by decide +kernel
theorem dX2_actionIn_39 : decode cX2_actionIn 39 = .ok (.ifCond .eq 15, 3) := by decide +kernel
theorem dX2_actionIn_42 : decode cX2_actionIn 42 = .ok (.aload_n 0, 1) := by decide +kernel
theorem dX2_actionIn_43 : decode cX2_actionIn 43 = .ok (.getfield 43, 3) := by decide +kernel
theorem dX2_actionIn_46 : decode cX2_actionIn 46 = .ok (.iload 4, 2) := by decide +kernel
theorem dX2_actionIn_48 : decode cX2_actionIn 48 = .ok (.invokestatic 68, 3) := by decide +kernel
theorem dX2_actionIn_51 : decode cX2_actionIn 51 = .ok (.goto 5, 3) := by decide +kernel
theorem dX2_actionIn_54 : decode cX2_actionIn 54 = .ok (.bipush (-4), 2) := by decide +kernel
theorem dX2_actionIn_56 : decode cX2_actionIn 56 = .ok (.ireturn, 1) := by decide +kernel
theorem dX2_movesOf_0 : decode cX2_movesOf 0 = .ok (.iconst 0, 1) := by decide +kernel
theorem dX2_movesOf_1 : decode cX2_movesOf 1 = .ok (.istore_n 2, 1) := by decide +kernel
theorem dX2_movesOf_2 : decode cX2_movesOf 2 = .ok (.iconst 0, 1) := by decide +kernel
theorem dX2_movesOf_3 : decode cX2_movesOf 3 = .ok (.istore_n 3, 1) := by decide +kernel
theorem dX2_movesOf_4 : decode cX2_movesOf 4 = .ok (.iload_n 3, 1) := by decide +kernel
theorem dX2_movesOf_5 : decode cX2_movesOf 5 = .ok (.aload_n 0, 1) := by decide +kernel
theorem dX2_movesOf_6 : decode cX2_movesOf 6 = .ok (.getfield 30, 3) := by decide +kernel
theorem dX2_movesOf_9 : decode cX2_movesOf 9 = .ok (.iload_n 1, 1) := by decide +kernel
theorem dX2_movesOf_10 : decode cX2_movesOf 10 = .ok (.invokestatic 68, 3) := by decide +kernel
theorem dX2_movesOf_13 : decode cX2_movesOf 13 = .ok (.if_icmp .ge 24, 3) := by decide +kernel
theorem dX2_movesOf_16 : decode cX2_movesOf 16 = .ok (.aload_n 0, 1) := by decide +kernel
theorem dX2_movesOf_17 : decode cX2_movesOf 17 = .ok (.iload_n 1, 1) := by decide +kernel
theorem dX2_movesOf_18 : decode cX2_movesOf 18 = .ok (.iload_n 3, 1) := by decide +kernel
theorem dX2_movesOf_19 : decode cX2_movesOf 19 = .ok (.iconst 1, 1) := by decide +kernel
theorem dX2_movesOf_20 : decode cX2_movesOf 20 = .ok (.invokevirtual 114, 3) := by decide +kernel
theorem dX2_movesOf_23 : decode cX2_movesOf 23 = .ok (.bipush (-4), 2) := by decide +kernel
theorem dX2_movesOf_25 : decode cX2_movesOf 25 = .ok (.if_icmp .eq 6, 3) := by decide +kernel
theorem dX2_movesOf_28 : decode cX2_movesOf 28 = .ok (.iinc 2 1, 3) := by decide +kernel
theorem dX2_movesOf_31 : decode cX2_movesOf 31 = .ok (.iinc 3 1, 3) := by decide +kernel
theorem dX2_movesOf_34 : decode cX2_movesOf 34 = .ok (.goto (-30), 3) := by decide +kernel
theorem dX2_movesOf_37 : decode cX2_movesOf 37 = .ok (.iload_n 2, 1) := by decide +kernel
theorem dX2_movesOf_38 : decode cX2_movesOf 38 = .ok (.ireturn, 1) := by decide +kernel
theorem dX2_headOf_0 : decode cX2_headOf 0 = .ok (.iload_n 0, 1) := by decide +kernel
theorem dX2_headOf_1 : decode cX2_headOf 1 = .ok (.tableswitch 50 1 5 #[35, 38, 41, 44, 47], 35) := by decide +kernel
theorem dX2_headOf_36 : decode cX2_headOf 36 = .ok (.ldc 117, 2) := by decide +kernel
theorem dX2_headOf_38 : decode cX2_headOf 38 = .ok (.areturn, 1) := by decide +kernel
theorem dX2_headOf_39 : decode cX2_headOf 39 = .ok (.ldc 119, 2) := by decide +kernel
theorem dX2_headOf_41 : decode cX2_headOf 41 = .ok (.areturn, 1) := by decide +kernel
theorem dX2_headOf_42 : decode cX2_headOf 42 = .ok (.ldc 121, 2) := by decide +kernel
theorem dX2_headOf_44 : decode cX2_headOf 44 = .ok (.areturn, 1) := by decide +kernel
theorem dX2_headOf_45 : decode cX2_headOf 45 = .ok (.ldc 123, 2) := by decide +kernel
theorem dX2_headOf_47 : decode cX2_headOf 47 = .ok (.areturn, 1) := by decide +kernel
theorem dX2_headOf_48 : decode cX2_headOf 48 = .ok (.ldc 125, 2) := by decide +kernel
theorem dX2_headOf_50 : decode cX2_headOf 50 = .ok (.areturn, 1) := by decide +kernel
theorem dX2_headOf_51 : decode cX2_headOf 51 = .ok (.ldc 127, 2) := by decide +kernel
theorem dX2_headOf_53 : decode cX2_headOf 53 = .ok (.areturn, 1) := by decide +kernel
theorem dX3_init_0 : decode cX3_init 0 = .ok (.aload_n 0, 1) := by decide +kernel
theorem dX3_init_1 : decode cX3_init 1 = .ok (.invokespecial 1, 3) := by decide +kernel
theorem dX3_init_4 : decode cX3_init 4 = .ok (.aload_n 0, 1) := by decide +kernel
theorem dX3_init_5 : decode cX3_init 5 = .ok (.new 7, 3) := by decide +kernel
theorem dX3_init_8 : decode cX3_init 8 = .ok (.dup, 1) := by decide +kernel
theorem dX3_init_9 : decode cX3_init 9 = .ok (.invokespecial 9, 3) := by decide +kernel
theorem dX3_init_12 : decode cX3_init 12 = .ok (.putfield 10, 3) := by decide +kernel
theorem dX3_init_15 : decode cX3_init 15 = .ok (.aload_n 0, 1) := by decide +kernel
theorem dX3_init_16 : decode cX3_init 16 = .ok (.new 16, 3) := by decide +kernel
theorem dX3_init_19 : decode cX3_init 19 = .ok (.dup, 1) := by decide +kernel
theorem dX3_init_20 : decode cX3_init 20 = .ok (.aload_n 0, 1) := by decide +kernel
theorem dX3_init_21 : decode cX3_init 21 = .ok (.getfield 10, 3) := by decide +kernel
theorem dX3_init_24 : decode cX3_init 24 = .ok (.invokespecial 18, 3) := by decide +kernel
theorem dX3_init_27 : decode cX3_init 27 = .ok (.putfield 21, 3) := by decide +kernel
theorem dX3_init_30 : decode cX3_init 30 = .ok (.return_, 1) := by decide +kernel
theorem dX3_tau_0 : decode cX3_tau 0 = .ok (.aload_n 0, 1) := by decide +kernel
theorem dX3_tau_1 : decode cX3_tau 1 = .ok (.getfield 10, 3) := by decide +kernel
theorem dX3_tau_4 : decode cX3_tau 4 = .ok (.iload_n 1, 1) := by decide +kernel
theorem dX3_tau_5 : decode cX3_tau 5 = .ok (.invokevirtual 25, 3) := by decide +kernel
theorem dX3_tau_8 : decode cX3_tau 8 = .ok (.ifCond .ne 5, 3) := by decide +kernel
theorem dX3_tau_11 : decode cX3_tau 11 = .ok (.iconst (-1), 1) := by decide +kernel
theorem dX3_tau_12 : decode cX3_tau 12 = .ok (.ireturn, 1) := by decide +kernel
theorem dX3_tau_13 : decode cX3_tau 13 = .ok (.aload_n 0, 1) := by decide +kernel
theorem dX3_tau_14 : decode cX3_tau 14 = .ok (.getfield 10, 3) := by decide +kernel
theorem dX3_tau_17 : decode cX3_tau 17 = .ok (.iconst 1, 1) := by decide +kernel
theorem dX3_tau_18 : decode cX3_tau 18 = .ok (.iconst 0, 1) := by decide +kernel
theorem dX3_tau_19 : decode cX3_tau 19 = .ok (.iconst 0, 1) := by decide +kernel
theorem dX3_tau_20 : decode cX3_tau 20 = .ok (.iload_n 1, 1) := by decide +kernel
theorem dX3_tau_21 : decode cX3_tau 21 = .ok (.iconst 0, 1) := by decide +kernel
theorem dX3_tau_22 : decode cX3_tau 22 = .ok (.invokevirtual 29, 3) := by decide +kernel
theorem dX3_tau_25 : decode cX3_tau 25 = .ok (.ireturn, 1) := by decide +kernel
theorem dX3_output_0 : decode cX3_output 0 = .ok (.iload_n 1, 1) := by decide +kernel
theorem dX3_output_1 : decode cX3_output 1 = .ok (.invokestatic 33, 3) := by decide +kernel
theorem dX3_output_4 : decode cX3_output 4 = .ok (.ifCond .eq 21, 3) := by decide +kernel
theorem dX3_output_7 : decode cX3_output 7 = .ok (.iload_n 2, 1) := by decide +kernel
theorem dX3_output_8 : decode cX3_output 8 = .ok (.invokestatic 33, 3) := by decide +kernel
theorem dX3_output_11 : decode cX3_output 11 = .ok (.ifCond .eq 14, 3) := by decide +kernel
theorem dX3_output_14 : decode cX3_output 14 = .ok (.aload_n 0, 1) := by decide +kernel
theorem dX3_output_15 : decode cX3_output 15 = .ok (.getfield 10, 3) := by decide +kernel
theorem dX3_output_18 : decode cX3_output 18 = .ok (.iload_n 3, 1) := by decide +kernel
theorem dX3_output_19 : decode cX3_output 19 = .ok (.invokevirtual 25, 3) := by decide +kernel
theorem dX3_output_22 : decode cX3_output 22 = .ok (.ifCond .ne 5, 3) := by decide +kernel
theorem dX3_output_25 : decode cX3_output 25 = .ok (.iconst (-1), 1) := by decide +kernel
theorem dX3_output_26 : decode cX3_output 26 = .ok (.ireturn, 1) := by decide +kernel
theorem dX3_output_27 : decode cX3_output 27 = .ok (.aload_n 0, 1) := by decide +kernel
theorem dX3_output_28 : decode cX3_output 28 = .ok (.getfield 10, 3) := by decide +kernel
theorem dX3_output_31 : decode cX3_output 31 = .ok (.iconst 2, 1) := by decide +kernel
theorem dX3_output_32 : decode cX3_output 32 = .ok (.iload_n 1, 1) := by decide +kernel
theorem dX3_output_33 : decode cX3_output 33 = .ok (.iload_n 2, 1) := by decide +kernel
theorem dX3_output_34 : decode cX3_output 34 = .ok (.iload_n 3, 1) := by decide +kernel
theorem dX3_output_35 : decode cX3_output 35 = .ok (.iconst 0, 1) := by decide +kernel
theorem dX3_output_36 : decode cX3_output 36 = .ok (.invokevirtual 29, 3) := by decide +kernel
theorem dX3_output_39 : decode cX3_output 39 = .ok (.ireturn, 1) := by decide +kernel
theorem dX3_input_0 : decode cX3_input 0 = .ok (.iload_n 1, 1) := by decide +kernel
theorem dX3_input_1 : decode cX3_input 1 = .ok (.invokestatic 33, 3) := by decide +kernel
theorem dX3_input_4 : decode cX3_input 4 = .ok (.ifCond .eq 14, 3) := by decide +kernel
theorem dX3_input_7 : decode cX3_input 7 = .ok (.aload_n 0, 1) := by decide +kernel
theorem dX3_input_8 : decode cX3_input 8 = .ok (.getfield 10, 3) := by decide +kernel
theorem dX3_input_11 : decode cX3_input 11 = .ok (.iload_n 2, 1) := by decide +kernel
theorem dX3_input_12 : decode cX3_input 12 = .ok (.invokevirtual 25, 3) := by decide +kernel
theorem dX3_input_15 : decode cX3_input 15 = .ok (.ifCond .ne 5, 3) := by decide +kernel
theorem dX3_input_18 : decode cX3_input 18 = .ok (.iconst (-1), 1) := by decide +kernel
theorem dX3_input_19 : decode cX3_input 19 = .ok (.ireturn, 1) := by decide +kernel
theorem dX3_input_20 : decode cX3_input 20 = .ok (.aload_n 0, 1) := by decide +kernel
theorem dX3_input_21 : decode cX3_input 21 = .ok (.getfield 10, 3) := by decide +kernel
theorem dX3_input_24 : decode cX3_input 24 = .ok (.iconst 3, 1) := by decide +kernel
theorem dX3_input_25 : decode cX3_input 25 = .ok (.iload_n 1, 1) := by decide +kernel
theorem dX3_input_26 : decode cX3_input 26 = .ok (.iconst 0, 1) := by decide +kernel
theorem dX3_input_27 : decode cX3_input 27 = .ok (.iload_n 2, 1) := by decide +kernel
theorem dX3_input_28 : decode cX3_input 28 = .ok (.iconst 0, 1) := by decide +kernel
theorem dX3_input_29 : decode cX3_input 29 = .ok (.invokevirtual 29, 3) := by decide +kernel
theorem dX3_input_32 : decode cX3_input 32 = .ok (.ireturn, 1) := by decide +kernel
theorem dX3_match_0 : decode cX3_match 0 = .ok (.iload_n 1, 1) := by decide +kernel
theorem dX3_match_1 : decode cX3_match 1 = .ok (.invokestatic 33, 3) := by decide +kernel
theorem dX3_match_4 : decode cX3_match 4 = .ok (.ifCond .eq 21, 3) := by decide +kernel
theorem dX3_match_7 : decode cX3_match 7 = .ok (.iload_n 2, 1) := by decide +kernel
theorem dX3_match_8 : decode cX3_match 8 = .ok (.invokestatic 33, 3) := by decide +kernel
theorem dX3_match_11 : decode cX3_match 11 = .ok (.ifCond .eq 14, 3) := by decide +kernel
theorem dX3_match_14 : decode cX3_match 14 = .ok (.aload_n 0, 1) := by decide +kernel
theorem dX3_match_15 : decode cX3_match 15 = .ok (.getfield 10, 3) := by decide +kernel
theorem dX3_match_18 : decode cX3_match 18 = .ok (.iload_n 3, 1) := by decide +kernel
theorem dX3_match_19 : decode cX3_match 19 = .ok (.invokevirtual 25, 3) := by decide +kernel
theorem dX3_match_22 : decode cX3_match 22 = .ok (.ifCond .ne 5, 3) := by decide +kernel
theorem dX3_match_25 : decode cX3_match 25 = .ok (.iconst (-1), 1) := by decide +kernel
theorem dX3_match_26 : decode cX3_match 26 = .ok (.ireturn, 1) := by decide +kernel
theorem dX3_match_27 : decode cX3_match 27 = .ok (.aload_n 0, 1) := by decide +kernel
theorem dX3_match_28 : decode cX3_match 28 = .ok (.getfield 10, 3) := by decide +kernel
theorem dX3_match_31 : decode cX3_match 31 = .ok (.iconst 4, 1) := by decide +kernel
theorem dX3_match_32 : decode cX3_match 32 = .ok (.iload_n 1, 1) := by decide +kernel
theorem dX3_match_33 : decode cX3_match 33 = .ok (.iload_n 2, 1) := by decide +kernel
theorem dX3_match_34 : decode cX3_match 34 = .ok (.iload_n 3, 1) := by decide +kernel
theorem dX3_match_35 : decode cX3_match 35 = .ok (.iconst 0, 1) := by decide +kernel
theorem dX3_match_36 : decode cX3_match 36 = .ok (.invokevirtual 29, 3) := by decide +kernel
theorem dX3_match_39 : decode cX3_match 39 = .ok (.ireturn, 1) := by decide +kernel
theorem dX3_sum_0 : decode cX3_sum 0 = .ok (.aload_n 0, 1) := by decide +kernel
theorem dX3_sum_1 : decode cX3_sum 1 = .ok (.getfield 10, 3) := by decide +kernel
theorem dX3_sum_4 : decode cX3_sum 4 = .ok (.iload_n 1, 1) := by decide +kernel
theorem dX3_sum_5 : decode cX3_sum 5 = .ok (.invokevirtual 25, 3) := by decide +kernel
theorem dX3_sum_8 : decode cX3_sum 8 = .ok (.ifCond .eq 14, 3) := by decide +kernel
theorem dX3_sum_11 : decode cX3_sum 11 = .ok (.aload_n 0, 1) := by decide +kernel
theorem dX3_sum_12 : decode cX3_sum 12 = .ok (.getfield 10, 3) := by decide +kernel
theorem dX3_sum_15 : decode cX3_sum 15 = .ok (.iload_n 2, 1) := by decide +kernel
theorem dX3_sum_16 : decode cX3_sum 16 = .ok (.invokevirtual 25, 3) := by decide +kernel
theorem dX3_sum_19 : decode cX3_sum 19 = .ok (.ifCond .ne 5, 3) := by decide +kernel
theorem dX3_sum_22 : decode cX3_sum 22 = .ok (.iconst (-1), 1) := by decide +kernel
theorem dX3_sum_23 : decode cX3_sum 23 = .ok (.ireturn, 1) := by decide +kernel
theorem dX3_sum_24 : decode cX3_sum 24 = .ok (.aload_n 0, 1) := by decide +kernel
theorem dX3_sum_25 : decode cX3_sum 25 = .ok (.getfield 10, 3) := by decide +kernel
theorem dX3_sum_28 : decode cX3_sum 28 = .ok (.iconst 5, 1) := by decide +kernel
theorem dX3_sum_29 : decode cX3_sum 29 = .ok (.iconst 0, 1) := by decide +kernel
theorem dX3_sum_30 : decode cX3_sum 30 = .ok (.iconst 0, 1) := by decide +kernel
theorem dX3_sum_31 : decode cX3_sum 31 = .ok (.iload_n 1, 1) := by decide +kernel
theorem dX3_sum_32 : decode cX3_sum 32 = .ok (.iload_n 2, 1) := by decide +kernel
theorem dX3_sum_33 : decode cX3_sum 33 = .ok (.invokevirtual 29, 3) := by decide +kernel
theorem dX3_sum_36 : decode cX3_sum 36 = .ok (.ireturn, 1) := by decide +kernel
theorem dX3_removeLast_0 : decode cX3_removeLast 0 = .ok (.aload_n 0, 1) := by decide +kernel
theorem dX3_removeLast_1 : decode cX3_removeLast 1 = .ok (.getfield 10, 3) := by decide +kernel
theorem dX3_removeLast_4 : decode cX3_removeLast 4 = .ok (.getfield 36, 3) := by decide +kernel
theorem dX3_removeLast_7 : decode cX3_removeLast 7 = .ok (.iconst 1, 1) := by decide +kernel
theorem dX3_removeLast_8 : decode cX3_removeLast 8 = .ok (.isub, 1) := by decide +kernel
theorem dX3_removeLast_9 : decode cX3_removeLast 9 = .ok (.istore_n 1, 1) := by decide +kernel
theorem dX3_removeLast_10 : decode cX3_removeLast 10 = .ok (.iload_n 1, 1) := by decide +kernel
theorem dX3_removeLast_11 : decode cX3_removeLast 11 = .ok (.iconst 1, 1) := by decide +kernel
theorem dX3_removeLast_12 : decode cX3_removeLast 12 = .ok (.if_icmp .ge 6, 3) := by decide +kernel
theorem dX3_removeLast_15 : decode cX3_removeLast 15 = .ok (.bipush (-4), 2) := by decide +kernel
theorem dX3_removeLast_17 : decode cX3_removeLast 17 = .ok (.ireturn, 1) := by decide +kernel
theorem dX3_removeLast_18 : decode cX3_removeLast 18 = .ok (.aload_n 0, 1) := by decide +kernel
theorem dX3_removeLast_19 : decode cX3_removeLast 19 = .ok (.getfield 10, 3) := by decide +kernel
theorem dX3_removeLast_22 : decode cX3_removeLast 22 = .ok (.iload_n 1, 1) := by decide +kernel
theorem dX3_removeLast_23 : decode cX3_removeLast 23 = .ok (.putfield 36, 3) := by decide +kernel
theorem dX3_removeLast_26 : decode cX3_removeLast 26 = .ok (.aload_n 0, 1) := by decide +kernel
theorem dX3_removeLast_27 : decode cX3_removeLast 27 = .ok (.getfield 21, 3) := by decide +kernel
theorem dX3_removeLast_30 : decode cX3_removeLast 30 = .ok (.iload_n 1, 1) := by decide +kernel
theorem dX3_removeLast_31 : decode cX3_removeLast 31 = .ok (.invokevirtual 40, 3) := by decide +kernel
theorem dX3_removeLast_34 : decode cX3_removeLast 34 = .ok (.iload_n 1, 1) := by decide +kernel
theorem dX3_removeLast_35 : decode cX3_removeLast 35 = .ok (.ireturn, 1) := by decide +kernel
theorem dX3_processCount_0 : decode cX3_processCount 0 = .ok (.aload_n 0, 1) := by decide +kernel
theorem dX3_processCount_1 : decode cX3_processCount 1 = .ok (.getfield 10, 3) := by decide +kernel
theorem dX3_processCount_4 : decode cX3_processCount 4 = .ok (.getfield 36, 3) := by decide +kernel
theorem dX3_processCount_7 : decode cX3_processCount 7 = .ok (.ireturn, 1) := by decide +kernel
theorem dX3_depthOf_0 : decode cX3_depthOf 0 = .ok (.aload_n 0, 1) := by decide +kernel
theorem dX3_depthOf_1 : decode cX3_depthOf 1 = .ok (.getfield 10, 3) := by decide +kernel
theorem dX3_depthOf_4 : decode cX3_depthOf 4 = .ok (.iload_n 1, 1) := by decide +kernel
theorem dX3_depthOf_5 : decode cX3_depthOf 5 = .ok (.invokevirtual 25, 3) := by decide +kernel
theorem dX3_depthOf_8 : decode cX3_depthOf 8 = .ok (.ifCond .eq 17, 3) := by decide +kernel
theorem dX3_depthOf_11 : decode cX3_depthOf 11 = .ok (.aload_n 0, 1) := by decide +kernel
theorem dX3_depthOf_12 : decode cX3_depthOf 12 = .ok (.getfield 10, 3) := by decide +kernel
theorem dX3_depthOf_15 : decode cX3_depthOf 15 = .ok (.getfield 62, 3) := by decide +kernel
theorem dX3_depthOf_18 : decode cX3_depthOf 18 = .ok (.iload_n 1, 1) := by decide +kernel
theorem dX3_depthOf_19 : decode cX3_depthOf 19 = .ok (.invokestatic 48, 3) := by decide +kernel
theorem dX3_depthOf_22 : decode cX3_depthOf 22 = .ok (.goto 4, 3) := by decide +kernel
theorem dX3_depthOf_25 : decode cX3_depthOf 25 = .ok (.iconst (-1), 1) := by decide +kernel
theorem dX3_depthOf_26 : decode cX3_depthOf 26 = .ok (.ireturn, 1) := by decide +kernel
theorem dX3_needOf_0 : decode cX3_needOf 0 = .ok (.aload_n 0, 1) := by decide +kernel
theorem dX3_needOf_1 : decode cX3_needOf 1 = .ok (.getfield 10, 3) := by decide +kernel
theorem dX3_needOf_4 : decode cX3_needOf 4 = .ok (.iload_n 1, 1) := by decide +kernel
theorem dX3_needOf_5 : decode cX3_needOf 5 = .ok (.invokevirtual 25, 3) := by decide +kernel
theorem dX3_needOf_8 : decode cX3_needOf 8 = .ok (.ifCond .eq 17, 3) := by decide +kernel
theorem dX3_needOf_11 : decode cX3_needOf 11 = .ok (.aload_n 0, 1) := by decide +kernel
theorem dX3_needOf_12 : decode cX3_needOf 12 = .ok (.getfield 10, 3) := by decide +kernel
theorem dX3_needOf_15 : decode cX3_needOf 15 = .ok (.getfield 65, 3) := by decide +kernel
theorem dX3_needOf_18 : decode cX3_needOf 18 = .ok (.iload_n 1, 1) := by decide +kernel
theorem dX3_needOf_19 : decode cX3_needOf 19 = .ok (.invokestatic 48, 3) := by decide +kernel
theorem dX3_needOf_22 : decode cX3_needOf 22 = .ok (.goto 4, 3) := by decide +kernel
theorem dX3_needOf_25 : decode cX3_needOf 25 = .ok (.iconst (-1), 1) := by decide +kernel
theorem dX3_needOf_26 : decode cX3_needOf 26 = .ok (.ireturn, 1) := by decide +kernel
theorem dX3_textLength_0 : decode cX3_textLength 0 = .ok (.aload_n 0, 1) := by decide +kernel
theorem dX3_textLength_1 : decode cX3_textLength 1 = .ok (.getfield 10, 3) := by decide +kernel
theorem dX3_textLength_4 : decode cX3_textLength 4 = .ok (.iload_n 1, 1) := by decide +kernel
theorem dX3_textLength_5 : decode cX3_textLength 5 = .ok (.invokevirtual 25, 3) := by decide +kernel
theorem dX3_textLength_8 : decode cX3_textLength 8 = .ok (.ifCond .eq 17, 3) := by decide +kernel
theorem dX3_textLength_11 : decode cX3_textLength 11 = .ok (.aload_n 0, 1) := by decide +kernel
theorem dX3_textLength_12 : decode cX3_textLength 12 = .ok (.getfield 10, 3) := by decide +kernel
theorem dX3_textLength_15 : decode cX3_textLength 15 = .ok (.getfield 68, 3) := by decide +kernel
theorem dX3_textLength_18 : decode cX3_textLength 18 = .ok (.iload_n 1, 1) := by decide +kernel
theorem dX3_textLength_19 : decode cX3_textLength 19 = .ok (.invokestatic 48, 3) := by decide +kernel
theorem dX3_textLength_22 : decode cX3_textLength 22 = .ok (.goto 4, 3) := by decide +kernel
theorem dX3_textLength_25 : decode cX3_textLength 25 = .ok (.iconst (-1), 1) := by decide +kernel
theorem dX3_textLength_26 : decode cX3_textLength 26 = .ok (.ireturn, 1) := by decide +kernel
theorem dX3_moveCount_0 : decode cX3_moveCount 0 = .ok (.aload_n 0, 1) := by decide +kernel
theorem dX3_moveCount_1 : decode cX3_moveCount 1 = .ok (.getfield 10, 3) := by decide +kernel
theorem dX3_moveCount_4 : decode cX3_moveCount 4 = .ok (.iload_n 1, 1) := by decide +kernel
theorem dX3_moveCount_5 : decode cX3_moveCount 5 = .ok (.invokevirtual 25, 3) := by decide +kernel
theorem dX3_moveCount_8 : decode cX3_moveCount 8 = .ok (.ifCond .ne 5, 3) := by decide +kernel
theorem dX3_moveCount_11 : decode cX3_moveCount 11 = .ok (.iconst (-1), 1) := by decide +kernel
theorem dX3_moveCount_12 : decode cX3_moveCount 12 = .ok (.ireturn, 1) := by decide +kernel
theorem dX3_moveCount_13 : decode cX3_moveCount 13 = .ok (.aload_n 0, 1) := by decide +kernel
theorem dX3_moveCount_14 : decode cX3_moveCount 14 = .ok (.getfield 10, 3) := by decide +kernel
theorem dX3_moveCount_17 : decode cX3_moveCount 17 = .ok (.iload_n 1, 1) := by decide +kernel
theorem dX3_moveCount_18 : decode cX3_moveCount 18 = .ok (.invokevirtual 75, 3) := by decide +kernel
theorem dX3_moveCount_21 : decode cX3_moveCount 21 = .ok (.ifCond .eq 14, 3) := by decide +kernel
theorem dX3_moveCount_24 : decode cX3_moveCount 24 = .ok (.aload_n 0, 1) := by decide +kernel
theorem dX3_moveCount_25 : decode cX3_moveCount 25 = .ok (.getfield 10, 3) := by decide +kernel
theorem dX3_moveCount_28 : decode cX3_moveCount 28 = .ok (.iload_n 1, 1) := by decide +kernel
theorem dX3_moveCount_29 : decode cX3_moveCount 29 = .ok (.invokevirtual 78, 3) := by decide +kernel
theorem dX3_moveCount_32 : decode cX3_moveCount 32 = .ok (.goto 5, 3) := by decide +kernel
theorem dX3_moveCount_35 : decode cX3_moveCount 35 = .ok (.bipush (-2), 2) := by decide +kernel
theorem dX3_moveCount_37 : decode cX3_moveCount 37 = .ok (.ireturn, 1) := by decide +kernel
theorem dX3_areRelated_0 : decode cX3_areRelated 0 = .ok (.aload_n 0, 1) := by decide +kernel
theorem dX3_areRelated_1 : decode cX3_areRelated 1 = .ok (.iload_n 1, 1) := by decide +kernel
theorem dX3_areRelated_2 : decode cX3_areRelated 2 = .ok (.iload_n 2, 1) := by decide +kernel
theorem dX3_areRelated_3 : decode cX3_areRelated 3 = .ok (.iload_n 3, 1) := by decide +kernel
theorem dX3_areRelated_4 : decode cX3_areRelated 4 = .ok (.invokevirtual 90, 3) := by decide +kernel
theorem dX3_areRelated_7 : decode cX3_areRelated 7 = .ok (.istore 4, 2) := by decide +kernel
theorem dX3_areRelated_9 : decode cX3_areRelated 9 = .ok (.iload 4, 2) := by decide +kernel
theorem dX3_areRelated_11 : decode cX3_areRelated 11 = .ok (.ifCond .ge 6, 3) := by decide +kernel
theorem dX3_areRelated_14 : decode cX3_areRelated 14 = .ok (.iload 4, 2) := by decide +kernel
theorem dX3_areRelated_16 : decode cX3_areRelated 16 = .ok (.ireturn, 1) := by decide +kernel
theorem dX3_areRelated_17 : decode cX3_areRelated 17 = .ok (.aload_n 0, 1) := by decide +kernel
theorem dX3_areRelated_18 : decode cX3_areRelated 18 = .ok (.getfield 21, 3) := by decide +kernel
theorem dX3_areRelated_21 : decode cX3_areRelated 21 = .ok (.iload_n 1, 1) := by decide +kernel
theorem dX3_areRelated_22 : decode cX3_areRelated 22 = .ok (.iload_n 2, 1) := by decide +kernel
theorem dX3_areRelated_23 : decode cX3_areRelated 23 = .ok (.iload_n 3, 1) := by decide +kernel
theorem dX3_areRelated_24 : decode cX3_areRelated 24 = .ok (.invokevirtual 94, 3) := by decide +kernel
theorem dX3_areRelated_27 : decode cX3_areRelated 27 = .ok (.bipush (-4), 2) := by decide +kernel
theorem dX3_areRelated_29 : decode cX3_areRelated 29 = .ok (.if_icmp .ne 7, 3) := by decide +kernel
theorem dX3_areRelated_32 : decode cX3_areRelated 32 = .ok (.iconst 1, 1) := by decide +kernel
theorem dX3_areRelated_33 : decode cX3_areRelated 33 = .ok (.goto 4, 3) := by decide +kernel
theorem dX3_areRelated_36 : decode cX3_areRelated 36 = .ok (.iconst 0, 1) := by decide +kernel
theorem dX3_areRelated_37 : decode cX3_areRelated 37 = .ok (.ireturn, 1) := by decide +kernel
theorem dX3_rounds_0 : decode cX3_rounds 0 = .ok (.aload_n 0, 1) := by decide +kernel
theorem dX3_rounds_1 : decode cX3_rounds 1 = .ok (.iload_n 1, 1) := by decide +kernel
theorem dX3_rounds_2 : decode cX3_rounds 2 = .ok (.iload_n 2, 1) := by decide +kernel
theorem dX3_rounds_3 : decode cX3_rounds 3 = .ok (.iload_n 3, 1) := by decide +kernel
theorem dX3_rounds_4 : decode cX3_rounds 4 = .ok (.invokevirtual 90, 3) := by decide +kernel
theorem dX3_rounds_7 : decode cX3_rounds 7 = .ok (.istore 4, 2) := by decide +kernel
theorem dX3_rounds_9 : decode cX3_rounds 9 = .ok (.iload 4, 2) := by decide +kernel
theorem dX3_rounds_11 : decode cX3_rounds 11 = .ok (.ifCond .ge 8, 3) := by decide +kernel
theorem dX3_rounds_14 : decode cX3_rounds 14 = .ok (.iload 4, 2) := by decide +kernel
theorem dX3_rounds_16 : decode cX3_rounds 16 = .ok (.goto 13, 3) := by decide +kernel
theorem dX3_rounds_19 : decode cX3_rounds 19 = .ok (.aload_n 0, 1) := by decide +kernel
theorem dX3_rounds_20 : decode cX3_rounds 20 = .ok (.getfield 21, 3) := by decide +kernel
theorem dX3_rounds_23 : decode cX3_rounds 23 = .ok (.iload_n 1, 1) := by decide +kernel
theorem dX3_rounds_24 : decode cX3_rounds 24 = .ok (.iload_n 2, 1) := by decide +kernel
theorem dX3_rounds_25 : decode cX3_rounds 25 = .ok (.iload_n 3, 1) := by decide +kernel
theorem dX3_rounds_26 : decode cX3_rounds 26 = .ok (.invokevirtual 94, 3) := by decide +kernel
theorem dX3_rounds_29 : decode cX3_rounds 29 = .ok (.ireturn, 1) := by decide +kernel
theorem dX3_firstAttack_0 : decode cX3_firstAttack 0 = .ok (.aload_n 0, 1) := by decide +kernel
theorem dX3_firstAttack_1 : decode cX3_firstAttack 1 = .ok (.iload_n 1, 1) := by decide +kernel
theorem dX3_firstAttack_2 : decode cX3_firstAttack 2 = .ok (.iload_n 2, 1) := by decide +kernel
theorem dX3_firstAttack_3 : decode cX3_firstAttack 3 = .ok (.iload_n 3, 1) := by decide +kernel
theorem dX3_firstAttack_4 : decode cX3_firstAttack 4 = .ok (.invokevirtual 90, 3) := by decide +kernel
theorem dX3_firstAttack_7 : decode cX3_firstAttack 7 = .ok (.istore 4, 2) := by decide +kernel
theorem dX3_firstAttack_9 : decode cX3_firstAttack 9 = .ok (.iload 4, 2) := by decide +kernel
theorem dX3_firstAttack_11 : decode cX3_firstAttack 11 = .ok (.ifCond .ge 8, 3) := by decide +kernel
theorem dX3_firstAttack_14 : decode cX3_firstAttack 14 = .ok (.iload 4, 2) := by decide +kernel
theorem dX3_firstAttack_16 : decode cX3_firstAttack 16 = .ok (.goto 13, 3) := by decide +kernel
theorem dX3_firstAttack_19 : decode cX3_firstAttack 19 = .ok (.aload_n 0, 1) := by decide +kernel
theorem dX3_firstAttack_20 : decode cX3_firstAttack 20 = .ok (.getfield 21, 3) := by decide +kernel
theorem dX3_firstAttack_23 : decode cX3_firstAttack 23 = .ok (.iload_n 1, 1) := by decide +kernel
theorem dX3_firstAttack_24 : decode cX3_firstAttack 24 = .ok (.iload_n 2, 1) := by decide +kernel
theorem dX3_firstAttack_25 : decode cX3_firstAttack 25 = .ok (.iload_n 3, 1) := by decide +kernel
theorem dX3_firstAttack_26 : decode cX3_firstAttack 26 = .ok (.invokevirtual 97, 3) := by decide +kernel
theorem dX3_firstAttack_29 : decode cX3_firstAttack 29 = .ok (.ireturn, 1) := by decide +kernel
theorem dX3_representative_0 : decode cX3_representative 0 = .ok (.aload_n 0, 1) := by decide +kernel
theorem dX3_representative_1 : decode cX3_representative 1 = .ok (.iload_n 1, 1) := by decide +kernel
theorem dX3_representative_2 : decode cX3_representative 2 = .ok (.iload_n 1, 1) := by decide +kernel
theorem dX3_representative_3 : decode cX3_representative 3 = .ok (.iload_n 2, 1) := by decide +kernel
theorem dX3_representative_4 : decode cX3_representative 4 = .ok (.invokevirtual 90, 3) := by decide +kernel
theorem dX3_representative_7 : decode cX3_representative 7 = .ok (.istore_n 3, 1) := by decide +kernel
theorem dX3_representative_8 : decode cX3_representative 8 = .ok (.iload_n 3, 1) := by decide +kernel
theorem dX3_representative_9 : decode cX3_representative 9 = .ok (.ifCond .ge 7, 3) := by decide +kernel
theorem dX3_representative_12 : decode cX3_representative 12 = .ok (.iload_n 3, 1) := by decide +kernel
theorem dX3_representative_13 : decode cX3_representative 13 = .ok (.goto 9, 3) := by decide +kernel
theorem dX3_representative_16 : decode cX3_representative 16 = .ok (.aload_n 0, 1) := by decide +kernel
theorem dX3_representative_17 : decode cX3_representative 17 = .ok (.iload_n 1, 1) := by decide +kernel
theorem dX3_representative_18 : decode cX3_representative 18 = .ok (.iload_n 2, 1) := by decide +kernel
theorem dX3_representative_19 : decode cX3_representative 19 = .ok (.invokevirtual 100, 3) := by decide +kernel
theorem dX3_representative_22 : decode cX3_representative 22 = .ok (.ireturn, 1) := by decide +kernel
theorem dX3_classCount_0 : decode cX3_classCount 0 = .ok (.iload_n 1, 1) := by decide +kernel
theorem dX3_classCount_1 : decode cX3_classCount 1 = .ok (.invokestatic 103, 3) := by decide +kernel
theorem dX3_classCount_4 : decode cX3_classCount 4 = .ok (.ifCond .ne 5, 3) := by decide +kernel
theorem dX3_classCount_7 : decode cX3_classCount 7 = .ok (.iconst (-1), 1) := by decide +kernel
theorem dX3_classCount_8 : decode cX3_classCount 8 = .ok (.ireturn, 1) := by decide +kernel
theorem dX3_classCount_9 : decode cX3_classCount 9 = .ok (.iconst 0, 1) := by decide +kernel
theorem dX3_classCount_10 : decode cX3_classCount 10 = .ok (.istore_n 2, 1) := by decide +kernel
theorem dX3_classCount_11 : decode cX3_classCount 11 = .ok (.iconst 0, 1) := by decide +kernel
theorem dX3_classCount_12 : decode cX3_classCount 12 = .ok (.istore_n 3, 1) := by decide +kernel
theorem dX3_classCount_13 : decode cX3_classCount 13 = .ok (.iload_n 3, 1) := by decide +kernel
theorem dX3_classCount_14 : decode cX3_classCount 14 = .ok (.aload_n 0, 1) := by decide +kernel
theorem dX3_classCount_15 : decode cX3_classCount 15 = .ok (.getfield 10, 3) := by decide +kernel
theorem dX3_classCount_18 : decode cX3_classCount 18 = .ok (.getfield 36, 3) := by decide +kernel
theorem dX3_classCount_21 : decode cX3_classCount 21 = .ok (.if_icmp .ge 33, 3) := by decide +kernel
theorem dX3_classCount_24 : decode cX3_classCount 24 = .ok (.aload_n 0, 1) := by decide +kernel
theorem dX3_classCount_25 : decode cX3_classCount 25 = .ok (.getfield 10, 3) := by decide +kernel
theorem dX3_classCount_28 : decode cX3_classCount 28 = .ok (.iload_n 3, 1) := by decide +kernel
theorem dX3_classCount_29 : decode cX3_classCount 29 = .ok (.invokevirtual 75, 3) := by decide +kernel
theorem dX3_classCount_32 : decode cX3_classCount 32 = .ok (.ifCond .eq 16, 3) := by decide +kernel
theorem dX3_classCount_35 : decode cX3_classCount 35 = .ok (.aload_n 0, 1) := by decide +kernel
theorem dX3_classCount_36 : decode cX3_classCount 36 = .ok (.iload_n 3, 1) := by decide +kernel
theorem dX3_classCount_37 : decode cX3_classCount 37 = .ok (.iload_n 1, 1) := by decide +kernel
theorem dX3_classCount_38 : decode cX3_classCount 38 = .ok (.invokevirtual 100, 3) := by decide +kernel
theorem dX3_classCount_41 : decode cX3_classCount 41 = .ok (.iload_n 3, 1) := by decide +kernel
theorem dX3_classCount_42 : decode cX3_classCount 42 = .ok (.if_icmp .ne 6, 3) := by decide +kernel
theorem dX3_classCount_45 : decode cX3_classCount 45 = .ok (.iinc 2 1, 3) := by decide +kernel
theorem dX3_classCount_48 : decode cX3_classCount 48 = .ok (.iinc 3 1, 3) := by decide +kernel
theorem dX3_classCount_51 : decode cX3_classCount 51 = .ok (.goto (-38), 3) := by decide +kernel
theorem dX3_classCount_54 : decode cX3_classCount 54 = .ok (.iload_n 2, 1) := by decide +kernel
theorem dX3_classCount_55 : decode cX3_classCount 55 = .ok (.ireturn, 1) := by decide +kernel
theorem dX3_lowestRelated_0 : decode cX3_lowestRelated 0 = .ok (.iconst 0, 1) := by decide +kernel
theorem dX3_lowestRelated_1 : decode cX3_lowestRelated 1 = .ok (.istore_n 3, 1) := by decide +kernel
theorem dX3_lowestRelated_2 : decode cX3_lowestRelated 2 = .ok (.iload_n 3, 1) := by decide +kernel
theorem dX3_lowestRelated_3 : decode cX3_lowestRelated 3 = .ok (.iload_n 1, 1) := by decide +kernel
theorem dX3_lowestRelated_4 : decode cX3_lowestRelated 4 = .ok (.if_icmp .ge 37, 3) := by decide +kernel
theorem dX3_lowestRelated_7 : decode cX3_lowestRelated 7 = .ok (.aload_n 0, 1) := by decide +kernel
theorem dX3_lowestRelated_8 : decode cX3_lowestRelated 8 = .ok (.getfield 10, 3) := by decide +kernel
theorem dX3_lowestRelated_11 : decode cX3_lowestRelated 11 = .ok (.iload_n 3, 1) := by decide +kernel
theorem dX3_lowestRelated_12 : decode cX3_lowestRelated 12 = .ok (.invokevirtual 75, 3) := by decide +kernel
theorem dX3_lowestRelated_15 : decode cX3_lowestRelated 15 = .ok (.ifCond .eq 20, 3) := by decide +kernel
theorem dX3_lowestRelated_18 : decode cX3_lowestRelated 18 = .ok (.aload_n 0, 1) := by decide +kernel
theorem dX3_lowestRelated_19 : decode cX3_lowestRelated 19 = .ok (.getfield 21, 3) := by decide +kernel
theorem dX3_lowestRelated_22 : decode cX3_lowestRelated 22 = .ok (.iload_n 1, 1) := by decide +kernel
theorem dX3_lowestRelated_23 : decode cX3_lowestRelated 23 = .ok (.iload_n 3, 1) := by decide +kernel
theorem dX3_lowestRelated_24 : decode cX3_lowestRelated 24 = .ok (.iload_n 2, 1) := by decide +kernel
theorem dX3_lowestRelated_25 : decode cX3_lowestRelated 25 = .ok (.invokevirtual 94, 3) := by decide +kernel
theorem dX3_lowestRelated_28 : decode cX3_lowestRelated 28 = .ok (.bipush (-4), 2) := by decide +kernel
theorem dX3_lowestRelated_30 : decode cX3_lowestRelated 30 = .ok (.if_icmp .ne 5, 3) := by decide +kernel
theorem dX3_lowestRelated_33 : decode cX3_lowestRelated 33 = .ok (.iload_n 3, 1) := by decide +kernel
theorem dX3_lowestRelated_34 : decode cX3_lowestRelated 34 = .ok (.ireturn, 1) := by decide +kernel
theorem dX3_lowestRelated_35 : decode cX3_lowestRelated 35 = .ok (.iinc 3 1, 3) := by decide +kernel
theorem dX3_lowestRelated_38 : decode cX3_lowestRelated 38 = .ok (.goto (-36), 3) := by decide +kernel
theorem dX3_lowestRelated_41 : decode cX3_lowestRelated 41 = .ok (.iload_n 1, 1) := by decide +kernel
theorem dX3_lowestRelated_42 : decode cX3_lowestRelated 42 = .ok (.ireturn, 1) := by decide +kernel
theorem dX3_errorOfPair_0 : decode cX3_errorOfPair 0 = .ok (.aload_n 0, 1) := by decide +kernel
theorem dX3_errorOfPair_1 : decode cX3_errorOfPair 1 = .ok (.getfield 10, 3) := by decide +kernel
theorem dX3_errorOfPair_4 : decode cX3_errorOfPair 4 = .ok (.iload_n 1, 1) := by decide +kernel
theorem dX3_errorOfPair_5 : decode cX3_errorOfPair 5 = .ok (.invokevirtual 25, 3) := by decide +kernel
theorem dX3_errorOfPair_8 : decode cX3_errorOfPair 8 = .ok (.ifCond .eq 21, 3) := by decide +kernel
theorem dX3_errorOfPair_11 : decode cX3_errorOfPair 11 = .ok (.aload_n 0, 1) := by decide +kernel
theorem dX3_errorOfPair_12 : decode cX3_errorOfPair 12 = .ok (.getfield 10, 3) := by decide +kernel
theorem dX3_errorOfPair_15 : decode cX3_errorOfPair 15 = .ok (.iload_n 2, 1) := by decide +kernel
theorem dX3_errorOfPair_16 : decode cX3_errorOfPair 16 = .ok (.invokevirtual 25, 3) := by decide +kernel
theorem dX3_errorOfPair_19 : decode cX3_errorOfPair 19 = .ok (.ifCond .eq 10, 3) := by decide +kernel
theorem dX3_errorOfPair_22 : decode cX3_errorOfPair 22 = .ok (.iload_n 3, 1) := by decide +kernel
theorem dX3_errorOfPair_23 : decode cX3_errorOfPair 23 = .ok (.invokestatic 103, 3) := by decide +kernel
theorem dX3_errorOfPair_26 : decode cX3_errorOfPair 26 = .ok (.ifCond .ne 5, 3) := by decide +kernel
theorem dX3_errorOfPair_29 : decode cX3_errorOfPair 29 = .ok (.iconst (-1), 1) := by decide +kernel
theorem dX3_errorOfPair_30 : decode cX3_errorOfPair 30 = .ok (.ireturn, 1) := by decide +kernel
theorem dX3_errorOfPair_31 : decode cX3_errorOfPair 31 = .ok (.aload_n 0, 1) := by decide +kernel
theorem dX3_errorOfPair_32 : decode cX3_errorOfPair 32 = .ok (.getfield 10, 3) := by decide +kernel
theorem dX3_errorOfPair_35 : decode cX3_errorOfPair 35 = .ok (.iload_n 1, 1) := by decide +kernel
theorem dX3_errorOfPair_36 : decode cX3_errorOfPair 36 = .ok (.invokevirtual 75, 3) := by decide +kernel
theorem dX3_errorOfPair_39 : decode cX3_errorOfPair 39 = .ok (.ifCond .eq 18, 3) := by decide +kernel
theorem dX3_errorOfPair_42 : decode cX3_errorOfPair 42 = .ok (.aload_n 0, 1) := by decide +kernel
theorem dX3_errorOfPair_43 : decode cX3_errorOfPair 43 = .ok (.getfield 10, 3) := by decide +kernel
theorem dX3_errorOfPair_46 : decode cX3_errorOfPair 46 = .ok (.iload_n 2, 1) := by decide +kernel
theorem dX3_errorOfPair_47 : decode cX3_errorOfPair 47 = .ok (.invokevirtual 75, 3) := by decide +kernel
theorem dX3_errorOfPair_50 : decode cX3_errorOfPair 50 = .ok (.ifCond .eq 7, 3) := by decide +kernel
theorem dX3_errorOfPair_53 : decode cX3_errorOfPair 53 = .ok (.iconst 0, 1) := by decide +kernel
theorem dX3_errorOfPair_54 : decode cX3_errorOfPair 54 = .ok (.goto 5, 3) := by decide +kernel
theorem dX3_errorOfPair_57 : decode cX3_errorOfPair 57 = .ok (.bipush (-2), 2) := by decide +kernel
theorem dX3_errorOfPair_59 : decode cX3_errorOfPair 59 = .ok (.ireturn, 1) := by decide +kernel
theorem dX3_isName_0 : decode cX3_isName 0 = .ok (.iload_n 0, 1) := by decide +kernel
theorem dX3_isName_1 : decode cX3_isName 1 = .ok (.ifCond .lt 13, 3) := by decide +kernel
theorem dX3_isName_4 : decode cX3_isName 4 = .ok (.iload_n 0, 1) := by decide +kernel
theorem dX3_isName_5 : decode cX3_isName 5 = .ok (.bipush 6, 2) := by decide +kernel
theorem dX3_isName_7 : decode cX3_isName 7 = .ok (.if_icmp .ge 7, 3) := by decide +kernel
theorem dX3_isName_10 : decode cX3_isName 10 = .ok (.iconst 1, 1) := by decide +kernel
theorem dX3_isName_11 : decode cX3_isName 11 = .ok (.goto 4, 3) := by decide +kernel
theorem dX3_isName_14 : decode cX3_isName 14 = .ok (.iconst 0, 1) := by decide +kernel
theorem dX3_isName_15 : decode cX3_isName 15 = .ok (.ireturn, 1) := by decide +kernel
theorem dX3_isRelation_0 : decode cX3_isRelation 0 = .ok (.iload_n 0, 1) := by decide +kernel
theorem dX3_isRelation_1 : decode cX3_isRelation 1 = .ok (.ifCond .lt 12, 3) := by decide +kernel
theorem dX3_isRelation_4 : decode cX3_isRelation 4 = .ok (.iload_n 0, 1) := by decide +kernel
theorem dX3_isRelation_5 : decode cX3_isRelation 5 = .ok (.iconst 3, 1) := by decide +kernel
theorem dX3_isRelation_6 : decode cX3_isRelation 6 = .ok (.if_icmp .ge 7, 3) := by decide +kernel
theorem dX3_isRelation_9 : decode cX3_isRelation 9 = .ok (.iconst 1, 1) := by decide +kernel
theorem dX3_isRelation_10 : decode cX3_isRelation 10 = .ok (.goto 4, 3) := by decide +kernel
theorem dX3_isRelation_13 : decode cX3_isRelation 13 = .ok (.iconst 0, 1) := by decide +kernel
theorem dX3_isRelation_14 : decode cX3_isRelation 14 = .ok (.ireturn, 1) := by decide +kernel
theorem dX3_at_0 : decode cX3_at 0 = .ok (.aload_n 0, 1) := by decide +kernel
theorem dX3_at_1 : decode cX3_at 1 = .ok (.ifnull 19, 3) := by decide +kernel
theorem dX3_at_4 : decode cX3_at 4 = .ok (.iload_n 1, 1) := by decide +kernel
theorem dX3_at_5 : decode cX3_at 5 = .ok (.ifCond .lt 15, 3) := by decide +kernel
theorem dX3_at_8 : decode cX3_at 8 = .ok (.iload_n 1, 1) := by decide +kernel
theorem dX3_at_9 : decode cX3_at 9 = .ok (.aload_n 0, 1) := by decide +kernel
theorem dX3_at_10 : decode cX3_at 10 = .ok (.arraylength, 1) := by decide +kernel
theorem dX3_at_11 : decode cX3_at 11 = .ok (.if_icmp .ge 9, 3) := by decide +kernel
theorem dX3_at_14 : decode cX3_at 14 = .ok (.aload_n 0, 1) := by decide +kernel
theorem dX3_at_15 : decode cX3_at 15 = .ok (.iload_n 1, 1) := by decide +kernel
theorem dX3_at_16 : decode cX3_at 16 = .ok (.iaload, 1) := by decide +kernel
theorem dX3_at_17 : decode cX3_at 17 = .ok (.goto 4, 3) := by decide +kernel
theorem dX3_at_20 : decode cX3_at 20 = .ok (.iconst 0, 1) := by decide +kernel
theorem dX3_at_21 : decode cX3_at 21 = .ok (.ireturn, 1) := by decide +kernel
theorem dX3_at__0 : decode cX3_at_ 0 = .ok (.aload_n 0, 1) := by decide +kernel
theorem dX3_at__1 : decode cX3_at_ 1 = .ok (.ifnull 19, 3) := by decide +kernel
theorem dX3_at__4 : decode cX3_at_ 4 = .ok (.iload_n 1, 1) := by decide +kernel
theorem dX3_at__5 : decode cX3_at_ 5 = .ok (.ifCond .lt 15, 3) := by decide +kernel
theorem dX3_at__8 : decode cX3_at_ 8 = .ok (.iload_n 1, 1) := by decide +kernel
theorem dX3_at__9 : decode cX3_at_ 9 = .ok (.aload_n 0, 1) := by decide +kernel
theorem dX3_at__10 : decode cX3_at_ 10 = .ok (.arraylength, 1) := by decide +kernel
theorem dX3_at__11 : decode cX3_at_ 11 = .ok (.if_icmp .ge 9, 3) := by decide +kernel
theorem dX3_at__14 : decode cX3_at_ 14 = .ok (.aload_n 0, 1) := by decide +kernel
theorem dX3_at__15 : decode cX3_at_ 15 = .ok (.iload_n 1, 1) := by decide +kernel
theorem dX3_at__16 : decode cX3_at_ 16 = .ok (.laload, 1) := by decide +kernel
theorem dX3_at__17 : decode cX3_at_ 17 = .ok (.goto 4, 3) := by decide +kernel
theorem dX3_at__20 : decode cX3_at_ 20 = .ok (.lconst 0, 1) := by decide +kernel
theorem dX3_at__21 : decode cX3_at_ 21 = .ok (.lreturn, 1) := by decide +kernel
theorem dX3_put_0 : decode cX3_put 0 = .ok (.aload_n 0, 1) := by decide +kernel
theorem dX3_put_1 : decode cX3_put 1 = .ok (.ifnull 17, 3) := by decide +kernel
theorem dX3_put_4 : decode cX3_put 4 = .ok (.iload_n 1, 1) := by decide +kernel
theorem dX3_put_5 : decode cX3_put 5 = .ok (.ifCond .lt 13, 3) := by decide +kernel
theorem dX3_put_8 : decode cX3_put 8 = .ok (.iload_n 1, 1) := by decide +kernel
theorem dX3_put_9 : decode cX3_put 9 = .ok (.aload_n 0, 1) := by decide +kernel
theorem dX3_put_10 : decode cX3_put 10 = .ok (.arraylength, 1) := by decide +kernel
theorem dX3_put_11 : decode cX3_put 11 = .ok (.if_icmp .ge 7, 3) := by decide +kernel
theorem dX3_put_14 : decode cX3_put 14 = .ok (.aload_n 0, 1) := by decide +kernel
theorem dX3_put_15 : decode cX3_put 15 = .ok (.iload_n 1, 1) := by decide +kernel
theorem dX3_put_16 : decode cX3_put 16 = .ok (.iload_n 2, 1) := by decide +kernel
theorem dX3_put_17 : decode cX3_put 17 = .ok (.iastore, 1) := by decide +kernel
theorem dX3_put_18 : decode cX3_put 18 = .ok (.return_, 1) := by decide +kernel
theorem dX3_put__0 : decode cX3_put_ 0 = .ok (.aload_n 0, 1) := by decide +kernel
theorem dX3_put__1 : decode cX3_put_ 1 = .ok (.ifnull 17, 3) := by decide +kernel
theorem dX3_put__4 : decode cX3_put_ 4 = .ok (.iload_n 1, 1) := by decide +kernel
theorem dX3_put__5 : decode cX3_put_ 5 = .ok (.ifCond .lt 13, 3) := by decide +kernel
theorem dX3_put__8 : decode cX3_put_ 8 = .ok (.iload_n 1, 1) := by decide +kernel
theorem dX3_put__9 : decode cX3_put_ 9 = .ok (.aload_n 0, 1) := by decide +kernel
theorem dX3_put__10 : decode cX3_put_ 10 = .ok (.arraylength, 1) := by decide +kernel
theorem dX3_put__11 : decode cX3_put_ 11 = .ok (.if_icmp .ge 7, 3) := by decide +kernel
theorem dX3_put__14 : decode cX3_put_ 14 = .ok (.aload_n 0, 1) := by decide +kernel
theorem dX3_put__15 : decode cX3_put_ 15 = .ok (.iload_n 1, 1) := by decide +kernel
theorem dX3_put__16 : decode cX3_put_ 16 = .ok (.lload_n 2, 1) := by decide +kernel
theorem dX3_put__17 : decode cX3_put_ 17 = .ok (.lastore, 1) := by decide +kernel
theorem dX3_put__18 : decode cX3_put_ 18 = .ok (.return_, 1) := by decide +kernel
theorem dJ9_max_7cf53_0 : decode cJ9_max_7cf53 0 = .ok (.iload_n 0, 1) := by decide +kernel
theorem dJ9_max_7cf53_1 : decode cJ9_max_7cf53 1 = .ok (.iload_n 1, 1) := by decide +kernel
theorem dJ9_max_7cf53_2 : decode cJ9_max_7cf53 2 = .ok (.if_icmp .lt 7, 3) := by decide +kernel
theorem dJ9_max_7cf53_5 : decode cJ9_max_7cf53 5 = .ok (.iload_n 0, 1) := by decide +kernel
theorem dJ9_max_7cf53_6 : decode cJ9_max_7cf53 6 = .ok (.goto 4, 3) := by decide +kernel
theorem dJ9_max_7cf53_9 : decode cJ9_max_7cf53 9 = .ok (.iload_n 1, 1) := by decide +kernel
theorem dJ9_max_7cf53_10 : decode cJ9_max_7cf53 10 = .ok (.ireturn, 1) := by decide +kernel
theorem dJ9_min_7cf53_0 : decode cJ9_min_7cf53 0 = .ok (.iload_n 0, 1) := by decide +kernel
theorem dJ9_min_7cf53_1 : decode cJ9_min_7cf53 1 = .ok (.iload_n 1, 1) := by decide +kernel
theorem dJ9_min_7cf53_2 : decode cJ9_min_7cf53 2 = .ok (.if_icmp .gt 7, 3) := by decide +kernel
theorem dJ9_min_7cf53_5 : decode cJ9_min_7cf53 5 = .ok (.iload_n 0, 1) := by decide +kernel
theorem dJ9_min_7cf53_6 : decode cJ9_min_7cf53 6 = .ok (.goto 4, 3) := by decide +kernel
theorem dJ9_min_7cf53_9 : decode cJ9_min_7cf53 9 = .ok (.iload_n 1, 1) := by decide +kernel
theorem dJ9_min_7cf53_10 : decode cJ9_min_7cf53 10 = .ok (.ireturn, 1) := by decide +kernel
theorem dJ0_length_8abf5_0 : decode cJ0_length_8abf5 0 = .ok (.aload_n 0, 1) := by decide +kernel
theorem dJ0_length_8abf5_1 : decode cJ0_length_8abf5 1 = .ok (.getfield 9, 3) := by decide +kernel
theorem dJ0_length_8abf5_4 : decode cJ0_length_8abf5 4 = .ok (.arraylength, 1) := by decide +kernel
theorem dJ0_length_8abf5_5 : decode cJ0_length_8abf5 5 = .ok (.aload_n 0, 1) := by decide +kernel
theorem dJ0_length_8abf5_6 : decode cJ0_length_8abf5 6 = .ok (.invokevirtual 335, 3) := by decide +kernel
theorem dJ0_length_8abf5_9 : decode cJ0_length_8abf5 9 = .ok (.ishr, 1) := by decide +kernel
theorem dJ0_length_8abf5_10 : decode cJ0_length_8abf5 10 = .ok (.ireturn, 1) := by decide +kernel
theorem dJ0_coder_7d493_0 : decode cJ0_coder_7d493 0 = .ok (.getstatic 38, 3) := by decide +kernel
theorem dJ0_coder_7d493_3 : decode cJ0_coder_7d493 3 = .ok (.ifCond .eq 10, 3) := by decide +kernel
theorem dJ0_coder_7d493_6 : decode cJ0_coder_7d493 6 = .ok (.aload_n 0, 1) := by decide +kernel
theorem dJ0_coder_7d493_7 : decode cJ0_coder_7d493 7 = .ok (.getfield 15, 3) := by decide +kernel
theorem dJ0_coder_7d493_10 : decode cJ0_coder_7d493 10 = .ok (.goto 4, 3) := by decide +kernel
theorem dJ0_coder_7d493_13 : decode cJ0_coder_7d493 13 = .ok (.iconst 1, 1) := by decide +kernel
theorem dJ0_coder_7d493_14 : decode cJ0_coder_7d493 14 = .ok (.ireturn, 1) := by decide +kernel
end
section
theorem dL_cell_0 : decode cL_cell 0 = .ok (.iload_n 1, 1) := by decide +kernel
theorem dL_cell_1 : decode cL_cell 1 = .ok (.aload_n 0, 1) := by decide +kernel
theorem dL_cell_2 : decode cL_cell 2 = .ok (.arraylength, 1) := by decide +kernel
theorem dL_cell_3 : decode cL_cell 3 = .ok (.if_icmp .ge 9, 3) := by decide +kernel
theorem dL_cell_6 : decode cL_cell 6 = .ok (.aload_n 0, 1) := by decide +kernel
theorem dL_cell_7 : decode cL_cell 7 = .ok (.iload_n 1, 1) := by decide +kernel
theorem dL_cell_8 : decode cL_cell 8 = .ok (.iaload, 1) := by decide +kernel
theorem dL_cell_9 : decode cL_cell 9 = .ok (.goto 10, 3) := by decide +kernel
theorem dL_cell_12 : decode cL_cell 12 = .ok (.ldc 7, 2) := by decide +kernel
theorem dL_cell_14 : decode cL_cell 14 = .ok (.iload_n 1, 1) := by decide +kernel
theorem dL_cell_15 : decode cL_cell 15 = .ok (.imul, 1) := by decide +kernel
theorem dL_cell_16 : decode cL_cell 16 = .ok (.bipush 109, 2) := by decide +kernel
theorem dL_cell_18 : decode cL_cell 18 = .ok (.iadd, 1) := by decide +kernel
theorem dL_cell_19 : decode cL_cell 19 = .ok (.ldc 8, 2) := by decide +kernel
theorem dL_cell_21 : decode cL_cell 21 = .ok (.iand, 1) := by decide +kernel
theorem dL_cell_22 : decode cL_cell 22 = .ok (.ireturn, 1) := by decide +kernel
theorem dL_process_0 : decode cL_process 0 = .ok (.iload_n 0, 1) := by decide +kernel
theorem dL_process_1 : decode cL_process 1 = .ok (.bipush 20, 2) := by decide +kernel
theorem dL_process_3 : decode cL_process 3 = .ok (.ishl, 1) := by decide +kernel
theorem dL_process_4 : decode cL_process 4 = .ok (.iload_n 1, 1) := by decide +kernel
theorem dL_process_5 : decode cL_process 5 = .ok (.bipush 15, 2) := by decide +kernel
theorem dL_process_7 : decode cL_process 7 = .ok (.ishl, 1) := by decide +kernel
theorem dL_process_8 : decode cL_process 8 = .ok (.ior, 1) := by decide +kernel
theorem dL_process_9 : decode cL_process 9 = .ok (.iload_n 2, 1) := by decide +kernel
theorem dL_process_10 : decode cL_process 10 = .ok (.bipush 10, 2) := by decide +kernel
theorem dL_process_12 : decode cL_process 12 = .ok (.ishl, 1) := by decide +kernel
theorem dL_process_13 : decode cL_process 13 = .ok (.ior, 1) := by decide +kernel
theorem dL_process_14 : decode cL_process 14 = .ok (.iload_n 3, 1) := by decide +kernel
theorem dL_process_15 : decode cL_process 15 = .ok (.iconst 5, 1) := by decide +kernel
theorem dL_process_16 : decode cL_process 16 = .ok (.ishl, 1) := by decide +kernel
theorem dL_process_17 : decode cL_process 17 = .ok (.ior, 1) := by decide +kernel
theorem dL_process_18 : decode cL_process 18 = .ok (.iload 4, 2) := by decide +kernel
theorem dL_process_20 : decode cL_process 20 = .ok (.ior, 1) := by decide +kernel
theorem dL_process_21 : decode cL_process 21 = .ok (.ireturn, 1) := by decide +kernel
theorem dL_most_0 : decode cL_most 0 = .ok (.iload_n 0, 1) := by decide +kernel
theorem dL_most_1 : decode cL_most 1 = .ok (.iload_n 1, 1) := by decide +kernel
theorem dL_most_2 : decode cL_most 2 = .ok (.if_icmp .le 7, 3) := by decide +kernel
theorem dL_most_5 : decode cL_most 5 = .ok (.iload_n 0, 1) := by decide +kernel
theorem dL_most_6 : decode cL_most 6 = .ok (.goto 4, 3) := by decide +kernel
theorem dL_most_9 : decode cL_most 9 = .ok (.iload_n 1, 1) := by decide +kernel
theorem dL_most_10 : decode cL_most 10 = .ok (.ireturn, 1) := by decide +kernel
theorem dL_named_0 : decode cL_named 0 = .ok (.iload_n 0, 1) := by decide +kernel
theorem dL_named_1 : decode cL_named 1 = .ok (.iconst 2, 1) := by decide +kernel
theorem dL_named_2 : decode cL_named 2 = .ok (.if_icmp .le 9, 3) := by decide +kernel
theorem dL_named_5 : decode cL_named 5 = .ok (.iload_n 0, 1) := by decide +kernel
theorem dL_named_6 : decode cL_named 6 = .ok (.iconst 2, 1) := by decide +kernel
theorem dL_named_7 : decode cL_named 7 = .ok (.isub, 1) := by decide +kernel
theorem dL_named_8 : decode cL_named 8 = .ok (.goto 4, 3) := by decide +kernel
theorem dL_named_11 : decode cL_named 11 = .ok (.iconst 0, 1) := by decide +kernel
theorem dL_named_12 : decode cL_named 12 = .ok (.ireturn, 1) := by decide +kernel
theorem dL_sizes_0 : decode cL_sizes 0 = .ok (.aload_n 0, 1) := by decide +kernel
theorem dL_sizes_1 : decode cL_sizes 1 = .ok (.iload 4, 2) := by decide +kernel
theorem dL_sizes_3 : decode cL_sizes 3 = .ok (.iaload, 1) := by decide +kernel
theorem dL_sizes_4 : decode cL_sizes 4 = .ok (.bipush 64, 2) := by decide +kernel
theorem dL_sizes_6 : decode cL_sizes 6 = .ok (.idiv, 1) := by decide +kernel
theorem dL_sizes_7 : decode cL_sizes 7 = .ok (.istore 6, 2) := by decide +kernel
theorem dL_sizes_9 : decode cL_sizes 9 = .ok (.aload_n 0, 1) := by decide +kernel
theorem dL_sizes_10 : decode cL_sizes 10 = .ok (.iload 4, 2) := by decide +kernel
theorem dL_sizes_12 : decode cL_sizes 12 = .ok (.iaload, 1) := by decide +kernel
theorem dL_sizes_13 : decode cL_sizes 13 = .ok (.bipush 8, 2) := by decide +kernel
theorem dL_sizes_15 : decode cL_sizes 15 = .ok (.idiv, 1) := by decide +kernel
theorem dL_sizes_16 : decode cL_sizes 16 = .ok (.bipush 8, 2) := by decide +kernel
theorem dL_sizes_18 : decode cL_sizes 18 = .ok (.irem, 1) := by decide +kernel
theorem dL_sizes_19 : decode cL_sizes 19 = .ok (.istore 7, 2) := by decide +kernel
theorem dL_sizes_21 : decode cL_sizes 21 = .ok (.aload_n 0, 1) := by decide +kernel
theorem dL_sizes_22 : decode cL_sizes 22 = .ok (.iload 4, 2) := by decide +kernel
theorem dL_sizes_24 : decode cL_sizes 24 = .ok (.iaload, 1) := by decide +kernel
theorem dL_sizes_25 : decode cL_sizes 25 = .ok (.bipush 8, 2) := by decide +kernel
theorem dL_sizes_27 : decode cL_sizes 27 = .ok (.irem, 1) := by decide +kernel
theorem dL_sizes_28 : decode cL_sizes 28 = .ok (.istore 8, 2) := by decide +kernel
theorem dL_sizes_30 : decode cL_sizes 30 = .ok (.iload_n 1, 1) := by decide +kernel
theorem dL_sizes_31 : decode cL_sizes 31 = .ok (.iconst 5, 1) := by decide +kernel
theorem dL_sizes_32 : decode cL_sizes 32 = .ok (.if_icmp .ne 49, 3) := by decide +kernel
theorem dL_sizes_35 : decode cL_sizes 35 = .ok (.bipush 64, 2) := by decide +kernel
theorem dL_sizes_37 : decode cL_sizes 37 = .ok (.iload 6, 2) := by decide +kernel
theorem dL_sizes_39 : decode cL_sizes 39 = .ok (.aload_n 0, 1) := by decide +kernel
theorem dL_sizes_40 : decode cL_sizes 40 = .ok (.iload 5, 2) := by decide +kernel
theorem dL_sizes_42 : decode cL_sizes 42 = .ok (.iaload, 1) := by decide +kernel
theorem dL_sizes_43 : decode cL_sizes 43 = .ok (.bipush 64, 2) := by decide +kernel
theorem dL_sizes_45 : decode cL_sizes 45 = .ok (.idiv, 1) := by decide +kernel
theorem dL_sizes_46 : decode cL_sizes 46 = .ok (.invokestatic 9, 3) := by decide +kernel
theorem dL_sizes_49 : decode cL_sizes 49 = .ok (.imul, 1) := by decide +kernel
theorem dL_sizes_50 : decode cL_sizes 50 = .ok (.bipush 8, 2) := by decide +kernel
theorem dL_sizes_52 : decode cL_sizes 52 = .ok (.iload 7, 2) := by decide +kernel
theorem dL_sizes_54 : decode cL_sizes 54 = .ok (.aload_n 0, 1) := by decide +kernel
theorem dL_sizes_55 : decode cL_sizes 55 = .ok (.iload 5, 2) := by decide +kernel
theorem dL_sizes_57 : decode cL_sizes 57 = .ok (.iaload, 1) := by decide +kernel
theorem dL_sizes_58 : decode cL_sizes 58 = .ok (.bipush 8, 2) := by decide +kernel
theorem dL_sizes_60 : decode cL_sizes 60 = .ok (.idiv, 1) := by decide +kernel
theorem dL_sizes_61 : decode cL_sizes 61 = .ok (.bipush 8, 2) := by decide +kernel
theorem dL_sizes_63 : decode cL_sizes 63 = .ok (.irem, 1) := by decide +kernel
theorem dL_sizes_64 : decode cL_sizes 64 = .ok (.iadd, 1) := by decide +kernel
theorem dL_sizes_65 : decode cL_sizes 65 = .ok (.imul, 1) := by decide +kernel
theorem dL_sizes_66 : decode cL_sizes 66 = .ok (.iadd, 1) := by decide +kernel
theorem dL_sizes_67 : decode cL_sizes 67 = .ok (.iload 8, 2) := by decide +kernel
theorem dL_sizes_69 : decode cL_sizes 69 = .ok (.aload_n 0, 1) := by decide +kernel
theorem dL_sizes_70 : decode cL_sizes 70 = .ok (.iload 5, 2) := by decide +kernel
theorem dL_sizes_72 : decode cL_sizes 72 = .ok (.iaload, 1) := by decide +kernel
theorem dL_sizes_73 : decode cL_sizes 73 = .ok (.bipush 8, 2) := by decide +kernel
theorem dL_sizes_75 : decode cL_sizes 75 = .ok (.irem, 1) := by decide +kernel
theorem dL_sizes_76 : decode cL_sizes 76 = .ok (.invokestatic 9, 3) := by decide +kernel
theorem dL_sizes_79 : decode cL_sizes 79 = .ok (.iadd, 1) := by decide +kernel
theorem dL_sizes_80 : decode cL_sizes 80 = .ok (.ireturn, 1) := by decide +kernel
theorem dL_sizes_81 : decode cL_sizes 81 = .ok (.iload_n 1, 1) := by decide +kernel
theorem dL_sizes_82 : decode cL_sizes 82 = .ok (.iconst 4, 1) := by decide +kernel
theorem dL_sizes_83 : decode cL_sizes 83 = .ok (.if_icmp .ne 32, 3) := by decide +kernel
theorem dL_sizes_86 : decode cL_sizes 86 = .ok (.bipush 64, 2) := by decide +kernel
theorem dL_sizes_88 : decode cL_sizes 88 = .ok (.iload 6, 2) := by decide +kernel
theorem dL_sizes_90 : decode cL_sizes 90 = .ok (.imul, 1) := by decide +kernel
theorem dL_sizes_91 : decode cL_sizes 91 = .ok (.bipush 8, 2) := by decide +kernel
theorem dL_sizes_93 : decode cL_sizes 93 = .ok (.iload 7, 2) := by decide +kernel
theorem dL_sizes_95 : decode cL_sizes 95 = .ok (.imul, 1) := by decide +kernel
theorem dL_sizes_96 : decode cL_sizes 96 = .ok (.iadd, 1) := by decide +kernel
theorem dL_sizes_97 : decode cL_sizes 97 = .ok (.iload 8, 2) := by decide +kernel
theorem dL_sizes_99 : decode cL_sizes 99 = .ok (.iload_n 2, 1) := by decide +kernel
theorem dL_sizes_100 : decode cL_sizes 100 = .ok (.invokestatic 15, 3) := by decide +kernel
theorem dL_sizes_103 : decode cL_sizes 103 = .ok (.iload_n 3, 1) := by decide +kernel
theorem dL_sizes_104 : decode cL_sizes 104 = .ok (.invokestatic 15, 3) := by decide +kernel
theorem dL_sizes_107 : decode cL_sizes 107 = .ok (.invokestatic 9, 3) := by decide +kernel
theorem dL_sizes_110 : decode cL_sizes 110 = .ok (.invokestatic 9, 3) := by decide +kernel
theorem dL_sizes_113 : decode cL_sizes 113 = .ok (.iadd, 1) := by decide +kernel
theorem dL_sizes_114 : decode cL_sizes 114 = .ok (.ireturn, 1) := by decide +kernel
theorem dL_sizes_115 : decode cL_sizes 115 = .ok (.iload_n 1, 1) := by decide +kernel
theorem dL_sizes_116 : decode cL_sizes 116 = .ok (.iconst 3, 1) := by decide +kernel
theorem dL_sizes_117 : decode cL_sizes 117 = .ok (.if_icmp .ne 15, 3) := by decide +kernel
theorem dL_sizes_120 : decode cL_sizes 120 = .ok (.iload 8, 2) := by decide +kernel
theorem dL_sizes_122 : decode cL_sizes 122 = .ok (.ifCond .le 10, 3) := by decide +kernel
theorem dL_sizes_125 : decode cL_sizes 125 = .ok (.iload 8, 2) := by decide +kernel
theorem dL_sizes_127 : decode cL_sizes 127 = .ok (.iconst 1, 1) := by decide +kernel
theorem dL_sizes_128 : decode cL_sizes 128 = .ok (.isub, 1) := by decide +kernel
theorem dL_sizes_129 : decode cL_sizes 129 = .ok (.goto 5, 3) := by decide +kernel
theorem dL_sizes_132 : decode cL_sizes 132 = .ok (.iload 8, 2) := by decide +kernel
theorem dL_sizes_134 : decode cL_sizes 134 = .ok (.istore 9, 2) := by decide +kernel
theorem dL_sizes_136 : decode cL_sizes 136 = .ok (.bipush 64, 2) := by decide +kernel
theorem dL_sizes_138 : decode cL_sizes 138 = .ok (.iload 6, 2) := by decide +kernel
theorem dL_sizes_140 : decode cL_sizes 140 = .ok (.iconst 1, 1) := by decide +kernel
theorem dL_sizes_141 : decode cL_sizes 141 = .ok (.iadd, 1) := by decide +kernel
theorem dL_sizes_142 : decode cL_sizes 142 = .ok (.imul, 1) := by decide +kernel
theorem dL_sizes_143 : decode cL_sizes 143 = .ok (.bipush 8, 2) := by decide +kernel
theorem dL_sizes_145 : decode cL_sizes 145 = .ok (.iadd, 1) := by decide +kernel
theorem dL_sizes_146 : decode cL_sizes 146 = .ok (.iload_n 1, 1) := by decide +kernel
theorem dL_sizes_147 : decode cL_sizes 147 = .ok (.iconst 1, 1) := by decide +kernel
theorem dL_sizes_148 : decode cL_sizes 148 = .ok (.if_icmp .ne 8, 3) := by decide +kernel
theorem dL_sizes_151 : decode cL_sizes 151 = .ok (.iload 9, 2) := by decide +kernel
theorem dL_sizes_153 : decode cL_sizes 153 = .ok (.goto 31, 3) := by decide +kernel
theorem dL_sizes_156 : decode cL_sizes 156 = .ok (.iload 9, 2) := by decide +kernel
theorem dL_sizes_158 : decode cL_sizes 158 = .ok (.iload_n 1, 1) := by decide +kernel
theorem dL_sizes_159 : decode cL_sizes 159 = .ok (.iconst 2, 1) := by decide +kernel
theorem dL_sizes_160 : decode cL_sizes 160 = .ok (.if_icmp .ne 17, 3) := by decide +kernel
theorem dL_sizes_163 : decode cL_sizes 163 = .ok (.iload_n 2, 1) := by decide +kernel
theorem dL_sizes_164 : decode cL_sizes 164 = .ok (.invokestatic 15, 3) := by decide +kernel
theorem dL_sizes_167 : decode cL_sizes 167 = .ok (.iload_n 3, 1) := by decide +kernel
theorem dL_sizes_168 : decode cL_sizes 168 = .ok (.invokestatic 15, 3) := by decide +kernel
theorem dL_sizes_171 : decode cL_sizes 171 = .ok (.invokestatic 9, 3) := by decide +kernel
theorem dL_sizes_174 : decode cL_sizes 174 = .ok (.goto 7, 3) := by decide +kernel
theorem dL_sizes_177 : decode cL_sizes 177 = .ok (.iload_n 2, 1) := by decide +kernel
theorem dL_sizes_178 : decode cL_sizes 178 = .ok (.invokestatic 15, 3) := by decide +kernel
theorem dL_sizes_181 : decode cL_sizes 181 = .ok (.invokestatic 9, 3) := by decide +kernel
theorem dL_sizes_184 : decode cL_sizes 184 = .ok (.iadd, 1) := by decide +kernel
theorem dL_sizes_185 : decode cL_sizes 185 = .ok (.ireturn, 1) := by decide +kernel
theorem dL_builds_0 : decode cL_builds 0 = .ok (.iload_n 1, 1) := by decide +kernel
theorem dL_builds_1 : decode cL_builds 1 = .ok (.tableswitch 64 1 4 #[31, 38, 47, 55], 31) := by decide +kernel
theorem dL_builds_32 : decode cL_builds 32 = .ok (.aload_n 0, 1) := by decide +kernel
theorem dL_builds_33 : decode cL_builds 33 = .ok (.iload 4, 2) := by decide +kernel
theorem dL_builds_35 : decode cL_builds 35 = .ok (.invokevirtual 19, 3) := by decide +kernel
theorem dL_builds_38 : decode cL_builds 38 = .ok (.ireturn, 1) := by decide +kernel
theorem dL_builds_39 : decode cL_builds 39 = .ok (.aload_n 0, 1) := by decide +kernel
theorem dL_builds_40 : decode cL_builds 40 = .ok (.iload_n 2, 1) := by decide +kernel
theorem dL_builds_41 : decode cL_builds 41 = .ok (.iload_n 3, 1) := by decide +kernel
theorem dL_builds_42 : decode cL_builds 42 = .ok (.iload 4, 2) := by decide +kernel
theorem dL_builds_44 : decode cL_builds 44 = .ok (.invokevirtual 24, 3) := by decide +kernel
theorem dL_builds_47 : decode cL_builds 47 = .ok (.ireturn, 1) := by decide +kernel
theorem dL_builds_48 : decode cL_builds 48 = .ok (.aload_n 0, 1) := by decide +kernel
theorem dL_builds_49 : decode cL_builds 49 = .ok (.iload_n 2, 1) := by decide +kernel
theorem dL_builds_50 : decode cL_builds 50 = .ok (.iload 4, 2) := by decide +kernel
theorem dL_builds_52 : decode cL_builds 52 = .ok (.invokevirtual 28, 3) := by decide +kernel
theorem dL_builds_55 : decode cL_builds 55 = .ok (.ireturn, 1) := by decide +kernel
theorem dL_builds_56 : decode cL_builds 56 = .ok (.aload_n 0, 1) := by decide +kernel
theorem dL_builds_57 : decode cL_builds 57 = .ok (.iload_n 2, 1) := by decide +kernel
theorem dL_builds_58 : decode cL_builds 58 = .ok (.iload_n 3, 1) := by decide +kernel
theorem dL_builds_59 : decode cL_builds 59 = .ok (.iload 4, 2) := by decide +kernel
theorem dL_builds_61 : decode cL_builds 61 = .ok (.invokevirtual 31, 3) := by decide +kernel
theorem dL_builds_64 : decode cL_builds 64 = .ok (.ireturn, 1) := by decide +kernel
theorem dL_builds_65 : decode cL_builds 65 = .ok (.aload_n 0, 1) := by decide +kernel
theorem dL_builds_66 : decode cL_builds 66 = .ok (.iload 4, 2) := by decide +kernel
theorem dL_builds_68 : decode cL_builds 68 = .ok (.iload 5, 2) := by decide +kernel
theorem dL_builds_70 : decode cL_builds 70 = .ok (.invokevirtual 34, 3) := by decide +kernel
theorem dL_builds_73 : decode cL_builds 73 = .ok (.ireturn, 1) := by decide +kernel
theorem dL_adds_0 : decode cL_adds 0 = .ok (.iconst 1, 1) := by decide +kernel
theorem dL_adds_1 : decode cL_adds 1 = .ok (.iload_n 1, 1) := by decide +kernel
theorem dL_adds_2 : decode cL_adds 2 = .ok (.iconst 5, 1) := by decide +kernel
theorem dL_adds_3 : decode cL_adds 3 = .ok (.irem, 1) := by decide +kernel
theorem dL_adds_4 : decode cL_adds 4 = .ok (.iadd, 1) := by decide +kernel
theorem dL_adds_5 : decode cL_adds 5 = .ok (.istore 5, 2) := by decide +kernel
theorem dL_adds_7 : decode cL_adds 7 = .ok (.iload_n 1, 1) := by decide +kernel
theorem dL_adds_8 : decode cL_adds 8 = .ok (.iconst 3, 1) := by decide +kernel
theorem dL_adds_9 : decode cL_adds 9 = .ok (.ishr, 1) := by decide +kernel
theorem dL_adds_10 : decode cL_adds 10 = .ok (.iconst 5, 1) := by decide +kernel
theorem dL_adds_11 : decode cL_adds 11 = .ok (.irem, 1) := by decide +kernel
theorem dL_adds_12 : decode cL_adds 12 = .ok (.istore 6, 2) := by decide +kernel
theorem dL_adds_14 : decode cL_adds 14 = .ok (.iload_n 1, 1) := by decide +kernel
theorem dL_adds_15 : decode cL_adds 15 = .ok (.bipush 6, 2) := by decide +kernel
theorem dL_adds_17 : decode cL_adds 17 = .ok (.ishr, 1) := by decide +kernel
theorem dL_adds_18 : decode cL_adds 18 = .ok (.iconst 5, 1) := by decide +kernel
theorem dL_adds_19 : decode cL_adds 19 = .ok (.irem, 1) := by decide +kernel
theorem dL_adds_20 : decode cL_adds 20 = .ok (.istore 7, 2) := by decide +kernel
theorem dL_adds_22 : decode cL_adds 22 = .ok (.iload_n 2, 1) := by decide +kernel
theorem dL_adds_23 : decode cL_adds 23 = .ok (.iconst 1, 1) := by decide +kernel
theorem dL_adds_24 : decode cL_adds 24 = .ok (.isub, 1) := by decide +kernel
theorem dL_adds_25 : decode cL_adds 25 = .ok (.iload_n 1, 1) := by decide +kernel
theorem dL_adds_26 : decode cL_adds 26 = .ok (.bipush 9, 2) := by decide +kernel
theorem dL_adds_28 : decode cL_adds 28 = .ok (.ishr, 1) := by decide +kernel
theorem dL_adds_29 : decode cL_adds 29 = .ok (.iload_n 2, 1) := by decide +kernel
theorem dL_adds_30 : decode cL_adds 30 = .ok (.iconst 4, 1) := by decide +kernel
theorem dL_adds_31 : decode cL_adds 31 = .ok (.if_icmp .ge 7, 3) := by decide +kernel
theorem dL_adds_34 : decode cL_adds 34 = .ok (.iload_n 2, 1) := by decide +kernel
theorem dL_adds_35 : decode cL_adds 35 = .ok (.goto 4, 3) := by decide +kernel
theorem dL_adds_38 : decode cL_adds 38 = .ok (.iconst 4, 1) := by decide +kernel
theorem dL_adds_39 : decode cL_adds 39 = .ok (.irem, 1) := by decide +kernel
theorem dL_adds_40 : decode cL_adds 40 = .ok (.isub, 1) := by decide +kernel
theorem dL_adds_41 : decode cL_adds 41 = .ok (.istore 8, 2) := by decide +kernel
theorem dL_adds_43 : decode cL_adds 43 = .ok (.iload_n 1, 1) := by decide +kernel
theorem dL_adds_44 : decode cL_adds 44 = .ok (.bipush 12, 2) := by decide +kernel
theorem dL_adds_46 : decode cL_adds 46 = .ok (.ishr, 1) := by decide +kernel
theorem dL_adds_47 : decode cL_adds 47 = .ok (.iload_n 2, 1) := by decide +kernel
theorem dL_adds_48 : decode cL_adds 48 = .ok (.irem, 1) := by decide +kernel
theorem dL_adds_49 : decode cL_adds 49 = .ok (.istore 9, 2) := by decide +kernel
theorem dL_adds_51 : decode cL_adds 51 = .ok (.iload 5, 2) := by decide +kernel
theorem dL_adds_53 : decode cL_adds 53 = .ok (.iconst 1, 1) := by decide +kernel
theorem dL_adds_54 : decode cL_adds 54 = .ok (.if_icmp .eq 9, 3) := by decide +kernel
theorem dL_adds_57 : decode cL_adds 57 = .ok (.iload 5, 2) := by decide +kernel
theorem dL_adds_59 : decode cL_adds 59 = .ok (.iconst 5, 1) := by decide +kernel
theorem dL_adds_60 : decode cL_adds 60 = .ok (.if_icmp .ne 6, 3) := by decide +kernel
theorem dL_adds_63 : decode cL_adds 63 = .ok (.iconst 0, 1) := by decide +kernel
theorem dL_adds_64 : decode cL_adds 64 = .ok (.istore 6, 2) := by decide +kernel
theorem dL_adds_66 : decode cL_adds 66 = .ok (.iload 5, 2) := by decide +kernel
theorem dL_adds_68 : decode cL_adds 68 = .ok (.iconst 1, 1) := by decide +kernel
theorem dL_adds_69 : decode cL_adds 69 = .ok (.if_icmp .eq 15, 3) := by decide +kernel
theorem dL_adds_72 : decode cL_adds 72 = .ok (.iload 5, 2) := by decide +kernel
theorem dL_adds_74 : decode cL_adds 74 = .ok (.iconst 3, 1) := by decide +kernel
theorem dL_adds_75 : decode cL_adds 75 = .ok (.if_icmp .eq 9, 3) := by decide +kernel
theorem dL_adds_78 : decode cL_adds 78 = .ok (.iload 5, 2) := by decide +kernel
theorem dL_adds_80 : decode cL_adds 80 = .ok (.iconst 5, 1) := by decide +kernel
theorem dL_adds_81 : decode cL_adds 81 = .ok (.if_icmp .ne 6, 3) := by decide +kernel
theorem dL_adds_84 : decode cL_adds 84 = .ok (.iconst 0, 1) := by decide +kernel
theorem dL_adds_85 : decode cL_adds 85 = .ok (.istore 7, 2) := by decide +kernel
theorem dL_adds_87 : decode cL_adds 87 = .ok (.aload 4, 2) := by decide +kernel
theorem dL_adds_89 : decode cL_adds 89 = .ok (.iload 5, 2) := by decide +kernel
theorem dL_adds_91 : decode cL_adds 91 = .ok (.iload 6, 2) := by decide +kernel
theorem dL_adds_93 : decode cL_adds 93 = .ok (.iload 7, 2) := by decide +kernel
theorem dL_adds_95 : decode cL_adds 95 = .ok (.iload 8, 2) := by decide +kernel
theorem dL_adds_97 : decode cL_adds 97 = .ok (.iload 9, 2) := by decide +kernel
theorem dL_adds_99 : decode cL_adds 99 = .ok (.invokestatic 37, 3) := by decide +kernel
theorem dL_adds_102 : decode cL_adds 102 = .ok (.istore 10, 2) := by decide +kernel
theorem dL_adds_104 : decode cL_adds 104 = .ok (.aload_n 0, 1) := by decide +kernel
theorem dL_adds_105 : decode cL_adds 105 = .ok (.iload 5, 2) := by decide +kernel
theorem dL_adds_107 : decode cL_adds 107 = .ok (.iload 6, 2) := by decide +kernel
theorem dL_adds_109 : decode cL_adds 109 = .ok (.iload 7, 2) := by decide +kernel
theorem dL_adds_111 : decode cL_adds 111 = .ok (.iload 8, 2) := by decide +kernel
theorem dL_adds_113 : decode cL_adds 113 = .ok (.iload 9, 2) := by decide +kernel
theorem dL_adds_115 : decode cL_adds 115 = .ok (.invokestatic 41, 3) := by decide +kernel
theorem dL_adds_118 : decode cL_adds 118 = .ok (.istore 11, 2) := by decide +kernel
theorem dL_adds_120 : decode cL_adds 120 = .ok (.iload_n 2, 1) := by decide +kernel
theorem dL_adds_121 : decode cL_adds 121 = .ok (.bipush 24, 2) := by decide +kernel
theorem dL_adds_123 : decode cL_adds 123 = .ok (.if_icmp .eq 24, 3) := by decide +kernel
theorem dL_adds_126 : decode cL_adds 126 = .ok (.iload 10, 2) := by decide +kernel
theorem dL_adds_128 : decode cL_adds 128 = .ok (.bipush 64, 2) := by decide +kernel
theorem dL_adds_130 : decode cL_adds 130 = .ok (.idiv, 1) := by decide +kernel
theorem dL_adds_131 : decode cL_adds 131 = .ok (.iconst 3, 1) := by decide +kernel
theorem dL_adds_132 : decode cL_adds 132 = .ok (.if_icmp .gt 15, 3) := by decide +kernel
theorem dL_adds_135 : decode cL_adds 135 = .ok (.iload 10, 2) := by decide +kernel
theorem dL_adds_137 : decode cL_adds 137 = .ok (.bipush 8, 2) := by decide +kernel
theorem dL_adds_139 : decode cL_adds 139 = .ok (.idiv, 1) := by decide +kernel
theorem dL_adds_140 : decode cL_adds 140 = .ok (.bipush 8, 2) := by decide +kernel
theorem dL_adds_142 : decode cL_adds 142 = .ok (.irem, 1) := by decide +kernel
theorem dL_adds_143 : decode cL_adds 143 = .ok (.iconst 3, 1) := by decide +kernel
theorem dL_adds_144 : decode cL_adds 144 = .ok (.if_icmp .le 16, 3) := by decide +kernel
theorem dL_adds_147 : decode cL_adds 147 = .ok (.iload 11, 2) := by decide +kernel
theorem dL_adds_149 : decode cL_adds 149 = .ok (.bipush (-3), 2) := by decide +kernel
theorem dL_adds_151 : decode cL_adds 151 = .ok (.if_icmp .ne 7, 3) := by decide +kernel
theorem dL_adds_154 : decode cL_adds 154 = .ok (.iload_n 2, 1) := by decide +kernel
theorem dL_adds_155 : decode cL_adds 155 = .ok (.goto 4, 3) := by decide +kernel
theorem dL_adds_158 : decode cL_adds 158 = .ok (.iconst (-1), 1) := by decide +kernel
theorem dL_adds_159 : decode cL_adds 159 = .ok (.ireturn, 1) := by decide +kernel
theorem dL_adds_160 : decode cL_adds 160 = .ok (.aload_n 3, 1) := by decide +kernel
theorem dL_adds_161 : decode cL_adds 161 = .ok (.iload_n 2, 1) := by decide +kernel
theorem dL_adds_162 : decode cL_adds 162 = .ok (.iload 5, 2) := by decide +kernel
theorem dL_adds_164 : decode cL_adds 164 = .ok (.iload 6, 2) := by decide +kernel
theorem dL_adds_166 : decode cL_adds 166 = .ok (.iload 7, 2) := by decide +kernel
theorem dL_adds_168 : decode cL_adds 168 = .ok (.iload 8, 2) := by decide +kernel
theorem dL_adds_170 : decode cL_adds 170 = .ok (.iload 5, 2) := by decide +kernel
theorem dL_adds_172 : decode cL_adds 172 = .ok (.iconst 5, 1) := by decide +kernel
theorem dL_adds_173 : decode cL_adds 173 = .ok (.if_icmp .ne 8, 3) := by decide +kernel
theorem dL_adds_176 : decode cL_adds 176 = .ok (.iload 9, 2) := by decide +kernel
theorem dL_adds_178 : decode cL_adds 178 = .ok (.goto 4, 3) := by decide +kernel
theorem dL_adds_181 : decode cL_adds 181 = .ok (.iconst 0, 1) := by decide +kernel
theorem dL_adds_182 : decode cL_adds 182 = .ok (.invokestatic 45, 3) := by decide +kernel
theorem dL_adds_185 : decode cL_adds 185 = .ok (.iastore, 1) := by decide +kernel
theorem dL_adds_186 : decode cL_adds 186 = .ok (.aload 4, 2) := by decide +kernel
theorem dL_adds_188 : decode cL_adds 188 = .ok (.iload_n 2, 1) := by decide +kernel
theorem dL_adds_189 : decode cL_adds 189 = .ok (.iload 10, 2) := by decide +kernel
theorem dL_adds_191 : decode cL_adds 191 = .ok (.iastore, 1) := by decide +kernel
theorem dL_adds_192 : decode cL_adds 192 = .ok (.iload 11, 2) := by decide +kernel
theorem dL_adds_194 : decode cL_adds 194 = .ok (.iload_n 2, 1) := by decide +kernel
theorem dL_adds_195 : decode cL_adds 195 = .ok (.if_icmp .ne 19, 3) := by decide +kernel
theorem dL_adds_198 : decode cL_adds 198 = .ok (.aload_n 0, 1) := by decide +kernel
theorem dL_adds_199 : decode cL_adds 199 = .ok (.invokevirtual 49, 3) := by decide +kernel
theorem dL_adds_202 : decode cL_adds 202 = .ok (.iload_n 2, 1) := by decide +kernel
theorem dL_adds_203 : decode cL_adds 203 = .ok (.iconst 1, 1) := by decide +kernel
theorem dL_adds_204 : decode cL_adds 204 = .ok (.iadd, 1) := by decide +kernel
theorem dL_adds_205 : decode cL_adds 205 = .ok (.if_icmp .ne 9, 3) := by decide +kernel
theorem dL_adds_208 : decode cL_adds 208 = .ok (.iload_n 2, 1) := by decide +kernel
theorem dL_adds_209 : decode cL_adds 209 = .ok (.iconst 1, 1) := by decide +kernel
theorem dL_adds_210 : decode cL_adds 210 = .ok (.iadd, 1) := by decide +kernel
theorem dL_adds_211 : decode cL_adds 211 = .ok (.goto 4, 3) := by decide +kernel
theorem dL_adds_214 : decode cL_adds 214 = .ok (.iconst (-1), 1) := by decide +kernel
theorem dL_adds_215 : decode cL_adds 215 = .ok (.ireturn, 1) := by decide +kernel
theorem dL_related_0 : decode cL_related 0 = .ok (.aload_n 0, 1) := by decide +kernel
theorem dL_related_1 : decode cL_related 1 = .ok (.iload_n 1, 1) := by decide +kernel
theorem dL_related_2 : decode cL_related 2 = .ok (.iload_n 2, 1) := by decide +kernel
theorem dL_related_3 : decode cL_related 3 = .ok (.iconst 0, 1) := by decide +kernel
theorem dL_related_4 : decode cL_related 4 = .ok (.invokevirtual 53, 3) := by decide +kernel
theorem dL_related_7 : decode cL_related 7 = .ok (.iconst 1, 1) := by decide +kernel
theorem dL_related_8 : decode cL_related 8 = .ok (.if_icmp .ne 41, 3) := by decide +kernel
theorem dL_related_11 : decode cL_related 11 = .ok (.aload_n 0, 1) := by decide +kernel
theorem dL_related_12 : decode cL_related 12 = .ok (.iload_n 1, 1) := by decide +kernel
theorem dL_related_13 : decode cL_related 13 = .ok (.iload_n 2, 1) := by decide +kernel
theorem dL_related_14 : decode cL_related 14 = .ok (.iconst 1, 1) := by decide +kernel
theorem dL_related_15 : decode cL_related 15 = .ok (.invokevirtual 53, 3) := by decide +kernel
theorem dL_related_18 : decode cL_related 18 = .ok (.iconst 1, 1) := by decide +kernel
theorem dL_related_19 : decode cL_related 19 = .ok (.if_icmp .ne 30, 3) := by decide +kernel
theorem dL_related_22 : decode cL_related 22 = .ok (.aload_n 0, 1) := by decide +kernel
theorem dL_related_23 : decode cL_related 23 = .ok (.iload_n 1, 1) := by decide +kernel
theorem dL_related_24 : decode cL_related 24 = .ok (.iload_n 2, 1) := by decide +kernel
theorem dL_related_25 : decode cL_related 25 = .ok (.iconst 2, 1) := by decide +kernel
theorem dL_related_26 : decode cL_related 26 = .ok (.invokevirtual 53, 3) := by decide +kernel
theorem dL_related_29 : decode cL_related 29 = .ok (.iconst 1, 1) := by decide +kernel
theorem dL_related_30 : decode cL_related 30 = .ok (.if_icmp .ne 19, 3) := by decide +kernel
theorem dL_related_33 : decode cL_related 33 = .ok (.aload_n 0, 1) := by decide +kernel
theorem dL_related_34 : decode cL_related 34 = .ok (.iload_n 1, 1) := by decide +kernel
theorem dL_related_35 : decode cL_related 35 = .ok (.iload_n 2, 1) := by decide +kernel
theorem dL_related_36 : decode cL_related 36 = .ok (.iconst 2, 1) := by decide +kernel
theorem dL_related_37 : decode cL_related 37 = .ok (.invokevirtual 56, 3) := by decide +kernel
theorem dL_related_40 : decode cL_related 40 = .ok (.bipush (-4), 2) := by decide +kernel
theorem dL_related_42 : decode cL_related 42 = .ok (.if_icmp .ne 7, 3) := by decide +kernel
theorem dL_related_45 : decode cL_related 45 = .ok (.iconst 1, 1) := by decide +kernel
theorem dL_related_46 : decode cL_related 46 = .ok (.goto 4, 3) := by decide +kernel
theorem dL_related_49 : decode cL_related 49 = .ok (.iconst 0, 1) := by decide +kernel
theorem dL_related_50 : decode cL_related 50 = .ok (.ireturn, 1) := by decide +kernel
theorem dL_law_0 : decode cL_law 0 = .ok (.new 20, 3) := by decide +kernel
theorem dL_law_3 : decode cL_law 3 = .ok (.dup, 1) := by decide +kernel
theorem dL_law_4 : decode cL_law 4 = .ok (.invokespecial 59, 3) := by decide +kernel
theorem dL_law_7 : decode cL_law 7 = .ok (.astore_n 1, 1) := by decide +kernel
theorem dL_law_8 : decode cL_law 8 = .ok (.bipush 24, 2) := by decide +kernel
theorem dL_law_10 : decode cL_law 10 = .ok (.newarray .int, 2) := by decide +kernel
theorem dL_law_12 : decode cL_law 12 = .ok (.astore_n 2, 1) := by decide +kernel
theorem dL_law_13 : decode cL_law 13 = .ok (.bipush 24, 2) := by decide +kernel
theorem dL_law_15 : decode cL_law 15 = .ok (.newarray .int, 2) := by decide +kernel
theorem dL_law_17 : decode cL_law 17 = .ok (.astore_n 3, 1) := by decide +kernel
theorem dL_law_18 : decode cL_law 18 = .ok (.iconst 1, 1) := by decide +kernel
theorem dL_law_19 : decode cL_law 19 = .ok (.istore 4, 2) := by decide +kernel
theorem dL_law_21 : decode cL_law 21 = .ok (.iconst 1, 1) := by decide +kernel
theorem dL_law_22 : decode cL_law 22 = .ok (.istore 5, 2) := by decide +kernel
theorem dL_law_24 : decode cL_law 24 = .ok (.iconst 0, 1) := by decide +kernel
theorem dL_law_25 : decode cL_law 25 = .ok (.istore 6, 2) := by decide +kernel
theorem dL_law_27 : decode cL_law 27 = .ok (.iload 6, 2) := by decide +kernel
theorem dL_law_29 : decode cL_law 29 = .ok (.bipush 12, 2) := by decide +kernel
theorem dL_law_31 : decode cL_law 31 = .ok (.if_icmp .ge 42, 3) := by decide +kernel
theorem dL_law_34 : decode cL_law 34 = .ok (.iload 5, 2) := by decide +kernel
theorem dL_law_36 : decode cL_law 36 = .ok (.ifCond .eq 37, 3) := by decide +kernel
theorem dL_law_39 : decode cL_law 39 = .ok (.aload_n 1, 1) := by decide +kernel
theorem dL_law_40 : decode cL_law 40 = .ok (.aload_n 0, 1) := by decide +kernel
theorem dL_law_41 : decode cL_law 41 = .ok (.iload 6, 2) := by decide +kernel
theorem dL_law_43 : decode cL_law 43 = .ok (.invokestatic 60, 3) := by decide +kernel
theorem dL_law_46 : decode cL_law 46 = .ok (.iload 4, 2) := by decide +kernel
theorem dL_law_48 : decode cL_law 48 = .ok (.aload_n 2, 1) := by decide +kernel
theorem dL_law_49 : decode cL_law 49 = .ok (.aload_n 3, 1) := by decide +kernel
theorem dL_law_50 : decode cL_law 50 = .ok (.invokestatic 64, 3) := by decide +kernel
theorem dL_law_53 : decode cL_law 53 = .ok (.istore 4, 2) := by decide +kernel
theorem dL_law_55 : decode cL_law 55 = .ok (.iload 4, 2) := by decide +kernel
theorem dL_law_57 : decode cL_law 57 = .ok (.ifCond .le 7, 3) := by decide +kernel
theorem dL_law_60 : decode cL_law 60 = .ok (.iconst 1, 1) := by decide +kernel
theorem dL_law_61 : decode cL_law 61 = .ok (.goto 4, 3) := by decide +kernel
theorem dL_law_64 : decode cL_law 64 = .ok (.iconst 0, 1) := by decide +kernel
theorem dL_law_65 : decode cL_law 65 = .ok (.istore 5, 2) := by decide +kernel
theorem dL_law_67 : decode cL_law 67 = .ok (.iinc 6 1, 3) := by decide +kernel
theorem dL_law_70 : decode cL_law 70 = .ok (.goto (-43), 3) := by decide +kernel
theorem dL_law_73 : decode cL_law 73 = .ok (.iload 5, 2) := by decide +kernel
theorem dL_law_75 : decode cL_law 75 = .ok (.ifCond .eq 15, 3) := by decide +kernel
theorem dL_law_78 : decode cL_law 78 = .ok (.aload_n 0, 1) := by decide +kernel
theorem dL_law_79 : decode cL_law 79 = .ok (.bipush 12, 2) := by decide +kernel
theorem dL_law_81 : decode cL_law 81 = .ok (.invokestatic 60, 3) := by decide +kernel
theorem dL_law_84 : decode cL_law 84 = .ok (.iload 4, 2) := by decide +kernel
theorem dL_law_86 : decode cL_law 86 = .ok (.irem, 1) := by decide +kernel
theorem dL_law_87 : decode cL_law 87 = .ok (.goto 4, 3) := by decide +kernel
theorem dL_law_90 : decode cL_law 90 = .ok (.iconst 0, 1) := by decide +kernel
theorem dL_law_91 : decode cL_law 91 = .ok (.istore 6, 2) := by decide +kernel
theorem dL_law_93 : decode cL_law 93 = .ok (.iload 5, 2) := by decide +kernel
theorem dL_law_95 : decode cL_law 95 = .ok (.ifCond .eq 18, 3) := by decide +kernel
theorem dL_law_98 : decode cL_law 98 = .ok (.aload_n 0, 1) := by decide +kernel
theorem dL_law_99 : decode cL_law 99 = .ok (.bipush 12, 2) := by decide +kernel
theorem dL_law_101 : decode cL_law 101 = .ok (.invokestatic 60, 3) := by decide +kernel
theorem dL_law_104 : decode cL_law 104 = .ok (.bipush 6, 2) := by decide +kernel
theorem dL_law_106 : decode cL_law 106 = .ok (.ishr, 1) := by decide +kernel
theorem dL_law_107 : decode cL_law 107 = .ok (.iload 4, 2) := by decide +kernel
theorem dL_law_109 : decode cL_law 109 = .ok (.irem, 1) := by decide +kernel
theorem dL_law_110 : decode cL_law 110 = .ok (.goto 4, 3) := by decide +kernel
theorem dL_law_113 : decode cL_law 113 = .ok (.iconst 0, 1) := by decide +kernel
theorem dL_law_114 : decode cL_law 114 = .ok (.istore 7, 2) := by decide +kernel
theorem dL_law_116 : decode cL_law 116 = .ok (.aload_n 0, 1) := by decide +kernel
theorem dL_law_117 : decode cL_law 117 = .ok (.bipush 12, 2) := by decide +kernel
theorem dL_law_119 : decode cL_law 119 = .ok (.invokestatic 60, 3) := by decide +kernel
theorem dL_law_122 : decode cL_law 122 = .ok (.bipush 12, 2) := by decide +kernel
theorem dL_law_124 : decode cL_law 124 = .ok (.ishr, 1) := by decide +kernel
theorem dL_law_125 : decode cL_law 125 = .ok (.iconst 3, 1) := by decide +kernel
theorem dL_law_126 : decode cL_law 126 = .ok (.irem, 1) := by decide +kernel
theorem dL_law_127 : decode cL_law 127 = .ok (.istore 8, 2) := by decide +kernel
theorem dL_law_129 : decode cL_law 129 = .ok (.iload 8, 2) := by decide +kernel
theorem dL_law_131 : decode cL_law 131 = .ok (.iconst 1, 1) := by decide +kernel
theorem dL_law_132 : decode cL_law 132 = .ok (.iadd, 1) := by decide +kernel
theorem dL_law_133 : decode cL_law 133 = .ok (.aload_n 0, 1) := by decide +kernel
theorem dL_law_134 : decode cL_law 134 = .ok (.bipush 12, 2) := by decide +kernel
theorem dL_law_136 : decode cL_law 136 = .ok (.invokestatic 60, 3) := by decide +kernel
theorem dL_law_139 : decode cL_law 139 = .ok (.bipush 14, 2) := by decide +kernel
theorem dL_law_141 : decode cL_law 141 = .ok (.ishr, 1) := by decide +kernel
theorem dL_law_142 : decode cL_law 142 = .ok (.iconst 2, 1) := by decide +kernel
theorem dL_law_143 : decode cL_law 143 = .ok (.irem, 1) := by decide +kernel
theorem dL_law_144 : decode cL_law 144 = .ok (.iadd, 1) := by decide +kernel
theorem dL_law_145 : decode cL_law 145 = .ok (.iconst 3, 1) := by decide +kernel
theorem dL_law_146 : decode cL_law 146 = .ok (.irem, 1) := by decide +kernel
theorem dL_law_147 : decode cL_law 147 = .ok (.istore 9, 2) := by decide +kernel
theorem dL_law_149 : decode cL_law 149 = .ok (.iload 5, 2) := by decide +kernel
theorem dL_law_151 : decode cL_law 151 = .ok (.ifCond .eq 531, 3) := by decide +kernel
theorem dL_law_154 : decode cL_law 154 = .ok (.aload_n 3, 1) := by decide +kernel
theorem dL_law_155 : decode cL_law 155 = .ok (.iload 6, 2) := by decide +kernel
theorem dL_law_157 : decode cL_law 157 = .ok (.iaload, 1) := by decide +kernel
theorem dL_law_158 : decode cL_law 158 = .ok (.bipush 8, 2) := by decide +kernel
theorem dL_law_160 : decode cL_law 160 = .ok (.irem, 1) := by decide +kernel
theorem dL_law_161 : decode cL_law 161 = .ok (.ifCond .ne 521, 3) := by decide +kernel
theorem dL_law_164 : decode cL_law 164 = .ok (.aload_n 3, 1) := by decide +kernel
theorem dL_law_165 : decode cL_law 165 = .ok (.iload 7, 2) := by decide +kernel
theorem dL_law_167 : decode cL_law 167 = .ok (.iaload, 1) := by decide +kernel
theorem dL_law_168 : decode cL_law 168 = .ok (.bipush 8, 2) := by decide +kernel
theorem dL_law_170 : decode cL_law 170 = .ok (.irem, 1) := by decide +kernel
theorem dL_law_171 : decode cL_law 171 = .ok (.ifCond .ne 511, 3) := by decide +kernel
theorem dL_law_174 : decode cL_law 174 = .ok (.aload_n 0, 1) := by decide +kernel
theorem dL_law_175 : decode cL_law 175 = .ok (.bipush 13, 2) := by decide +kernel
theorem dL_law_177 : decode cL_law 177 = .ok (.invokestatic 60, 3) := by decide +kernel
theorem dL_law_180 : decode cL_law 180 = .ok (.iconst 3, 1) := by decide +kernel
theorem dL_law_181 : decode cL_law 181 = .ok (.irem, 1) := by decide +kernel
theorem dL_law_182 : decode cL_law 182 = .ok (.istore 10, 2) := by decide +kernel
theorem dL_law_184 : decode cL_law 184 = .ok (.aload_n 1, 1) := by decide +kernel
theorem dL_law_185 : decode cL_law 185 = .ok (.iload 8, 2) := by decide +kernel
theorem dL_law_187 : decode cL_law 187 = .ok (.iload 8, 2) := by decide +kernel
theorem dL_law_189 : decode cL_law 189 = .ok (.iload 6, 2) := by decide +kernel
theorem dL_law_191 : decode cL_law 191 = .ok (.invokevirtual 31, 3) := by decide +kernel
theorem dL_law_194 : decode cL_law 194 = .ok (.istore 11, 2) := by decide +kernel
theorem dL_law_196 : decode cL_law 196 = .ok (.aload_n 1, 1) := by decide +kernel
theorem dL_law_197 : decode cL_law 197 = .ok (.iload 8, 2) := by decide +kernel
theorem dL_law_199 : decode cL_law 199 = .ok (.iload 9, 2) := by decide +kernel
theorem dL_law_201 : decode cL_law 201 = .ok (.iload 6, 2) := by decide +kernel
theorem dL_law_203 : decode cL_law 203 = .ok (.invokevirtual 31, 3) := by decide +kernel
theorem dL_law_206 : decode cL_law 206 = .ok (.istore 12, 2) := by decide +kernel
theorem dL_law_208 : decode cL_law 208 = .ok (.aload_n 1, 1) := by decide +kernel
theorem dL_law_209 : decode cL_law 209 = .ok (.iload 6, 2) := by decide +kernel
theorem dL_law_211 : decode cL_law 211 = .ok (.iload 11, 2) := by decide +kernel
theorem dL_law_213 : decode cL_law 213 = .ok (.invokestatic 68, 3) := by decide +kernel
theorem dL_law_216 : decode cL_law 216 = .ok (.ifCond .eq 34, 3) := by decide +kernel
theorem dL_law_219 : decode cL_law 219 = .ok (.aload_n 1, 1) := by decide +kernel
theorem dL_law_220 : decode cL_law 220 = .ok (.iconst 0, 1) := by decide +kernel
theorem dL_law_221 : decode cL_law 221 = .ok (.iload 12, 2) := by decide +kernel
theorem dL_law_223 : decode cL_law 223 = .ok (.invokestatic 68, 3) := by decide +kernel
theorem dL_law_226 : decode cL_law 226 = .ok (.ifCond .eq 24, 3) := by decide +kernel
theorem dL_law_229 : decode cL_law 229 = .ok (.aload_n 1, 1) := by decide +kernel
theorem dL_law_230 : decode cL_law 230 = .ok (.iload 11, 2) := by decide +kernel
theorem dL_law_232 : decode cL_law 232 = .ok (.invokevirtual 72, 3) := by decide +kernel
theorem dL_law_235 : decode cL_law 235 = .ok (.aload_n 1, 1) := by decide +kernel
theorem dL_law_236 : decode cL_law 236 = .ok (.iload 6, 2) := by decide +kernel
theorem dL_law_238 : decode cL_law 238 = .ok (.invokevirtual 72, 3) := by decide +kernel
theorem dL_law_241 : decode cL_law 241 = .ok (.iconst 5, 1) := by decide +kernel
theorem dL_law_242 : decode cL_law 242 = .ok (.iadd, 1) := by decide +kernel
theorem dL_law_243 : decode cL_law 243 = .ok (.if_icmp .ne 7, 3) := by decide +kernel
theorem dL_law_246 : decode cL_law 246 = .ok (.iconst 1, 1) := by decide +kernel
theorem dL_law_247 : decode cL_law 247 = .ok (.goto 4, 3) := by decide +kernel
theorem dL_law_250 : decode cL_law 250 = .ok (.iconst 0, 1) := by decide +kernel
theorem dL_law_251 : decode cL_law 251 = .ok (.istore 5, 2) := by decide +kernel
theorem dL_law_253 : decode cL_law 253 = .ok (.aload_n 1, 1) := by decide +kernel
theorem dL_law_254 : decode cL_law 254 = .ok (.iload 6, 2) := by decide +kernel
theorem dL_law_256 : decode cL_law 256 = .ok (.iconst 0, 1) := by decide +kernel
theorem dL_law_257 : decode cL_law 257 = .ok (.invokevirtual 34, 3) := by decide +kernel
theorem dL_law_260 : decode cL_law 260 = .ok (.istore 13, 2) := by decide +kernel
theorem dL_law_262 : decode cL_law 262 = .ok (.iload 5, 2) := by decide +kernel
theorem dL_law_264 : decode cL_law 264 = .ok (.ifCond .eq 33, 3) := by decide +kernel
theorem dL_law_267 : decode cL_law 267 = .ok (.aload_n 1, 1) := by decide +kernel
theorem dL_law_268 : decode cL_law 268 = .ok (.iload 6, 2) := by decide +kernel
theorem dL_law_270 : decode cL_law 270 = .ok (.iload 13, 2) := by decide +kernel
theorem dL_law_272 : decode cL_law 272 = .ok (.invokestatic 68, 3) := by decide +kernel
theorem dL_law_275 : decode cL_law 275 = .ok (.ifCond .eq 22, 3) := by decide +kernel
theorem dL_law_278 : decode cL_law 278 = .ok (.aload_n 1, 1) := by decide +kernel
theorem dL_law_279 : decode cL_law 279 = .ok (.iload 13, 2) := by decide +kernel
theorem dL_law_281 : decode cL_law 281 = .ok (.invokevirtual 75, 3) := by decide +kernel
theorem dL_law_284 : decode cL_law 284 = .ok (.aload_n 1, 1) := by decide +kernel
theorem dL_law_285 : decode cL_law 285 = .ok (.iload 6, 2) := by decide +kernel
theorem dL_law_287 : decode cL_law 287 = .ok (.invokevirtual 75, 3) := by decide +kernel
theorem dL_law_290 : decode cL_law 290 = .ok (.if_icmp .ne 7, 3) := by decide +kernel
theorem dL_law_293 : decode cL_law 293 = .ok (.iconst 1, 1) := by decide +kernel
theorem dL_law_294 : decode cL_law 294 = .ok (.goto 4, 3) := by decide +kernel
theorem dL_law_297 : decode cL_law 297 = .ok (.iconst 0, 1) := by decide +kernel
theorem dL_law_298 : decode cL_law 298 = .ok (.istore 5, 2) := by decide +kernel
theorem dL_law_300 : decode cL_law 300 = .ok (.aload_n 1, 1) := by decide +kernel
theorem dL_law_301 : decode cL_law 301 = .ok (.iload 6, 2) := by decide +kernel
theorem dL_law_303 : decode cL_law 303 = .ok (.iload 7, 2) := by decide +kernel
theorem dL_law_305 : decode cL_law 305 = .ok (.invokevirtual 34, 3) := by decide +kernel
theorem dL_law_308 : decode cL_law 308 = .ok (.istore 14, 2) := by decide +kernel
theorem dL_law_310 : decode cL_law 310 = .ok (.iload 14, 2) := by decide +kernel
theorem dL_law_312 : decode cL_law 312 = .ok (.ifCond .le 85, 3) := by decide +kernel
theorem dL_law_315 : decode cL_law 315 = .ok (.iload 5, 2) := by decide +kernel
theorem dL_law_317 : decode cL_law 317 = .ok (.ifCond .eq 80, 3) := by decide +kernel
theorem dL_law_320 : decode cL_law 320 = .ok (.aload_n 1, 1) := by decide +kernel
theorem dL_law_321 : decode cL_law 321 = .ok (.iload 7, 2) := by decide +kernel
theorem dL_law_323 : decode cL_law 323 = .ok (.iload 6, 2) := by decide +kernel
theorem dL_law_325 : decode cL_law 325 = .ok (.invokevirtual 34, 3) := by decide +kernel
theorem dL_law_328 : decode cL_law 328 = .ok (.istore 15, 2) := by decide +kernel
theorem dL_law_330 : decode cL_law 330 = .ok (.aload_n 1, 1) := by decide +kernel
theorem dL_law_331 : decode cL_law 331 = .ok (.iload 14, 2) := by decide +kernel
theorem dL_law_333 : decode cL_law 333 = .ok (.iload 15, 2) := by decide +kernel
theorem dL_law_335 : decode cL_law 335 = .ok (.invokestatic 68, 3) := by decide +kernel
theorem dL_law_338 : decode cL_law 338 = .ok (.ifCond .eq 56, 3) := by decide +kernel
theorem dL_law_341 : decode cL_law 341 = .ok (.aload_n 1, 1) := by decide +kernel
theorem dL_law_342 : decode cL_law 342 = .ok (.iload 14, 2) := by decide +kernel
theorem dL_law_344 : decode cL_law 344 = .ok (.invokevirtual 75, 3) := by decide +kernel
theorem dL_law_347 : decode cL_law 347 = .ok (.aload_n 1, 1) := by decide +kernel
theorem dL_law_348 : decode cL_law 348 = .ok (.iload 6, 2) := by decide +kernel
theorem dL_law_350 : decode cL_law 350 = .ok (.invokevirtual 75, 3) := by decide +kernel
theorem dL_law_353 : decode cL_law 353 = .ok (.aload_n 1, 1) := by decide +kernel
theorem dL_law_354 : decode cL_law 354 = .ok (.iload 7, 2) := by decide +kernel
theorem dL_law_356 : decode cL_law 356 = .ok (.invokevirtual 75, 3) := by decide +kernel
theorem dL_law_359 : decode cL_law 359 = .ok (.iadd, 1) := by decide +kernel
theorem dL_law_360 : decode cL_law 360 = .ok (.if_icmp .ne 34, 3) := by decide +kernel
theorem dL_law_363 : decode cL_law 363 = .ok (.aload_n 1, 1) := by decide +kernel
theorem dL_law_364 : decode cL_law 364 = .ok (.iload 6, 2) := by decide +kernel
theorem dL_law_366 : decode cL_law 366 = .ok (.iload 7, 2) := by decide +kernel
theorem dL_law_368 : decode cL_law 368 = .ok (.iload 10, 2) := by decide +kernel
theorem dL_law_370 : decode cL_law 370 = .ok (.invokevirtual 53, 3) := by decide +kernel
theorem dL_law_373 : decode cL_law 373 = .ok (.ifCond .eq 17, 3) := by decide +kernel
theorem dL_law_376 : decode cL_law 376 = .ok (.aload_n 1, 1) := by decide +kernel
theorem dL_law_377 : decode cL_law 377 = .ok (.iload 14, 2) := by decide +kernel
theorem dL_law_379 : decode cL_law 379 = .ok (.iload 6, 2) := by decide +kernel
theorem dL_law_381 : decode cL_law 381 = .ok (.iload 10, 2) := by decide +kernel
theorem dL_law_383 : decode cL_law 383 = .ok (.invokevirtual 53, 3) := by decide +kernel
theorem dL_law_386 : decode cL_law 386 = .ok (.iconst 1, 1) := by decide +kernel
theorem dL_law_387 : decode cL_law 387 = .ok (.if_icmp .ne 7, 3) := by decide +kernel
theorem dL_law_390 : decode cL_law 390 = .ok (.iconst 1, 1) := by decide +kernel
theorem dL_law_391 : decode cL_law 391 = .ok (.goto 4, 3) := by decide +kernel
theorem dL_law_394 : decode cL_law 394 = .ok (.iconst 0, 1) := by decide +kernel
theorem dL_law_395 : decode cL_law 395 = .ok (.istore 5, 2) := by decide +kernel
theorem dL_law_397 : decode cL_law 397 = .ok (.iload 5, 2) := by decide +kernel
theorem dL_law_399 : decode cL_law 399 = .ok (.ifCond .eq 283, 3) := by decide +kernel
theorem dL_law_402 : decode cL_law 402 = .ok (.aload_n 3, 1) := by decide +kernel
theorem dL_law_403 : decode cL_law 403 = .ok (.iload 6, 2) := by decide +kernel
theorem dL_law_405 : decode cL_law 405 = .ok (.iaload, 1) := by decide +kernel
theorem dL_law_406 : decode cL_law 406 = .ok (.bipush 64, 2) := by decide +kernel
theorem dL_law_408 : decode cL_law 408 = .ok (.idiv, 1) := by decide +kernel
theorem dL_law_409 : decode cL_law 409 = .ok (.iconst 3, 1) := by decide +kernel
theorem dL_law_410 : decode cL_law 410 = .ok (.if_icmp .ge 272, 3) := by decide +kernel
theorem dL_law_413 : decode cL_law 413 = .ok (.aload_n 3, 1) := by decide +kernel
theorem dL_law_414 : decode cL_law 414 = .ok (.iload 7, 2) := by decide +kernel
theorem dL_law_416 : decode cL_law 416 = .ok (.iaload, 1) := by decide +kernel
theorem dL_law_417 : decode cL_law 417 = .ok (.bipush 64, 2) := by decide +kernel
theorem dL_law_419 : decode cL_law 419 = .ok (.idiv, 1) := by decide +kernel
theorem dL_law_420 : decode cL_law 420 = .ok (.iconst 3, 1) := by decide +kernel
theorem dL_law_421 : decode cL_law 421 = .ok (.if_icmp .ge 261, 3) := by decide +kernel
theorem dL_law_424 : decode cL_law 424 = .ok (.aload_n 1, 1) := by decide +kernel
theorem dL_law_425 : decode cL_law 425 = .ok (.iload 6, 2) := by decide +kernel
theorem dL_law_427 : decode cL_law 427 = .ok (.invokevirtual 19, 3) := by decide +kernel
theorem dL_law_430 : decode cL_law 430 = .ok (.istore 15, 2) := by decide +kernel
theorem dL_law_432 : decode cL_law 432 = .ok (.aload_n 1, 1) := by decide +kernel
theorem dL_law_433 : decode cL_law 433 = .ok (.iload 7, 2) := by decide +kernel
theorem dL_law_435 : decode cL_law 435 = .ok (.invokevirtual 19, 3) := by decide +kernel
theorem dL_law_438 : decode cL_law 438 = .ok (.istore 16, 2) := by decide +kernel
theorem dL_law_440 : decode cL_law 440 = .ok (.aload_n 1, 1) := by decide +kernel
theorem dL_law_441 : decode cL_law 441 = .ok (.iload 6, 2) := by decide +kernel
theorem dL_law_443 : decode cL_law 443 = .ok (.iload 7, 2) := by decide +kernel
theorem dL_law_445 : decode cL_law 445 = .ok (.iload 10, 2) := by decide +kernel
theorem dL_law_447 : decode cL_law 447 = .ok (.invokevirtual 56, 3) := by decide +kernel
theorem dL_law_450 : decode cL_law 450 = .ok (.istore 17, 2) := by decide +kernel
theorem dL_law_452 : decode cL_law 452 = .ok (.aload_n 1, 1) := by decide +kernel
theorem dL_law_453 : decode cL_law 453 = .ok (.iload 15, 2) := by decide +kernel
theorem dL_law_455 : decode cL_law 455 = .ok (.iload 16, 2) := by decide +kernel
theorem dL_law_457 : decode cL_law 457 = .ok (.iload 10, 2) := by decide +kernel
theorem dL_law_459 : decode cL_law 459 = .ok (.invokevirtual 56, 3) := by decide +kernel
theorem dL_law_462 : decode cL_law 462 = .ok (.iload 17, 2) := by decide +kernel
theorem dL_law_464 : decode cL_law 464 = .ok (.ifCond .ge 8, 3) := by decide +kernel
theorem dL_law_467 : decode cL_law 467 = .ok (.bipush (-4), 2) := by decide +kernel
theorem dL_law_469 : decode cL_law 469 = .ok (.goto 7, 3) := by decide +kernel
theorem dL_law_472 : decode cL_law 472 = .ok (.iload 17, 2) := by decide +kernel
theorem dL_law_474 : decode cL_law 474 = .ok (.iconst 1, 1) := by decide +kernel
theorem dL_law_475 : decode cL_law 475 = .ok (.iadd, 1) := by decide +kernel
theorem dL_law_476 : decode cL_law 476 = .ok (.if_icmp .ne 25, 3) := by decide +kernel
theorem dL_law_479 : decode cL_law 479 = .ok (.aload_n 1, 1) := by decide +kernel
theorem dL_law_480 : decode cL_law 480 = .ok (.invokevirtual 78, 3) := by decide +kernel
theorem dL_law_483 : decode cL_law 483 = .ok (.iload 16, 2) := by decide +kernel
theorem dL_law_485 : decode cL_law 485 = .ok (.if_icmp .ne 16, 3) := by decide +kernel
theorem dL_law_488 : decode cL_law 488 = .ok (.aload_n 1, 1) := by decide +kernel
theorem dL_law_489 : decode cL_law 489 = .ok (.invokevirtual 78, 3) := by decide +kernel
theorem dL_law_492 : decode cL_law 492 = .ok (.iload 15, 2) := by decide +kernel
theorem dL_law_494 : decode cL_law 494 = .ok (.if_icmp .ne 7, 3) := by decide +kernel
theorem dL_law_497 : decode cL_law 497 = .ok (.iconst 1, 1) := by decide +kernel
theorem dL_law_498 : decode cL_law 498 = .ok (.goto 4, 3) := by decide +kernel
theorem dL_law_501 : decode cL_law 501 = .ok (.iconst 0, 1) := by decide +kernel
theorem dL_law_502 : decode cL_law 502 = .ok (.istore 5, 2) := by decide +kernel
theorem dL_law_504 : decode cL_law 504 = .ok (.aload_n 1, 1) := by decide +kernel
theorem dL_law_505 : decode cL_law 505 = .ok (.iload 8, 2) := by decide +kernel
theorem dL_law_507 : decode cL_law 507 = .ok (.iload 9, 2) := by decide +kernel
theorem dL_law_509 : decode cL_law 509 = .ok (.iload 6, 2) := by decide +kernel
theorem dL_law_511 : decode cL_law 511 = .ok (.invokevirtual 24, 3) := by decide +kernel
theorem dL_law_514 : decode cL_law 514 = .ok (.istore 18, 2) := by decide +kernel
theorem dL_law_516 : decode cL_law 516 = .ok (.aload_n 1, 1) := by decide +kernel
theorem dL_law_517 : decode cL_law 517 = .ok (.iload 8, 2) := by decide +kernel
theorem dL_law_519 : decode cL_law 519 = .ok (.iload 9, 2) := by decide +kernel
theorem dL_law_521 : decode cL_law 521 = .ok (.iload 7, 2) := by decide +kernel
theorem dL_law_523 : decode cL_law 523 = .ok (.invokevirtual 24, 3) := by decide +kernel
theorem dL_law_526 : decode cL_law 526 = .ok (.istore 19, 2) := by decide +kernel
theorem dL_law_528 : decode cL_law 528 = .ok (.iload 5, 2) := by decide +kernel
theorem dL_law_530 : decode cL_law 530 = .ok (.ifCond .eq 72, 3) := by decide +kernel
theorem dL_law_533 : decode cL_law 533 = .ok (.aload_n 1, 1) := by decide +kernel
theorem dL_law_534 : decode cL_law 534 = .ok (.iload 18, 2) := by decide +kernel
theorem dL_law_536 : decode cL_law 536 = .ok (.iload 19, 2) := by decide +kernel
theorem dL_law_538 : decode cL_law 538 = .ok (.iload 10, 2) := by decide +kernel
theorem dL_law_540 : decode cL_law 540 = .ok (.invokevirtual 56, 3) := by decide +kernel
theorem dL_law_543 : decode cL_law 543 = .ok (.iload 17, 2) := by decide +kernel
theorem dL_law_545 : decode cL_law 545 = .ok (.ifCond .ge 8, 3) := by decide +kernel
theorem dL_law_548 : decode cL_law 548 = .ok (.bipush (-4), 2) := by decide +kernel
theorem dL_law_550 : decode cL_law 550 = .ok (.goto 7, 3) := by decide +kernel
theorem dL_law_553 : decode cL_law 553 = .ok (.iload 17, 2) := by decide +kernel
theorem dL_law_555 : decode cL_law 555 = .ok (.iconst 1, 1) := by decide +kernel
theorem dL_law_556 : decode cL_law 556 = .ok (.iadd, 1) := by decide +kernel
theorem dL_law_557 : decode cL_law 557 = .ok (.if_icmp .ne 45, 3) := by decide +kernel
theorem dL_law_560 : decode cL_law 560 = .ok (.iload 17, 2) := by decide +kernel
theorem dL_law_562 : decode cL_law 562 = .ok (.ifCond .lt 18, 3) := by decide +kernel
theorem dL_law_565 : decode cL_law 565 = .ok (.aload_n 1, 1) := by decide +kernel
theorem dL_law_566 : decode cL_law 566 = .ok (.iload 18, 2) := by decide +kernel
theorem dL_law_568 : decode cL_law 568 = .ok (.iload 19, 2) := by decide +kernel
theorem dL_law_570 : decode cL_law 570 = .ok (.iload 10, 2) := by decide +kernel
theorem dL_law_572 : decode cL_law 572 = .ok (.invokevirtual 81, 3) := by decide +kernel
theorem dL_law_575 : decode cL_law 575 = .ok (.bipush 9, 2) := by decide +kernel
theorem dL_law_577 : decode cL_law 577 = .ok (.if_icmp .ne 25, 3) := by decide +kernel
theorem dL_law_580 : decode cL_law 580 = .ok (.aload_n 1, 1) := by decide +kernel
theorem dL_law_581 : decode cL_law 581 = .ok (.invokevirtual 78, 3) := by decide +kernel
theorem dL_law_584 : decode cL_law 584 = .ok (.iload 19, 2) := by decide +kernel
theorem dL_law_586 : decode cL_law 586 = .ok (.if_icmp .ne 16, 3) := by decide +kernel
theorem dL_law_589 : decode cL_law 589 = .ok (.aload_n 1, 1) := by decide +kernel
theorem dL_law_590 : decode cL_law 590 = .ok (.invokevirtual 78, 3) := by decide +kernel
theorem dL_law_593 : decode cL_law 593 = .ok (.iload 18, 2) := by decide +kernel
theorem dL_law_595 : decode cL_law 595 = .ok (.if_icmp .ne 7, 3) := by decide +kernel
theorem dL_law_598 : decode cL_law 598 = .ok (.iconst 1, 1) := by decide +kernel
theorem dL_law_599 : decode cL_law 599 = .ok (.goto 4, 3) := by decide +kernel
theorem dL_law_602 : decode cL_law 602 = .ok (.iconst 0, 1) := by decide +kernel
theorem dL_law_603 : decode cL_law 603 = .ok (.istore 5, 2) := by decide +kernel
theorem dL_law_605 : decode cL_law 605 = .ok (.aload_n 1, 1) := by decide +kernel
theorem dL_law_606 : decode cL_law 606 = .ok (.iload 8, 2) := by decide +kernel
theorem dL_law_608 : decode cL_law 608 = .ok (.iload 6, 2) := by decide +kernel
theorem dL_law_610 : decode cL_law 610 = .ok (.invokevirtual 28, 3) := by decide +kernel
theorem dL_law_613 : decode cL_law 613 = .ok (.istore 20, 2) := by decide +kernel
theorem dL_law_615 : decode cL_law 615 = .ok (.aload_n 1, 1) := by decide +kernel
theorem dL_law_616 : decode cL_law 616 = .ok (.iload 8, 2) := by decide +kernel
theorem dL_law_618 : decode cL_law 618 = .ok (.iload 7, 2) := by decide +kernel
theorem dL_law_620 : decode cL_law 620 = .ok (.invokevirtual 28, 3) := by decide +kernel
theorem dL_law_623 : decode cL_law 623 = .ok (.istore 21, 2) := by decide +kernel
theorem dL_law_625 : decode cL_law 625 = .ok (.iload 5, 2) := by decide +kernel
theorem dL_law_627 : decode cL_law 627 = .ok (.ifCond .eq 52, 3) := by decide +kernel
theorem dL_law_630 : decode cL_law 630 = .ok (.aload_n 1, 1) := by decide +kernel
theorem dL_law_631 : decode cL_law 631 = .ok (.iload 20, 2) := by decide +kernel
theorem dL_law_633 : decode cL_law 633 = .ok (.iload 21, 2) := by decide +kernel
theorem dL_law_635 : decode cL_law 635 = .ok (.iload 10, 2) := by decide +kernel
theorem dL_law_637 : decode cL_law 637 = .ok (.invokevirtual 56, 3) := by decide +kernel
theorem dL_law_640 : decode cL_law 640 = .ok (.iload 17, 2) := by decide +kernel
theorem dL_law_642 : decode cL_law 642 = .ok (.ifCond .ge 8, 3) := by decide +kernel
theorem dL_law_645 : decode cL_law 645 = .ok (.bipush (-4), 2) := by decide +kernel
theorem dL_law_647 : decode cL_law 647 = .ok (.goto 7, 3) := by decide +kernel
theorem dL_law_650 : decode cL_law 650 = .ok (.iload 17, 2) := by decide +kernel
theorem dL_law_652 : decode cL_law 652 = .ok (.iconst 1, 1) := by decide +kernel
theorem dL_law_653 : decode cL_law 653 = .ok (.iadd, 1) := by decide +kernel
theorem dL_law_654 : decode cL_law 654 = .ok (.if_icmp .ne 25, 3) := by decide +kernel
theorem dL_law_657 : decode cL_law 657 = .ok (.aload_n 1, 1) := by decide +kernel
theorem dL_law_658 : decode cL_law 658 = .ok (.iload 21, 2) := by decide +kernel
theorem dL_law_660 : decode cL_law 660 = .ok (.invokevirtual 84, 3) := by decide +kernel
theorem dL_law_663 : decode cL_law 663 = .ok (.aload_n 3, 1) := by decide +kernel
theorem dL_law_664 : decode cL_law 664 = .ok (.iload 7, 2) := by decide +kernel
theorem dL_law_666 : decode cL_law 666 = .ok (.iaload, 1) := by decide +kernel
theorem dL_law_667 : decode cL_law 667 = .ok (.bipush 64, 2) := by decide +kernel
theorem dL_law_669 : decode cL_law 669 = .ok (.idiv, 1) := by decide +kernel
theorem dL_law_670 : decode cL_law 670 = .ok (.iconst 1, 1) := by decide +kernel
theorem dL_law_671 : decode cL_law 671 = .ok (.iadd, 1) := by decide +kernel
theorem dL_law_672 : decode cL_law 672 = .ok (.if_icmp .ne 7, 3) := by decide +kernel
theorem dL_law_675 : decode cL_law 675 = .ok (.iconst 1, 1) := by decide +kernel
theorem dL_law_676 : decode cL_law 676 = .ok (.goto 4, 3) := by decide +kernel
theorem dL_law_679 : decode cL_law 679 = .ok (.iconst 0, 1) := by decide +kernel
theorem dL_law_680 : decode cL_law 680 = .ok (.istore 5, 2) := by decide +kernel
theorem dL_law_682 : decode cL_law 682 = .ok (.new 20, 3) := by decide +kernel
theorem dL_law_685 : decode cL_law 685 = .ok (.dup, 1) := by decide +kernel
theorem dL_law_686 : decode cL_law 686 = .ok (.invokespecial 59, 3) := by decide +kernel
theorem dL_law_689 : decode cL_law 689 = .ok (.astore_n 1, 1) := by decide +kernel
theorem dL_law_690 : decode cL_law 690 = .ok (.aload_n 1, 1) := by decide +kernel
theorem dL_law_691 : decode cL_law 691 = .ok (.iconst 0, 1) := by decide +kernel
theorem dL_law_692 : decode cL_law 692 = .ok (.invokevirtual 19, 3) := by decide +kernel
theorem dL_law_695 : decode cL_law 695 = .ok (.istore 10, 2) := by decide +kernel
theorem dL_law_697 : decode cL_law 697 = .ok (.iload 5, 2) := by decide +kernel
theorem dL_law_699 : decode cL_law 699 = .ok (.ifCond .eq 15, 3) := by decide +kernel
theorem dL_law_702 : decode cL_law 702 = .ok (.aload_n 1, 1) := by decide +kernel
theorem dL_law_703 : decode cL_law 703 = .ok (.iconst 3, 1) := by decide +kernel
theorem dL_law_704 : decode cL_law 704 = .ok (.iload 9, 2) := by decide +kernel
theorem dL_law_706 : decode cL_law 706 = .ok (.iload 10, 2) := by decide +kernel
theorem dL_law_708 : decode cL_law 708 = .ok (.invokevirtual 31, 3) := by decide +kernel
theorem dL_law_711 : decode cL_law 711 = .ok (.goto 4, 3) := by decide +kernel
theorem dL_law_714 : decode cL_law 714 = .ok (.iconst 0, 1) := by decide +kernel
theorem dL_law_715 : decode cL_law 715 = .ok (.istore 10, 2) := by decide +kernel
theorem dL_law_717 : decode cL_law 717 = .ok (.iload 5, 2) := by decide +kernel
theorem dL_law_719 : decode cL_law 719 = .ok (.ifCond .eq 14, 3) := by decide +kernel
theorem dL_law_722 : decode cL_law 722 = .ok (.aload_n 1, 1) := by decide +kernel
theorem dL_law_723 : decode cL_law 723 = .ok (.iload 8, 2) := by decide +kernel
theorem dL_law_725 : decode cL_law 725 = .ok (.iload 10, 2) := by decide +kernel
theorem dL_law_727 : decode cL_law 727 = .ok (.invokevirtual 28, 3) := by decide +kernel
theorem dL_law_730 : decode cL_law 730 = .ok (.goto 4, 3) := by decide +kernel
theorem dL_law_733 : decode cL_law 733 = .ok (.iconst 0, 1) := by decide +kernel
theorem dL_law_734 : decode cL_law 734 = .ok (.istore 11, 2) := by decide +kernel
theorem dL_law_736 : decode cL_law 736 = .ok (.iload 5, 2) := by decide +kernel
theorem dL_law_738 : decode cL_law 738 = .ok (.ifCond .eq 13, 3) := by decide +kernel
theorem dL_law_741 : decode cL_law 741 = .ok (.aload_n 1, 1) := by decide +kernel
theorem dL_law_742 : decode cL_law 742 = .ok (.iload 8, 2) := by decide +kernel
theorem dL_law_744 : decode cL_law 744 = .ok (.iconst 0, 1) := by decide +kernel
theorem dL_law_745 : decode cL_law 745 = .ok (.invokevirtual 28, 3) := by decide +kernel
theorem dL_law_748 : decode cL_law 748 = .ok (.goto 4, 3) := by decide +kernel
theorem dL_law_751 : decode cL_law 751 = .ok (.iconst 0, 1) := by decide +kernel
theorem dL_law_752 : decode cL_law 752 = .ok (.istore 12, 2) := by decide +kernel
theorem dL_law_754 : decode cL_law 754 = .ok (.iload 5, 2) := by decide +kernel
theorem dL_law_756 : decode cL_law 756 = .ok (.ifCond .eq 97, 3) := by decide +kernel
theorem dL_law_759 : decode cL_law 759 = .ok (.aload_n 1, 1) := by decide +kernel
theorem dL_law_760 : decode cL_law 760 = .ok (.iload 10, 2) := by decide +kernel
theorem dL_law_762 : decode cL_law 762 = .ok (.invokevirtual 87, 3) := by decide +kernel
theorem dL_law_765 : decode cL_law 765 = .ok (.iconst 1, 1) := by decide +kernel
theorem dL_law_766 : decode cL_law 766 = .ok (.if_icmp .ne 87, 3) := by decide +kernel
theorem dL_law_769 : decode cL_law 769 = .ok (.aload_n 1, 1) := by decide +kernel
theorem dL_law_770 : decode cL_law 770 = .ok (.iload 11, 2) := by decide +kernel
theorem dL_law_772 : decode cL_law 772 = .ok (.iload 12, 2) := by decide +kernel
theorem dL_law_774 : decode cL_law 774 = .ok (.iconst 0, 1) := by decide +kernel
theorem dL_law_775 : decode cL_law 775 = .ok (.invokevirtual 53, 3) := by decide +kernel
theorem dL_law_778 : decode cL_law 778 = .ok (.iconst 1, 1) := by decide +kernel
theorem dL_law_779 : decode cL_law 779 = .ok (.if_icmp .ne 74, 3) := by decide +kernel
theorem dL_law_782 : decode cL_law 782 = .ok (.aload_n 1, 1) := by decide +kernel
theorem dL_law_783 : decode cL_law 783 = .ok (.iload 11, 2) := by decide +kernel
theorem dL_law_785 : decode cL_law 785 = .ok (.iload 12, 2) := by decide +kernel
theorem dL_law_787 : decode cL_law 787 = .ok (.iconst 1, 1) := by decide +kernel
theorem dL_law_788 : decode cL_law 788 = .ok (.invokevirtual 56, 3) := by decide +kernel
theorem dL_law_791 : decode cL_law 791 = .ok (.iconst 2, 1) := by decide +kernel
theorem dL_law_792 : decode cL_law 792 = .ok (.if_icmp .ne 61, 3) := by decide +kernel
theorem dL_law_795 : decode cL_law 795 = .ok (.aload_n 1, 1) := by decide +kernel
theorem dL_law_796 : decode cL_law 796 = .ok (.iload 11, 2) := by decide +kernel
theorem dL_law_798 : decode cL_law 798 = .ok (.iload 12, 2) := by decide +kernel
theorem dL_law_800 : decode cL_law 800 = .ok (.iconst 2, 1) := by decide +kernel
theorem dL_law_801 : decode cL_law 801 = .ok (.invokevirtual 56, 3) := by decide +kernel
theorem dL_law_804 : decode cL_law 804 = .ok (.iconst 2, 1) := by decide +kernel
theorem dL_law_805 : decode cL_law 805 = .ok (.if_icmp .ne 48, 3) := by decide +kernel
theorem dL_law_808 : decode cL_law 808 = .ok (.aload_n 1, 1) := by decide +kernel
theorem dL_law_809 : decode cL_law 809 = .ok (.iload 11, 2) := by decide +kernel
theorem dL_law_811 : decode cL_law 811 = .ok (.iload 12, 2) := by decide +kernel
theorem dL_law_813 : decode cL_law 813 = .ok (.iconst 1, 1) := by decide +kernel
theorem dL_law_814 : decode cL_law 814 = .ok (.invokevirtual 81, 3) := by decide +kernel
theorem dL_law_817 : decode cL_law 817 = .ok (.iload 9, 2) := by decide +kernel
theorem dL_law_819 : decode cL_law 819 = .ok (.if_icmp .ne 34, 3) := by decide +kernel
theorem dL_law_822 : decode cL_law 822 = .ok (.aload_n 1, 1) := by decide +kernel
theorem dL_law_823 : decode cL_law 823 = .ok (.iload 11, 2) := by decide +kernel
theorem dL_law_825 : decode cL_law 825 = .ok (.iload 12, 2) := by decide +kernel
theorem dL_law_827 : decode cL_law 827 = .ok (.iconst 2, 1) := by decide +kernel
theorem dL_law_828 : decode cL_law 828 = .ok (.invokevirtual 81, 3) := by decide +kernel
theorem dL_law_831 : decode cL_law 831 = .ok (.bipush 9, 2) := by decide +kernel
theorem dL_law_833 : decode cL_law 833 = .ok (.if_icmp .ne 20, 3) := by decide +kernel
theorem dL_law_836 : decode cL_law 836 = .ok (.aload_n 1, 1) := by decide +kernel
theorem dL_law_837 : decode cL_law 837 = .ok (.iload 12, 2) := by decide +kernel
theorem dL_law_839 : decode cL_law 839 = .ok (.iload 11, 2) := by decide +kernel
theorem dL_law_841 : decode cL_law 841 = .ok (.iconst 1, 1) := by decide +kernel
theorem dL_law_842 : decode cL_law 842 = .ok (.invokevirtual 56, 3) := by decide +kernel
theorem dL_law_845 : decode cL_law 845 = .ok (.iconst 2, 1) := by decide +kernel
theorem dL_law_846 : decode cL_law 846 = .ok (.if_icmp .ne 7, 3) := by decide +kernel
theorem dL_law_849 : decode cL_law 849 = .ok (.iconst 1, 1) := by decide +kernel
theorem dL_law_850 : decode cL_law 850 = .ok (.goto 4, 3) := by decide +kernel
theorem dL_law_853 : decode cL_law 853 = .ok (.iconst 0, 1) := by decide +kernel
theorem dL_law_854 : decode cL_law 854 = .ok (.istore 5, 2) := by decide +kernel
theorem dL_law_856 : decode cL_law 856 = .ok (.iload 5, 2) := by decide +kernel
theorem dL_law_858 : decode cL_law 858 = .ok (.ifCond .eq 13, 3) := by decide +kernel
theorem dL_law_861 : decode cL_law 861 = .ok (.aload_n 1, 1) := by decide +kernel
theorem dL_law_862 : decode cL_law 862 = .ok (.iload 8, 2) := by decide +kernel
theorem dL_law_864 : decode cL_law 864 = .ok (.iconst 1, 1) := by decide +kernel
theorem dL_law_865 : decode cL_law 865 = .ok (.invokevirtual 28, 3) := by decide +kernel
theorem dL_law_868 : decode cL_law 868 = .ok (.goto 4, 3) := by decide +kernel
theorem dL_law_871 : decode cL_law 871 = .ok (.iconst 0, 1) := by decide +kernel
theorem dL_law_872 : decode cL_law 872 = .ok (.istore 13, 2) := by decide +kernel
theorem dL_law_874 : decode cL_law 874 = .ok (.iload 5, 2) := by decide +kernel
theorem dL_law_876 : decode cL_law 876 = .ok (.ifCond .eq 14, 3) := by decide +kernel
theorem dL_law_879 : decode cL_law 879 = .ok (.aload_n 1, 1) := by decide +kernel
theorem dL_law_880 : decode cL_law 880 = .ok (.iload 13, 2) := by decide +kernel
theorem dL_law_882 : decode cL_law 882 = .ok (.iload 12, 2) := by decide +kernel
theorem dL_law_884 : decode cL_law 884 = .ok (.invokevirtual 34, 3) := by decide +kernel
theorem dL_law_887 : decode cL_law 887 = .ok (.goto 4, 3) := by decide +kernel
theorem dL_law_890 : decode cL_law 890 = .ok (.iconst 0, 1) := by decide +kernel
theorem dL_law_891 : decode cL_law 891 = .ok (.istore 14, 2) := by decide +kernel
theorem dL_law_893 : decode cL_law 893 = .ok (.iload 5, 2) := by decide +kernel
theorem dL_law_895 : decode cL_law 895 = .ok (.ifCond .eq 14, 3) := by decide +kernel
theorem dL_law_898 : decode cL_law 898 = .ok (.aload_n 1, 1) := by decide +kernel
theorem dL_law_899 : decode cL_law 899 = .ok (.iload 14, 2) := by decide +kernel
theorem dL_law_901 : decode cL_law 901 = .ok (.iload 11, 2) := by decide +kernel
theorem dL_law_903 : decode cL_law 903 = .ok (.invokevirtual 34, 3) := by decide +kernel
theorem dL_law_906 : decode cL_law 906 = .ok (.goto 4, 3) := by decide +kernel
theorem dL_law_909 : decode cL_law 909 = .ok (.iconst 0, 1) := by decide +kernel
theorem dL_law_910 : decode cL_law 910 = .ok (.istore 15, 2) := by decide +kernel
theorem dL_law_912 : decode cL_law 912 = .ok (.iload 5, 2) := by decide +kernel
theorem dL_law_914 : decode cL_law 914 = .ok (.ifCond .eq 90, 3) := by decide +kernel
theorem dL_law_917 : decode cL_law 917 = .ok (.iload 15, 2) := by decide +kernel
theorem dL_law_919 : decode cL_law 919 = .ok (.ifCond .le 85, 3) := by decide +kernel
theorem dL_law_922 : decode cL_law 922 = .ok (.aload_n 1, 1) := by decide +kernel
theorem dL_law_923 : decode cL_law 923 = .ok (.iload 15, 2) := by decide +kernel
theorem dL_law_925 : decode cL_law 925 = .ok (.invokevirtual 75, 3) := by decide +kernel
theorem dL_law_928 : decode cL_law 928 = .ok (.iconst 3, 1) := by decide +kernel
theorem dL_law_929 : decode cL_law 929 = .ok (.if_icmp .ne 75, 3) := by decide +kernel
theorem dL_law_932 : decode cL_law 932 = .ok (.aload_n 1, 1) := by decide +kernel
theorem dL_law_933 : decode cL_law 933 = .ok (.iload 14, 2) := by decide +kernel
theorem dL_law_935 : decode cL_law 935 = .ok (.iload 15, 2) := by decide +kernel
theorem dL_law_937 : decode cL_law 937 = .ok (.iconst 0, 1) := by decide +kernel
theorem dL_law_938 : decode cL_law 938 = .ok (.invokevirtual 53, 3) := by decide +kernel
theorem dL_law_941 : decode cL_law 941 = .ok (.iconst 1, 1) := by decide +kernel
theorem dL_law_942 : decode cL_law 942 = .ok (.if_icmp .ne 62, 3) := by decide +kernel
theorem dL_law_945 : decode cL_law 945 = .ok (.aload_n 1, 1) := by decide +kernel
theorem dL_law_946 : decode cL_law 946 = .ok (.iload 14, 2) := by decide +kernel
theorem dL_law_948 : decode cL_law 948 = .ok (.iload 15, 2) := by decide +kernel
theorem dL_law_950 : decode cL_law 950 = .ok (.iconst 1, 1) := by decide +kernel
theorem dL_law_951 : decode cL_law 951 = .ok (.invokevirtual 53, 3) := by decide +kernel
theorem dL_law_954 : decode cL_law 954 = .ok (.iconst 1, 1) := by decide +kernel
theorem dL_law_955 : decode cL_law 955 = .ok (.if_icmp .ne 49, 3) := by decide +kernel
theorem dL_law_958 : decode cL_law 958 = .ok (.aload_n 1, 1) := by decide +kernel
theorem dL_law_959 : decode cL_law 959 = .ok (.iload 14, 2) := by decide +kernel
theorem dL_law_961 : decode cL_law 961 = .ok (.iload 15, 2) := by decide +kernel
theorem dL_law_963 : decode cL_law 963 = .ok (.iconst 2, 1) := by decide +kernel
theorem dL_law_964 : decode cL_law 964 = .ok (.invokevirtual 56, 3) := by decide +kernel
theorem dL_law_967 : decode cL_law 967 = .ok (.iconst 2, 1) := by decide +kernel
theorem dL_law_968 : decode cL_law 968 = .ok (.if_icmp .ne 36, 3) := by decide +kernel
theorem dL_law_971 : decode cL_law 971 = .ok (.aload_n 1, 1) := by decide +kernel
theorem dL_law_972 : decode cL_law 972 = .ok (.iload 14, 2) := by decide +kernel
theorem dL_law_974 : decode cL_law 974 = .ok (.iload 15, 2) := by decide +kernel
theorem dL_law_976 : decode cL_law 976 = .ok (.iconst 2, 1) := by decide +kernel
theorem dL_law_977 : decode cL_law 977 = .ok (.invokevirtual 81, 3) := by decide +kernel
theorem dL_law_980 : decode cL_law 980 = .ok (.sipush 1029, 3) := by decide +kernel
theorem dL_law_983 : decode cL_law 983 = .ok (.if_icmp .ne 21, 3) := by decide +kernel
theorem dL_law_986 : decode cL_law 986 = .ok (.aload_n 1, 1) := by decide +kernel
theorem dL_law_987 : decode cL_law 987 = .ok (.iload 15, 2) := by decide +kernel
theorem dL_law_989 : decode cL_law 989 = .ok (.iload 14, 2) := by decide +kernel
theorem dL_law_991 : decode cL_law 991 = .ok (.iconst 2, 1) := by decide +kernel
theorem dL_law_992 : decode cL_law 992 = .ok (.invokevirtual 81, 3) := by decide +kernel
theorem dL_law_995 : decode cL_law 995 = .ok (.bipush 29, 2) := by decide +kernel
theorem dL_law_997 : decode cL_law 997 = .ok (.if_icmp .ne 7, 3) := by decide +kernel
theorem dL_law_1000 : decode cL_law 1000 = .ok (.iconst 1, 1) := by decide +kernel
theorem dL_law_1001 : decode cL_law 1001 = .ok (.goto 4, 3) := by decide +kernel
theorem dL_law_1004 : decode cL_law 1004 = .ok (.iconst 0, 1) := by decide +kernel
theorem dL_law_1005 : decode cL_law 1005 = .ok (.istore 5, 2) := by decide +kernel
theorem dL_law_1007 : decode cL_law 1007 = .ok (.iload 5, 2) := by decide +kernel
theorem dL_law_1009 : decode cL_law 1009 = .ok (.ifCond .eq 70, 3) := by decide +kernel
theorem dL_law_1012 : decode cL_law 1012 = .ok (.aload_n 1, 1) := by decide +kernel
theorem dL_law_1013 : decode cL_law 1013 = .ok (.iload 15, 2) := by decide +kernel
theorem dL_law_1015 : decode cL_law 1015 = .ok (.iload 10, 2) := by decide +kernel
theorem dL_law_1017 : decode cL_law 1017 = .ok (.invokevirtual 34, 3) := by decide +kernel
theorem dL_law_1020 : decode cL_law 1020 = .ok (.bipush (-3), 2) := by decide +kernel
theorem dL_law_1022 : decode cL_law 1022 = .ok (.if_icmp .ne 57, 3) := by decide +kernel
theorem dL_law_1025 : decode cL_law 1025 = .ok (.aload_n 1, 1) := by decide +kernel
theorem dL_law_1026 : decode cL_law 1026 = .ok (.iload 15, 2) := by decide +kernel
theorem dL_law_1028 : decode cL_law 1028 = .ok (.iconst 1, 1) := by decide +kernel
theorem dL_law_1029 : decode cL_law 1029 = .ok (.invokevirtual 90, 3) := by decide +kernel
theorem dL_law_1032 : decode cL_law 1032 = .ok (.iload 14, 2) := by decide +kernel
theorem dL_law_1034 : decode cL_law 1034 = .ok (.if_icmp .ne 45, 3) := by decide +kernel
theorem dL_law_1037 : decode cL_law 1037 = .ok (.aload_n 1, 1) := by decide +kernel
theorem dL_law_1038 : decode cL_law 1038 = .ok (.iload 15, 2) := by decide +kernel
theorem dL_law_1040 : decode cL_law 1040 = .ok (.iconst 2, 1) := by decide +kernel
theorem dL_law_1041 : decode cL_law 1041 = .ok (.invokevirtual 90, 3) := by decide +kernel
theorem dL_law_1044 : decode cL_law 1044 = .ok (.iload 15, 2) := by decide +kernel
theorem dL_law_1046 : decode cL_law 1046 = .ok (.if_icmp .ne 33, 3) := by decide +kernel
theorem dL_law_1049 : decode cL_law 1049 = .ok (.aload_n 1, 1) := by decide +kernel
theorem dL_law_1050 : decode cL_law 1050 = .ok (.iconst 0, 1) := by decide +kernel
theorem dL_law_1051 : decode cL_law 1051 = .ok (.invokevirtual 93, 3) := by decide +kernel
theorem dL_law_1054 : decode cL_law 1054 = .ok (.aload_n 1, 1) := by decide +kernel
theorem dL_law_1055 : decode cL_law 1055 = .ok (.iconst 1, 1) := by decide +kernel
theorem dL_law_1056 : decode cL_law 1056 = .ok (.invokevirtual 93, 3) := by decide +kernel
theorem dL_law_1059 : decode cL_law 1059 = .ok (.if_icmp .gt 20, 3) := by decide +kernel
theorem dL_law_1062 : decode cL_law 1062 = .ok (.aload_n 1, 1) := by decide +kernel
theorem dL_law_1063 : decode cL_law 1063 = .ok (.iconst 1, 1) := by decide +kernel
theorem dL_law_1064 : decode cL_law 1064 = .ok (.invokevirtual 93, 3) := by decide +kernel
theorem dL_law_1067 : decode cL_law 1067 = .ok (.aload_n 1, 1) := by decide +kernel
theorem dL_law_1068 : decode cL_law 1068 = .ok (.iconst 2, 1) := by decide +kernel
theorem dL_law_1069 : decode cL_law 1069 = .ok (.invokevirtual 93, 3) := by decide +kernel
theorem dL_law_1072 : decode cL_law 1072 = .ok (.if_icmp .gt 7, 3) := by decide +kernel
theorem dL_law_1075 : decode cL_law 1075 = .ok (.iconst 1, 1) := by decide +kernel
theorem dL_law_1076 : decode cL_law 1076 = .ok (.goto 4, 3) := by decide +kernel
theorem dL_law_1079 : decode cL_law 1079 = .ok (.iconst 0, 1) := by decide +kernel
theorem dL_law_1080 : decode cL_law 1080 = .ok (.ireturn, 1) := by decide +kernel
end
section
def wsG : List Cond := lw_tbl.filter goodWord
theorem wsG_in {w : Cond} (h : w ∈ wsG) : w ∈ lw_tbl := (List.mem_filter.mp h).1
theorem wsG_ok {w : Cond} (h : w ∈ wsG) : goodWord w = true := (List.mem_filter.mp h).2
theorem wsG_mem {w : Cond} (i : Nat) (h : lw_tbl[i]? = some w) (g : goodWord w = true) : w ∈ wsG := List.mem_filter.mpr ⟨List.mem_of_getElem? h, g⟩
theorem lk_L_20 : Cond.classLink RL 20 RX3 ∈ wsG := wsG_mem 30 (by decide +kernel) (by decide +kernel)
theorem mk_X3 : Cond.instantiable RX3 2 ∈ wsG := wsG_mem 31 (by decide +kernel) (by decide +kernel)
theorem mt_X3 : Cond.initialized RX3 ∈ wsG := wsG_mem 24 (by decide +kernel) (by decide +kernel)
theorem ma_int : Cond.arrayClass .int ∈ wsG := wsG_mem 114 (by decide +kernel) (by decide +kernel)
theorem lk_L_59 : Cond.methodLink RL 59 yX3_init ∈ wsG := wsG_mem 32 (by decide +kernel) (by decide +kernel)
theorem mn_X3_init : Cond.instanceMethod yX3_init ∈ wsG := wsG_mem 33 (by decide +kernel) (by decide +kernel)
theorem mc_X3_init : Cond.code yX3_init cX3_init 1 none ∈ wsG := wsG_mem 34 (by decide +kernel) (by decide +kernel)
theorem lk_X3_1 : Cond.methodLink RX3 1 objectInit ∈ wsG := wsG_mem 35 (by decide +kernel) (by decide +kernel)
theorem mn_objectInit : Cond.instanceMethod objectInit ∈ wsG := wsG_mem 36 (by decide +kernel) (by decide +kernel)
theorem mc_objectInit : Cond.code objectInit ⟨#[0xb1]⟩ 1 none ∈ wsG := wsG_mem 37 (by decide +kernel) (by decide +kernel)
theorem lk_X3_7 : Cond.classLink RX3 7 RX2 ∈ wsG := wsG_mem 38 (by decide +kernel) (by decide +kernel)
theorem mk_X2 : Cond.instantiable RX2 12 ∈ wsG := wsG_mem 39 (by decide +kernel) (by decide +kernel)
theorem mt_X2 : Cond.initialized RX2 ∈ wsG := wsG_mem 25 (by decide +kernel) (by decide +kernel)
theorem lk_X3_10 : Cond.fieldLink RX3 10 "NamePassingComparer" "store" "LNamePassingComparer$Store;" ∈ wsG := wsG_mem 130 (by decide +kernel) (by decide +kernel)
theorem lk_X3_16 : Cond.classLink RX3 16 RX0 ∈ wsG := wsG_mem 117 (by decide +kernel) (by decide +kernel)
theorem mk_X0 : Cond.instantiable RX0 2 ∈ wsG := wsG_mem 118 (by decide +kernel) (by decide +kernel)
theorem mt_X0 : Cond.initialized RX0 ∈ wsG := wsG_mem 27 (by decide +kernel) (by decide +kernel)
theorem lk_X3_21 : Cond.fieldLink RX3 21 "NamePassingComparer" "game" "LNamePassingComparer$Game;" ∈ wsG := wsG_mem 131 (by decide +kernel) (by decide +kernel)
theorem mn_X2_init : Cond.instanceMethod yX2_init ∈ wsG := wsG_mem 41 (by decide +kernel) (by decide +kernel)
theorem mc_X2_init : Cond.code yX2_init cX2_init 1 none ∈ wsG := wsG_mem 42 (by decide +kernel) (by decide +kernel)
theorem lk_X2_3 : Cond.methodLink RX2 3 objectInit ∈ wsG := wsG_mem 43 (by decide +kernel) (by decide +kernel)
theorem lk_X2_9 : Cond.fieldLink RX2 9 "NamePassingComparer$Store" "kinds" "[I" ∈ wsG := wsG_mem 71 (by decide +kernel) (by decide +kernel)
theorem lk_X2_15 : Cond.fieldLink RX2 15 "NamePassingComparer$Store" "channels" "[I" ∈ wsG := wsG_mem 73 (by decide +kernel) (by decide +kernel)
theorem lk_X2_18 : Cond.fieldLink RX2 18 "NamePassingComparer$Store" "objects" "[I" ∈ wsG := wsG_mem 75 (by decide +kernel) (by decide +kernel)
theorem lk_X2_21 : Cond.fieldLink RX2 21 "NamePassingComparer$Store" "firstParts" "[I" ∈ wsG := wsG_mem 77 (by decide +kernel) (by decide +kernel)
theorem lk_X2_24 : Cond.fieldLink RX2 24 "NamePassingComparer$Store" "secondParts" "[I" ∈ wsG := wsG_mem 79 (by decide +kernel) (by decide +kernel)
theorem lk_X2_27 : Cond.fieldLink RX2 27 "NamePassingComparer$Store" "depths" "[I" ∈ wsG := wsG_mem 80 (by decide +kernel) (by decide +kernel)
theorem lk_X2_30 : Cond.fieldLink RX2 30 "NamePassingComparer$Store" "breadths" "[I" ∈ wsG := wsG_mem 82 (by decide +kernel) (by decide +kernel)
theorem lk_X2_33 : Cond.fieldLink RX2 33 "NamePassingComparer$Store" "needs" "[I" ∈ wsG := wsG_mem 83 (by decide +kernel) (by decide +kernel)
theorem lk_X2_40 : Cond.fieldLink RX2 40 "NamePassingComparer$Store" "lengths" "[I" ∈ wsG := wsG_mem 85 (by decide +kernel) (by decide +kernel)
theorem lk_X2_43 : Cond.fieldLink RX2 43 "NamePassingComparer$Store" "actions" "[I" ∈ wsG := wsG_mem 87 (by decide +kernel) (by decide +kernel)
theorem ma_long : Cond.arrayClass .long ∈ wsG := wsG_mem 116 (by decide +kernel) (by decide +kernel)
theorem lk_X2_46 : Cond.fieldLink RX2 46 "NamePassingComparer$Store" "guards" "[J" ∈ wsG := wsG_mem 88 (by decide +kernel) (by decide +kernel)
theorem lk_X2_50 : Cond.fieldLink RX2 50 "NamePassingComparer$Store" "count" "I" ∈ wsG := wsG_mem 69 (by decide +kernel) (by decide +kernel)
theorem lk_X2_36 : Cond.methodLink RX2 36 yX2_lengthsOfNew ∈ wsG := wsG_mem 44 (by decide +kernel) (by decide +kernel)
theorem ms_X2_lengthsOfNew : Cond.static yX2_lengthsOfNew ∈ wsG := wsG_mem 45 (by decide +kernel) (by decide +kernel)
theorem mc_X2_lengthsOfNew : Cond.code yX2_lengthsOfNew cX2_lengthsOfNew 1 (some (.array .int)) ∈ wsG := wsG_mem 46 (by decide +kernel) (by decide +kernel)
theorem lk_X2_54 : Cond.methodLink RX2 54 yX2_headOf ∈ wsG := wsG_mem 47 (by decide +kernel) (by decide +kernel)
theorem ms_X2_headOf : Cond.static yX2_headOf ∈ wsG := wsG_mem 48 (by decide +kernel) (by decide +kernel)
theorem mc_X2_headOf : Cond.code yX2_headOf cX2_headOf 1 (some (.object "java/lang/String")) ∈ wsG := wsG_mem 49 (by decide +kernel) (by decide +kernel)
theorem lk_X2_58 : Cond.methodLink RX2 58 yJ0_length_8abf5 ∈ wsG := wsG_mem 56 (by decide +kernel) (by decide +kernel)
theorem mn_J0_length_8abf5 : Cond.instanceMethod yJ0_length_8abf5 ∈ wsG := wsG_mem 57 (by decide +kernel) (by decide +kernel)
theorem mv_J0_length_8abf5 : Cond.selects RJ0 yJ0_length_8abf5 yJ0_length_8abf5 ∈ wsG := wsG_mem 58 (by decide +kernel) (by decide +kernel)
theorem mt_J0 : Cond.initialized RJ0 ∈ wsG := wsG_mem 26 (by decide +kernel) (by decide +kernel)
theorem mc_J0_length_8abf5 : Cond.code yJ0_length_8abf5 cJ0_length_8abf5 1 (some .int) ∈ wsG := wsG_mem 59 (by decide +kernel) (by decide +kernel)
theorem lk_J0_9 : Cond.fieldLink RJ0 9 "java/lang/String" "value" "[B" ∈ wsG := wsG_mem 376 (by decide +kernel) (by decide +kernel)
theorem lk_J0_335 : Cond.methodLink RJ0 335 yJ0_coder_7d493 ∈ wsG := wsG_mem 60 (by decide +kernel) (by decide +kernel)
theorem mn_J0_coder_7d493 : Cond.instanceMethod yJ0_coder_7d493 ∈ wsG := wsG_mem 61 (by decide +kernel) (by decide +kernel)
theorem mv_J0_coder_7d493 : Cond.selects RJ0 yJ0_coder_7d493 yJ0_coder_7d493 ∈ wsG := wsG_mem 62 (by decide +kernel) (by decide +kernel)
theorem mc_J0_coder_7d493 : Cond.code yJ0_coder_7d493 cJ0_coder_7d493 1 (some .byte) ∈ wsG := wsG_mem 63 (by decide +kernel) (by decide +kernel)
theorem lk_J0_38 : Cond.fieldLink RJ0 38 "java/lang/String" "COMPACT_STRINGS" "Z" ∈ wsG := wsG_mem 64 (by decide +kernel) (by decide +kernel)
theorem lk_J0_15 : Cond.fieldLink RJ0 15 "java/lang/String" "coder" "B" ∈ wsG := wsG_mem 377 (by decide +kernel) (by decide +kernel)
theorem ms_X3_put : Cond.static yX3_put ∈ wsG := wsG_mem 67 (by decide +kernel) (by decide +kernel)
theorem mc_X3_put : Cond.code yX3_put cX3_put 3 none ∈ wsG := wsG_mem 68 (by decide +kernel) (by decide +kernel)
theorem mn_X0_init : Cond.instanceMethod yX0_init ∈ wsG := wsG_mem 120 (by decide +kernel) (by decide +kernel)
theorem mc_X0_init : Cond.code yX0_init cX0_init 2 none ∈ wsG := wsG_mem 121 (by decide +kernel) (by decide +kernel)
theorem lk_X0_3 : Cond.methodLink RX0 3 objectInit ∈ wsG := wsG_mem 122 (by decide +kernel) (by decide +kernel)
theorem lk_X0_9 : Cond.fieldLink RX0 9 "NamePassingComparer$Game" "store" "LNamePassingComparer$Store;" ∈ wsG := wsG_mem 123 (by decide +kernel) (by decide +kernel)
theorem lk_X0_15 : Cond.fieldLink RX0 15 "NamePassingComparer$Game" "worths" "[I" ∈ wsG := wsG_mem 124 (by decide +kernel) (by decide +kernel)
theorem lk_L_60 : Cond.methodLink RL 60 yL_cell ∈ wsG := wsG_mem 346 (by decide +kernel) (by decide +kernel)
theorem ms_L_cell : Cond.static yL_cell ∈ wsG := wsG_mem 347 (by decide +kernel) (by decide +kernel)
theorem mt_L : Cond.initialized RL ∈ wsG := wsG_mem 23 (by decide +kernel) (by decide +kernel)
theorem mc_L_cell : Cond.code yL_cell cL_cell 2 (some .int) ∈ wsG := wsG_mem 348 (by decide +kernel) (by decide +kernel)
theorem lk_L_64 : Cond.methodLink RL 64 yL_adds ∈ wsG := wsG_mem 351 (by decide +kernel) (by decide +kernel)
theorem ms_L_adds : Cond.static yL_adds ∈ wsG := wsG_mem 352 (by decide +kernel) (by decide +kernel)
theorem mc_L_adds : Cond.code yL_adds cL_adds 12 (some .int) ∈ wsG := wsG_mem 353 (by decide +kernel) (by decide +kernel)
theorem lk_L_37 : Cond.methodLink RL 37 yL_sizes ∈ wsG := wsG_mem 354 (by decide +kernel) (by decide +kernel)
theorem ms_L_sizes : Cond.static yL_sizes ∈ wsG := wsG_mem 355 (by decide +kernel) (by decide +kernel)
theorem mc_L_sizes : Cond.code yL_sizes cL_sizes 10 (some .int) ∈ wsG := wsG_mem 356 (by decide +kernel) (by decide +kernel)
theorem lk_L_9 : Cond.methodLink RL 9 yL_most ∈ wsG := wsG_mem 357 (by decide +kernel) (by decide +kernel)
theorem ms_L_most : Cond.static yL_most ∈ wsG := wsG_mem 358 (by decide +kernel) (by decide +kernel)
theorem mc_L_most : Cond.code yL_most cL_most 2 (some .int) ∈ wsG := wsG_mem 359 (by decide +kernel) (by decide +kernel)
theorem lk_L_15 : Cond.methodLink RL 15 yL_named ∈ wsG := wsG_mem 360 (by decide +kernel) (by decide +kernel)
theorem ms_L_named : Cond.static yL_named ∈ wsG := wsG_mem 361 (by decide +kernel) (by decide +kernel)
theorem mc_L_named : Cond.code yL_named cL_named 1 (some .int) ∈ wsG := wsG_mem 362 (by decide +kernel) (by decide +kernel)
theorem lk_L_41 : Cond.methodLink RL 41 yL_builds ∈ wsG := wsG_mem 363 (by decide +kernel) (by decide +kernel)
theorem ms_L_builds : Cond.static yL_builds ∈ wsG := wsG_mem 364 (by decide +kernel) (by decide +kernel)
theorem mc_L_builds : Cond.code yL_builds cL_builds 6 (some .int) ∈ wsG := wsG_mem 365 (by decide +kernel) (by decide +kernel)
theorem lk_L_19 : Cond.methodLink RL 19 yX3_tau ∈ wsG := wsG_mem 137 (by decide +kernel) (by decide +kernel)
theorem mn_X3_tau : Cond.instanceMethod yX3_tau ∈ wsG := wsG_mem 138 (by decide +kernel) (by decide +kernel)
theorem mv_X3_tau : Cond.selects RX3 yX3_tau yX3_tau ∈ wsG := wsG_mem 139 (by decide +kernel) (by decide +kernel)
theorem mc_X3_tau : Cond.code yX3_tau cX3_tau 2 (some .int) ∈ wsG := wsG_mem 140 (by decide +kernel) (by decide +kernel)
theorem mn_X2_holds : Cond.instanceMethod yX2_holds ∈ wsG := wsG_mem 143 (by decide +kernel) (by decide +kernel)
theorem mv_X2_holds : Cond.selects RX2 yX2_holds yX2_holds ∈ wsG := wsG_mem 0 (by decide +kernel) (by decide +kernel)
theorem mc_X2_holds : Cond.code yX2_holds cX2_holds 2 (some .boolean) ∈ wsG := wsG_mem 144 (by decide +kernel) (by decide +kernel)
theorem mn_X2_build : Cond.instanceMethod yX2_build ∈ wsG := wsG_mem 147 (by decide +kernel) (by decide +kernel)
theorem mv_X2_build : Cond.selects RX2 yX2_build yX2_build ∈ wsG := wsG_mem 1 (by decide +kernel) (by decide +kernel)
theorem mc_X2_build : Cond.code yX2_build cX2_build 9 (some .int) ∈ wsG := wsG_mem 148 (by decide +kernel) (by decide +kernel)
theorem lk_X2_72 : Cond.methodLink RX2 72 Lib.Math.max.name ∈ wsG := wsG_mem 152 (by decide +kernel) (by decide +kernel)
theorem ms_Math_max : Cond.static Lib.Math.max.name ∈ wsG := wsG_mem 153 (by decide +kernel) (by decide +kernel)
theorem mt_java_lang_Math : Cond.initialized "java/lang/Math" ∈ wsG := wsG_mem 28 (by decide +kernel) (by decide +kernel)
theorem mc_Math_max : Cond.code Lib.Math.max.name Lib.Math.max.code 2 (some .int) ∈ wsG := wsG_mem 154 (by decide +kernel) (by decide +kernel)
theorem ms_X3_at : Cond.static yX3_at ∈ wsG := wsG_mem 150 (by decide +kernel) (by decide +kernel)
theorem mc_X3_at : Cond.code yX3_at cX3_at 2 (some .int) ∈ wsG := wsG_mem 151 (by decide +kernel) (by decide +kernel)
theorem lk_X2_78 : Cond.methodLink RX2 78 yX2_isAction ∈ wsG := wsG_mem 155 (by decide +kernel) (by decide +kernel)
theorem ms_X2_isAction : Cond.static yX2_isAction ∈ wsG := wsG_mem 156 (by decide +kernel) (by decide +kernel)
theorem mc_X2_isAction : Cond.code yX2_isAction cX2_isAction 1 (some .boolean) ∈ wsG := wsG_mem 157 (by decide +kernel) (by decide +kernel)
theorem lk_X2_82 : Cond.methodLink RX2 82 yX2_needFor ∈ wsG := wsG_mem 158 (by decide +kernel) (by decide +kernel)
theorem mn_X2_needFor : Cond.instanceMethod yX2_needFor ∈ wsG := wsG_mem 160 (by decide +kernel) (by decide +kernel)
theorem mv_X2_needFor : Cond.selects RX2 yX2_needFor yX2_needFor ∈ wsG := wsG_mem 2 (by decide +kernel) (by decide +kernel)
theorem mc_X2_needFor : Cond.code yX2_needFor cX2_needFor 9 (some .int) ∈ wsG := wsG_mem 161 (by decide +kernel) (by decide +kernel)
theorem lk_X2_86 : Cond.methodLink RX2 86 yX2_lengthFor ∈ wsG := wsG_mem 162 (by decide +kernel) (by decide +kernel)
theorem mn_X2_lengthFor : Cond.instanceMethod yX2_lengthFor ∈ wsG := wsG_mem 164 (by decide +kernel) (by decide +kernel)
theorem mv_X2_lengthFor : Cond.selects RX2 yX2_lengthFor yX2_lengthFor ∈ wsG := wsG_mem 3 (by decide +kernel) (by decide +kernel)
theorem mc_X2_lengthFor : Cond.code yX2_lengthFor cX2_lengthFor 5 (some .int) ∈ wsG := wsG_mem 165 (by decide +kernel) (by decide +kernel)
theorem lk_X2_90 : Cond.methodLink RX2 90 yX2_putActions ∈ wsG := wsG_mem 166 (by decide +kernel) (by decide +kernel)
theorem mn_X2_putActions : Cond.instanceMethod yX2_putActions ∈ wsG := wsG_mem 168 (by decide +kernel) (by decide +kernel)
theorem mv_X2_putActions : Cond.selects RX2 yX2_putActions yX2_putActions ∈ wsG := wsG_mem 4 (by decide +kernel) (by decide +kernel)
theorem mc_X2_putActions : Cond.code yX2_putActions cX2_putActions 9 none ∈ wsG := wsG_mem 169 (by decide +kernel) (by decide +kernel)
theorem ms_X3_put_ : Cond.static yX3_put_ ∈ wsG := wsG_mem 171 (by decide +kernel) (by decide +kernel)
theorem mc_X3_put_ : Cond.code yX3_put_ cX3_put_ 4 none ∈ wsG := wsG_mem 172 (by decide +kernel) (by decide +kernel)
theorem lk_X2_99 : Cond.methodLink RX2 99 yX2_copyActions ∈ wsG := wsG_mem 173 (by decide +kernel) (by decide +kernel)
theorem mn_X2_copyActions : Cond.instanceMethod yX2_copyActions ∈ wsG := wsG_mem 175 (by decide +kernel) (by decide +kernel)
theorem mv_X2_copyActions : Cond.selects RX2 yX2_copyActions yX2_copyActions ∈ wsG := wsG_mem 5 (by decide +kernel) (by decide +kernel)
theorem mc_X2_copyActions : Cond.code yX2_copyActions cX2_copyActions 9 none ∈ wsG := wsG_mem 176 (by decide +kernel) (by decide +kernel)
theorem ms_X3_at_ : Cond.static yX3_at_ ∈ wsG := wsG_mem 178 (by decide +kernel) (by decide +kernel)
theorem mc_X3_at_ : Cond.code yX3_at_ cX3_at_ 2 (some .long) ∈ wsG := wsG_mem 179 (by decide +kernel) (by decide +kernel)
theorem lk_L_24 : Cond.methodLink RL 24 yX3_output ∈ wsG := wsG_mem 180 (by decide +kernel) (by decide +kernel)
theorem mn_X3_output : Cond.instanceMethod yX3_output ∈ wsG := wsG_mem 181 (by decide +kernel) (by decide +kernel)
theorem mv_X3_output : Cond.selects RX3 yX3_output yX3_output ∈ wsG := wsG_mem 182 (by decide +kernel) (by decide +kernel)
theorem mc_X3_output : Cond.code yX3_output cX3_output 4 (some .int) ∈ wsG := wsG_mem 183 (by decide +kernel) (by decide +kernel)
theorem lk_X3_33 : Cond.methodLink RX3 33 yX3_isName ∈ wsG := wsG_mem 184 (by decide +kernel) (by decide +kernel)
theorem ms_X3_isName : Cond.static yX3_isName ∈ wsG := wsG_mem 185 (by decide +kernel) (by decide +kernel)
theorem mc_X3_isName : Cond.code yX3_isName cX3_isName 1 (some .boolean) ∈ wsG := wsG_mem 186 (by decide +kernel) (by decide +kernel)
theorem lk_L_28 : Cond.methodLink RL 28 yX3_input ∈ wsG := wsG_mem 187 (by decide +kernel) (by decide +kernel)
theorem mn_X3_input : Cond.instanceMethod yX3_input ∈ wsG := wsG_mem 188 (by decide +kernel) (by decide +kernel)
theorem mv_X3_input : Cond.selects RX3 yX3_input yX3_input ∈ wsG := wsG_mem 189 (by decide +kernel) (by decide +kernel)
theorem mc_X3_input : Cond.code yX3_input cX3_input 3 (some .int) ∈ wsG := wsG_mem 190 (by decide +kernel) (by decide +kernel)
theorem lk_L_31 : Cond.methodLink RL 31 yX3_match ∈ wsG := wsG_mem 191 (by decide +kernel) (by decide +kernel)
theorem mn_X3_match : Cond.instanceMethod yX3_match ∈ wsG := wsG_mem 192 (by decide +kernel) (by decide +kernel)
theorem mv_X3_match : Cond.selects RX3 yX3_match yX3_match ∈ wsG := wsG_mem 193 (by decide +kernel) (by decide +kernel)
theorem mc_X3_match : Cond.code yX3_match cX3_match 4 (some .int) ∈ wsG := wsG_mem 194 (by decide +kernel) (by decide +kernel)
theorem lk_L_34 : Cond.methodLink RL 34 yX3_sum ∈ wsG := wsG_mem 195 (by decide +kernel) (by decide +kernel)
theorem mn_X3_sum : Cond.instanceMethod yX3_sum ∈ wsG := wsG_mem 196 (by decide +kernel) (by decide +kernel)
theorem mv_X3_sum : Cond.selects RX3 yX3_sum yX3_sum ∈ wsG := wsG_mem 197 (by decide +kernel) (by decide +kernel)
theorem mc_X3_sum : Cond.code yX3_sum cX3_sum 3 (some .int) ∈ wsG := wsG_mem 198 (by decide +kernel) (by decide +kernel)
theorem lk_L_45 : Cond.methodLink RL 45 yL_process ∈ wsG := wsG_mem 366 (by decide +kernel) (by decide +kernel)
theorem ms_L_process : Cond.static yL_process ∈ wsG := wsG_mem 367 (by decide +kernel) (by decide +kernel)
theorem mc_L_process : Cond.code yL_process cL_process 5 (some .int) ∈ wsG := wsG_mem 368 (by decide +kernel) (by decide +kernel)
theorem lk_L_49 : Cond.methodLink RL 49 yX3_processCount ∈ wsG := wsG_mem 369 (by decide +kernel) (by decide +kernel)
theorem mn_X3_processCount : Cond.instanceMethod yX3_processCount ∈ wsG := wsG_mem 370 (by decide +kernel) (by decide +kernel)
theorem mv_X3_processCount : Cond.selects RX3 yX3_processCount yX3_processCount ∈ wsG := wsG_mem 371 (by decide +kernel) (by decide +kernel)
theorem mc_X3_processCount : Cond.code yX3_processCount cX3_processCount 1 (some .int) ∈ wsG := wsG_mem 372 (by decide +kernel) (by decide +kernel)
theorem lk_L_68 : Cond.methodLink RL 68 yL_related ∈ wsG := wsG_mem 373 (by decide +kernel) (by decide +kernel)
theorem ms_L_related : Cond.static yL_related ∈ wsG := wsG_mem 374 (by decide +kernel) (by decide +kernel)
theorem mc_L_related : Cond.code yL_related cL_related 3 (some .boolean) ∈ wsG := wsG_mem 375 (by decide +kernel) (by decide +kernel)
theorem lk_L_53 : Cond.methodLink RL 53 yX3_areRelated ∈ wsG := wsG_mem 249 (by decide +kernel) (by decide +kernel)
theorem mn_X3_areRelated : Cond.instanceMethod yX3_areRelated ∈ wsG := wsG_mem 250 (by decide +kernel) (by decide +kernel)
theorem mv_X3_areRelated : Cond.selects RX3 yX3_areRelated yX3_areRelated ∈ wsG := wsG_mem 251 (by decide +kernel) (by decide +kernel)
theorem mc_X3_areRelated : Cond.code yX3_areRelated cX3_areRelated 5 (some .int) ∈ wsG := wsG_mem 252 (by decide +kernel) (by decide +kernel)
theorem lk_X3_90 : Cond.methodLink RX3 90 yX3_errorOfPair ∈ wsG := wsG_mem 253 (by decide +kernel) (by decide +kernel)
theorem mn_X3_errorOfPair : Cond.instanceMethod yX3_errorOfPair ∈ wsG := wsG_mem 255 (by decide +kernel) (by decide +kernel)
theorem mv_X3_errorOfPair : Cond.selects RX3 yX3_errorOfPair yX3_errorOfPair ∈ wsG := wsG_mem 10 (by decide +kernel) (by decide +kernel)
theorem mc_X3_errorOfPair : Cond.code yX3_errorOfPair cX3_errorOfPair 4 (some .int) ∈ wsG := wsG_mem 256 (by decide +kernel) (by decide +kernel)
theorem lk_X3_103 : Cond.methodLink RX3 103 yX3_isRelation ∈ wsG := wsG_mem 257 (by decide +kernel) (by decide +kernel)
theorem ms_X3_isRelation : Cond.static yX3_isRelation ∈ wsG := wsG_mem 258 (by decide +kernel) (by decide +kernel)
theorem mc_X3_isRelation : Cond.code yX3_isRelation cX3_isRelation 1 (some .boolean) ∈ wsG := wsG_mem 259 (by decide +kernel) (by decide +kernel)
theorem mn_X2_isClosed : Cond.instanceMethod yX2_isClosed ∈ wsG := wsG_mem 230 (by decide +kernel) (by decide +kernel)
theorem mv_X2_isClosed : Cond.selects RX2 yX2_isClosed yX2_isClosed ∈ wsG := wsG_mem 7 (by decide +kernel) (by decide +kernel)
theorem mc_X2_isClosed : Cond.code yX2_isClosed cX2_isClosed 2 (some .boolean) ∈ wsG := wsG_mem 231 (by decide +kernel) (by decide +kernel)
theorem mn_X0_roundsOf : Cond.instanceMethod yX0_roundsOf ∈ wsG := wsG_mem 262 (by decide +kernel) (by decide +kernel)
theorem mv_X0_roundsOf : Cond.selects RX0 yX0_roundsOf yX0_roundsOf ∈ wsG := wsG_mem 11 (by decide +kernel) (by decide +kernel)
theorem mc_X0_roundsOf : Cond.code yX0_roundsOf cX0_roundsOf 5 (some .int) ∈ wsG := wsG_mem 263 (by decide +kernel) (by decide +kernel)
theorem lk_X0_29 : Cond.methodLink RX0 29 yX0_worth ∈ wsG := wsG_mem 264 (by decide +kernel) (by decide +kernel)
theorem mn_X0_worth : Cond.instanceMethod yX0_worth ∈ wsG := wsG_mem 266 (by decide +kernel) (by decide +kernel)
theorem mv_X0_worth : Cond.selects RX0 yX0_worth yX0_worth ∈ wsG := wsG_mem 12 (by decide +kernel) (by decide +kernel)
theorem mc_X0_worth : Cond.code yX0_worth cX0_worth 11 (some .int) ∈ wsG := wsG_mem 267 (by decide +kernel) (by decide +kernel)
theorem lk_X0_67 : Cond.methodLink RX0 67 Lib.Math.min.name ∈ wsG := wsG_mem 279 (by decide +kernel) (by decide +kernel)
theorem ms_Math_min : Cond.static Lib.Math.min.name ∈ wsG := wsG_mem 280 (by decide +kernel) (by decide +kernel)
theorem mc_Math_min : Cond.code Lib.Math.min.name Lib.Math.min.code 2 (some .int) ∈ wsG := wsG_mem 281 (by decide +kernel) (by decide +kernel)
theorem lk_X0_57 : Cond.methodLink RX0 57 yX0_placeOf ∈ wsG := wsG_mem 268 (by decide +kernel) (by decide +kernel)
theorem ms_X0_placeOf : Cond.static yX0_placeOf ∈ wsG := wsG_mem 269 (by decide +kernel) (by decide +kernel)
theorem mc_X0_placeOf : Cond.code yX0_placeOf cX0_placeOf 6 (some .int) ∈ wsG := wsG_mem 270 (by decide +kernel) (by decide +kernel)
theorem lk_X0_79 : Cond.methodLink RX0 79 Lib.Math.max.name ∈ wsG := wsG_mem 278 (by decide +kernel) (by decide +kernel)
theorem lk_X0_107 : Cond.methodLink RX0 107 yX0_viewOf ∈ wsG := wsG_mem 271 (by decide +kernel) (by decide +kernel)
theorem ms_X0_viewOf : Cond.static yX0_viewOf ∈ wsG := wsG_mem 272 (by decide +kernel) (by decide +kernel)
theorem mc_X0_viewOf : Cond.code yX0_viewOf cX0_viewOf 3 (some .int) ∈ wsG := wsG_mem 273 (by decide +kernel) (by decide +kernel)
theorem ms_X1_valueOf : Cond.static yX1_valueOf ∈ wsG := wsG_mem 247 (by decide +kernel) (by decide +kernel)
theorem mt_X1 : Cond.initialized RX1 ∈ wsG := wsG_mem 29 (by decide +kernel) (by decide +kernel)
theorem mc_X1_valueOf : Cond.code yX1_valueOf cX1_valueOf 2 (some .int) ∈ wsG := wsG_mem 248 (by decide +kernel) (by decide +kernel)
theorem ms_X1_with : Cond.static yX1_with ∈ wsG := wsG_mem 276 (by decide +kernel) (by decide +kernel)
theorem mc_X1_with : Cond.code yX1_with cX1_with 2 (some .int) ∈ wsG := wsG_mem 277 (by decide +kernel) (by decide +kernel)
theorem lk_X0_19 : Cond.methodLink RX0 19 yX0_firstPlace ∈ wsG := wsG_mem 207 (by decide +kernel) (by decide +kernel)
theorem ms_X0_firstPlace : Cond.static yX0_firstPlace ∈ wsG := wsG_mem 208 (by decide +kernel) (by decide +kernel)
theorem mc_X0_firstPlace : Cond.code yX0_firstPlace cX0_firstPlace 1 (some .int) ∈ wsG := wsG_mem 209 (by decide +kernel) (by decide +kernel)
theorem lk_X0_64 : Cond.methodLink RX0 64 yX0_sideWorth ∈ wsG := wsG_mem 283 (by decide +kernel) (by decide +kernel)
theorem mn_X0_sideWorth : Cond.instanceMethod yX0_sideWorth ∈ wsG := wsG_mem 285 (by decide +kernel) (by decide +kernel)
theorem mv_X0_sideWorth : Cond.selects RX0 yX0_sideWorth yX0_sideWorth ∈ wsG := wsG_mem 13 (by decide +kernel) (by decide +kernel)
theorem mc_X0_answerWorth : Cond.code yX0_answerWorth cX0_answerWorth 15 (some .int) ∈ wsG := wsG_mem 316 (by decide +kernel) (by decide +kernel)
theorem ms_X1_nextFresh : Cond.static yX1_nextFresh ∈ wsG := wsG_mem 297 (by decide +kernel) (by decide +kernel)
theorem mc_X1_nextFresh : Cond.code yX1_nextFresh cX1_nextFresh 3 (some .int) ∈ wsG := wsG_mem 298 (by decide +kernel) (by decide +kernel)
theorem lk_X1_15 : Cond.methodLink RX1 15 Lib.Math.max.name ∈ wsG := wsG_mem 299 (by decide +kernel) (by decide +kernel)
theorem lk_X1_11 : Cond.methodLink RX1 11 yX1_valueOf ∈ wsG := wsG_mem 246 (by decide +kernel) (by decide +kernel)
theorem mc_X0_attackWorth : Cond.code yX0_attackWorth cX0_attackWorth 11 (some .int) ∈ wsG := wsG_mem 307 (by decide +kernel) (by decide +kernel)
theorem mn_X2_actionIn : Cond.instanceMethod yX2_actionIn ∈ wsG := wsG_mem 238 (by decide +kernel) (by decide +kernel)
theorem mv_X2_actionIn : Cond.selects RX2 yX2_actionIn yX2_actionIn ∈ wsG := wsG_mem 9 (by decide +kernel) (by decide +kernel)
theorem mc_X2_actionIn : Cond.code yX2_actionIn cX2_actionIn 5 (some .int) ∈ wsG := wsG_mem 239 (by decide +kernel) (by decide +kernel)
theorem lk_X2_110 : Cond.methodLink RX2 110 yX2_isOpen ∈ wsG := wsG_mem 240 (by decide +kernel) (by decide +kernel)
theorem ms_X2_isOpen : Cond.static yX2_isOpen ∈ wsG := wsG_mem 241 (by decide +kernel) (by decide +kernel)
theorem mc_X2_isOpen : Cond.code yX2_isOpen cX2_isOpen 6 (some .boolean) ∈ wsG := wsG_mem 242 (by decide +kernel) (by decide +kernel)
theorem ms_X1_areEqual : Cond.static yX1_areEqual ∈ wsG := wsG_mem 244 (by decide +kernel) (by decide +kernel)
theorem mc_X1_areEqual : Cond.code yX1_areEqual cX1_areEqual 3 (some .boolean) ∈ wsG := wsG_mem 245 (by decide +kernel) (by decide +kernel)
theorem lk_X0_72 : Cond.methodLink RX0 72 yX0_agree ∈ wsG := wsG_mem 308 (by decide +kernel) (by decide +kernel)
theorem mn_X0_agree : Cond.instanceMethod yX0_agree ∈ wsG := wsG_mem 310 (by decide +kernel) (by decide +kernel)
theorem mv_X0_agree : Cond.selects RX0 yX0_agree yX0_agree ∈ wsG := wsG_mem 18 (by decide +kernel) (by decide +kernel)
theorem mc_X0_agree : Cond.code yX0_agree cX0_agree 6 (some .boolean) ∈ wsG := wsG_mem 311 (by decide +kernel) (by decide +kernel)
theorem lk_X0_76 : Cond.methodLink RX0 76 yX0_answerWorth ∈ wsG := wsG_mem 313 (by decide +kernel) (by decide +kernel)
theorem mn_X0_answerWorth : Cond.instanceMethod yX0_answerWorth ∈ wsG := wsG_mem 315 (by decide +kernel) (by decide +kernel)
theorem mv_X0_answerWorth : Cond.selects RX0 yX0_answerWorth yX0_answerWorth ∈ wsG := wsG_mem 19 (by decide +kernel) (by decide +kernel)
theorem mc_X0_sideWorth : Cond.code yX0_sideWorth cX0_sideWorth 12 (some .int) ∈ wsG := wsG_mem 286 (by decide +kernel) (by decide +kernel)
theorem lk_X0_46 : Cond.methodLink RX0 46 yX0_lastChoice ∈ wsG := wsG_mem 288 (by decide +kernel) (by decide +kernel)
theorem mn_X0_lastChoice : Cond.instanceMethod yX0_lastChoice ∈ wsG := wsG_mem 290 (by decide +kernel) (by decide +kernel)
theorem mv_X0_lastChoice : Cond.selects RX0 yX0_lastChoice yX0_lastChoice ∈ wsG := wsG_mem 14 (by decide +kernel) (by decide +kernel)
theorem mc_X0_lastChoice : Cond.code yX0_lastChoice cX0_lastChoice 4 (some .int) ∈ wsG := wsG_mem 291 (by decide +kernel) (by decide +kernel)
theorem lk_X0_103 : Cond.methodLink RX0 103 yX0_isChosenWith ∈ wsG := wsG_mem 292 (by decide +kernel) (by decide +kernel)
theorem mn_X0_isChosenWith : Cond.instanceMethod yX0_isChosenWith ∈ wsG := wsG_mem 294 (by decide +kernel) (by decide +kernel)
theorem mv_X0_isChosenWith : Cond.selects RX0 yX0_isChosenWith yX0_isChosenWith ∈ wsG := wsG_mem 15 (by decide +kernel) (by decide +kernel)
theorem mc_X0_isChosenWith : Cond.code yX0_isChosenWith cX0_isChosenWith 3 (some .boolean) ∈ wsG := wsG_mem 295 (by decide +kernel) (by decide +kernel)
theorem lk_X0_49 : Cond.methodLink RX0 49 yX0_firstChoice ∈ wsG := wsG_mem 300 (by decide +kernel) (by decide +kernel)
theorem mn_X0_firstChoice : Cond.instanceMethod yX0_firstChoice ∈ wsG := wsG_mem 302 (by decide +kernel) (by decide +kernel)
theorem mv_X0_firstChoice : Cond.selects RX0 yX0_firstChoice yX0_firstChoice ∈ wsG := wsG_mem 16 (by decide +kernel) (by decide +kernel)
theorem mc_X0_firstChoice : Cond.code yX0_firstChoice cX0_firstChoice 3 (some .int) ∈ wsG := wsG_mem 303 (by decide +kernel) (by decide +kernel)
theorem lk_X0_53 : Cond.methodLink RX0 53 yX0_attackWorth ∈ wsG := wsG_mem 304 (by decide +kernel) (by decide +kernel)
theorem mn_X0_attackWorth : Cond.instanceMethod yX0_attackWorth ∈ wsG := wsG_mem 306 (by decide +kernel) (by decide +kernel)
theorem mv_X0_attackWorth : Cond.selects RX0 yX0_attackWorth yX0_attackWorth ∈ wsG := wsG_mem 17 (by decide +kernel) (by decide +kernel)
theorem lk_L_56 : Cond.methodLink RL 56 yX3_rounds ∈ wsG := wsG_mem 317 (by decide +kernel) (by decide +kernel)
theorem mn_X3_rounds : Cond.instanceMethod yX3_rounds ∈ wsG := wsG_mem 318 (by decide +kernel) (by decide +kernel)
theorem mv_X3_rounds : Cond.selects RX3 yX3_rounds yX3_rounds ∈ wsG := wsG_mem 319 (by decide +kernel) (by decide +kernel)
theorem mc_X3_rounds : Cond.code yX3_rounds cX3_rounds 5 (some .int) ∈ wsG := wsG_mem 320 (by decide +kernel) (by decide +kernel)
theorem lk_L_72 : Cond.methodLink RL 72 yX3_textLength ∈ wsG := wsG_mem 220 (by decide +kernel) (by decide +kernel)
theorem mn_X3_textLength : Cond.instanceMethod yX3_textLength ∈ wsG := wsG_mem 221 (by decide +kernel) (by decide +kernel)
theorem mv_X3_textLength : Cond.selects RX3 yX3_textLength yX3_textLength ∈ wsG := wsG_mem 222 (by decide +kernel) (by decide +kernel)
theorem mc_X3_textLength : Cond.code yX3_textLength cX3_textLength 2 (some .int) ∈ wsG := wsG_mem 223 (by decide +kernel) (by decide +kernel)
theorem lk_X3_48 : Cond.methodLink RX3 48 yX3_at ∈ wsG := wsG_mem 215 (by decide +kernel) (by decide +kernel)
theorem lk_L_75 : Cond.methodLink RL 75 yX3_moveCount ∈ wsG := wsG_mem 224 (by decide +kernel) (by decide +kernel)
theorem mn_X3_moveCount : Cond.instanceMethod yX3_moveCount ∈ wsG := wsG_mem 225 (by decide +kernel) (by decide +kernel)
theorem mv_X3_moveCount : Cond.selects RX3 yX3_moveCount yX3_moveCount ∈ wsG := wsG_mem 226 (by decide +kernel) (by decide +kernel)
theorem mc_X3_moveCount : Cond.code yX3_moveCount cX3_moveCount 2 (some .int) ∈ wsG := wsG_mem 227 (by decide +kernel) (by decide +kernel)
theorem mn_X2_movesOf : Cond.instanceMethod yX2_movesOf ∈ wsG := wsG_mem 234 (by decide +kernel) (by decide +kernel)
theorem mv_X2_movesOf : Cond.selects RX2 yX2_movesOf yX2_movesOf ∈ wsG := wsG_mem 8 (by decide +kernel) (by decide +kernel)
theorem mc_X2_movesOf : Cond.code yX2_movesOf cX2_movesOf 4 (some .int) ∈ wsG := wsG_mem 235 (by decide +kernel) (by decide +kernel)
theorem lk_X2_114 : Cond.methodLink RX2 114 yX2_actionIn ∈ wsG := wsG_mem 236 (by decide +kernel) (by decide +kernel)
theorem lk_L_78 : Cond.methodLink RL 78 yX3_removeLast ∈ wsG := wsG_mem 199 (by decide +kernel) (by decide +kernel)
theorem mn_X3_removeLast : Cond.instanceMethod yX3_removeLast ∈ wsG := wsG_mem 200 (by decide +kernel) (by decide +kernel)
theorem mv_X3_removeLast : Cond.selects RX3 yX3_removeLast yX3_removeLast ∈ wsG := wsG_mem 201 (by decide +kernel) (by decide +kernel)
theorem mc_X3_removeLast : Cond.code yX3_removeLast cX3_removeLast 2 (some .int) ∈ wsG := wsG_mem 202 (by decide +kernel) (by decide +kernel)
theorem mn_X0_forget : Cond.instanceMethod yX0_forget ∈ wsG := wsG_mem 205 (by decide +kernel) (by decide +kernel)
theorem mv_X0_forget : Cond.selects RX0 yX0_forget yX0_forget ∈ wsG := wsG_mem 6 (by decide +kernel) (by decide +kernel)
theorem mc_X0_forget : Cond.code yX0_forget cX0_forget 5 none ∈ wsG := wsG_mem 206 (by decide +kernel) (by decide +kernel)
theorem lk_L_81 : Cond.methodLink RL 81 yX3_firstAttack ∈ wsG := wsG_mem 321 (by decide +kernel) (by decide +kernel)
theorem mn_X3_firstAttack : Cond.instanceMethod yX3_firstAttack ∈ wsG := wsG_mem 322 (by decide +kernel) (by decide +kernel)
theorem mv_X3_firstAttack : Cond.selects RX3 yX3_firstAttack yX3_firstAttack ∈ wsG := wsG_mem 323 (by decide +kernel) (by decide +kernel)
theorem mc_X3_firstAttack : Cond.code yX3_firstAttack cX3_firstAttack 5 (some .int) ∈ wsG := wsG_mem 324 (by decide +kernel) (by decide +kernel)
theorem mn_X0_attackOf : Cond.instanceMethod yX0_attackOf ∈ wsG := wsG_mem 327 (by decide +kernel) (by decide +kernel)
theorem mv_X0_attackOf : Cond.selects RX0 yX0_attackOf yX0_attackOf ∈ wsG := wsG_mem 20 (by decide +kernel) (by decide +kernel)
theorem mc_X0_attackOf : Cond.code yX0_attackOf cX0_attackOf 7 (some .int) ∈ wsG := wsG_mem 328 (by decide +kernel) (by decide +kernel)
theorem lk_X0_33 : Cond.methodLink RX0 33 yX0_roundsOf ∈ wsG := wsG_mem 329 (by decide +kernel) (by decide +kernel)
theorem lk_X0_37 : Cond.methodLink RX0 37 yX0_attackWith ∈ wsG := wsG_mem 330 (by decide +kernel) (by decide +kernel)
theorem mn_X0_attackWith : Cond.instanceMethod yX0_attackWith ∈ wsG := wsG_mem 332 (by decide +kernel) (by decide +kernel)
theorem mv_X0_attackWith : Cond.selects RX0 yX0_attackWith yX0_attackWith ∈ wsG := wsG_mem 21 (by decide +kernel) (by decide +kernel)
theorem mc_X0_attackWith : Cond.code yX0_attackWith cX0_attackWith 11 (some .int) ∈ wsG := wsG_mem 333 (by decide +kernel) (by decide +kernel)
theorem lk_L_84 : Cond.methodLink RL 84 yX3_depthOf ∈ wsG := wsG_mem 211 (by decide +kernel) (by decide +kernel)
theorem mn_X3_depthOf : Cond.instanceMethod yX3_depthOf ∈ wsG := wsG_mem 212 (by decide +kernel) (by decide +kernel)
theorem mv_X3_depthOf : Cond.selects RX3 yX3_depthOf yX3_depthOf ∈ wsG := wsG_mem 213 (by decide +kernel) (by decide +kernel)
theorem mc_X3_depthOf : Cond.code yX3_depthOf cX3_depthOf 2 (some .int) ∈ wsG := wsG_mem 214 (by decide +kernel) (by decide +kernel)
theorem lk_L_87 : Cond.methodLink RL 87 yX3_needOf ∈ wsG := wsG_mem 216 (by decide +kernel) (by decide +kernel)
theorem mn_X3_needOf : Cond.instanceMethod yX3_needOf ∈ wsG := wsG_mem 217 (by decide +kernel) (by decide +kernel)
theorem mv_X3_needOf : Cond.selects RX3 yX3_needOf yX3_needOf ∈ wsG := wsG_mem 218 (by decide +kernel) (by decide +kernel)
theorem mc_X3_needOf : Cond.code yX3_needOf cX3_needOf 2 (some .int) ∈ wsG := wsG_mem 219 (by decide +kernel) (by decide +kernel)
theorem lk_L_90 : Cond.methodLink RL 90 yX3_representative ∈ wsG := wsG_mem 334 (by decide +kernel) (by decide +kernel)
theorem mn_X3_representative : Cond.instanceMethod yX3_representative ∈ wsG := wsG_mem 335 (by decide +kernel) (by decide +kernel)
theorem mv_X3_representative : Cond.selects RX3 yX3_representative yX3_representative ∈ wsG := wsG_mem 336 (by decide +kernel) (by decide +kernel)
theorem mc_X3_representative : Cond.code yX3_representative cX3_representative 4 (some .int) ∈ wsG := wsG_mem 337 (by decide +kernel) (by decide +kernel)
theorem lk_X3_100 : Cond.methodLink RX3 100 yX3_lowestRelated ∈ wsG := wsG_mem 338 (by decide +kernel) (by decide +kernel)
theorem mn_X3_lowestRelated : Cond.instanceMethod yX3_lowestRelated ∈ wsG := wsG_mem 340 (by decide +kernel) (by decide +kernel)
theorem mv_X3_lowestRelated : Cond.selects RX3 yX3_lowestRelated yX3_lowestRelated ∈ wsG := wsG_mem 22 (by decide +kernel) (by decide +kernel)
theorem mc_X3_lowestRelated : Cond.code yX3_lowestRelated cX3_lowestRelated 4 (some .int) ∈ wsG := wsG_mem 341 (by decide +kernel) (by decide +kernel)
theorem lk_L_93 : Cond.methodLink RL 93 yX3_classCount ∈ wsG := wsG_mem 342 (by decide +kernel) (by decide +kernel)
theorem mn_X3_classCount : Cond.instanceMethod yX3_classCount ∈ wsG := wsG_mem 343 (by decide +kernel) (by decide +kernel)
theorem mv_X3_classCount : Cond.selects RX3 yX3_classCount yX3_classCount ∈ wsG := wsG_mem 344 (by decide +kernel) (by decide +kernel)
theorem mc_X3_classCount : Cond.code yX3_classCount cX3_classCount 4 (some .int) ∈ wsG := wsG_mem 345 (by decide +kernel) (by decide +kernel)
theorem ly_X0_0 : u_lay RX0 TX0 0 ∈ wsG := wsG_mem 125 (by decide +kernel) (by decide +kernel)
theorem ly_X0_1 : u_lay RX0 TX0 1 ∈ wsG := wsG_mem 127 (by decide +kernel) (by decide +kernel)
theorem ig_X0 : ∀ w ∈ u_ws RX0 TX0 2, w ∈ wsG := by
  intro w hw
  obtain ⟨k, hk, rfl⟩ := List.mem_map.mp hw
  have hk := List.mem_range.mp hk
  match k, hk with
  | 0, _ => exact ly_X0_0
  | 1, _ => exact ly_X0_1
  | k + 2, hk => exact absurd hk (by omega)
theorem ly_X2_0 : u_lay RX2 TX2 0 ∈ wsG := wsG_mem 89 (by decide +kernel) (by decide +kernel)
theorem ly_X2_1 : u_lay RX2 TX2 1 ∈ wsG := wsG_mem 91 (by decide +kernel) (by decide +kernel)
theorem ly_X2_2 : u_lay RX2 TX2 2 ∈ wsG := wsG_mem 93 (by decide +kernel) (by decide +kernel)
theorem ly_X2_3 : u_lay RX2 TX2 3 ∈ wsG := wsG_mem 95 (by decide +kernel) (by decide +kernel)
theorem ly_X2_4 : u_lay RX2 TX2 4 ∈ wsG := wsG_mem 97 (by decide +kernel) (by decide +kernel)
theorem ly_X2_5 : u_lay RX2 TX2 5 ∈ wsG := wsG_mem 99 (by decide +kernel) (by decide +kernel)
theorem ly_X2_6 : u_lay RX2 TX2 6 ∈ wsG := wsG_mem 101 (by decide +kernel) (by decide +kernel)
theorem ly_X2_7 : u_lay RX2 TX2 7 ∈ wsG := wsG_mem 103 (by decide +kernel) (by decide +kernel)
theorem ly_X2_8 : u_lay RX2 TX2 8 ∈ wsG := wsG_mem 105 (by decide +kernel) (by decide +kernel)
theorem ly_X2_9 : u_lay RX2 TX2 9 ∈ wsG := wsG_mem 107 (by decide +kernel) (by decide +kernel)
theorem ly_X2_10 : u_lay RX2 TX2 10 ∈ wsG := wsG_mem 109 (by decide +kernel) (by decide +kernel)
theorem ly_X2_11 : u_lay RX2 TX2 11 ∈ wsG := wsG_mem 111 (by decide +kernel) (by decide +kernel)
theorem ig_X2 : ∀ w ∈ u_ws RX2 TX2 12, w ∈ wsG := by
  intro w hw
  obtain ⟨k, hk, rfl⟩ := List.mem_map.mp hw
  have hk := List.mem_range.mp hk
  match k, hk with
  | 0, _ => exact ly_X2_0
  | 1, _ => exact ly_X2_1
  | 2, _ => exact ly_X2_2
  | 3, _ => exact ly_X2_3
  | 4, _ => exact ly_X2_4
  | 5, _ => exact ly_X2_5
  | 6, _ => exact ly_X2_6
  | 7, _ => exact ly_X2_7
  | 8, _ => exact ly_X2_8
  | 9, _ => exact ly_X2_9
  | 10, _ => exact ly_X2_10
  | 11, _ => exact ly_X2_11
  | k + 12, hk => exact absurd hk (by omega)
theorem ly_X3_0 : u_lay RX3 TX3 0 ∈ wsG := wsG_mem 132 (by decide +kernel) (by decide +kernel)
theorem ly_X3_1 : u_lay RX3 TX3 1 ∈ wsG := wsG_mem 134 (by decide +kernel) (by decide +kernel)
theorem ig_X3 : ∀ w ∈ u_ws RX3 TX3 2, w ∈ wsG := by
  intro w hw
  obtain ⟨k, hk, rfl⟩ := List.mem_map.mp hw
  have hk := List.mem_range.mp hk
  match k, hk with
  | 0, _ => exact ly_X3_0
  | 1, _ => exact ly_X3_1
  | k + 2, hk => exact absurd hk (by omega)
def isNestW : Cond → Bool | .fieldLinkNest .. => true | .methodLinkNest .. => true | _ => false
def nestW : List Cond := lw_tbl.filter isNestW
theorem nestW_in {w : Cond} (h : w ∈ nestW) : w ∈ lw_tbl := (List.mem_filter.mp h).1
theorem nestW_ok {w : Cond} (h : w ∈ nestW) : isNestW w = true := (List.mem_filter.mp h).2
theorem nestW_mem {w : Cond} (i : Nat) (h : lw_tbl[i]? = some w) (g : isNestW w = true) : w ∈ nestW := List.mem_filter.mpr ⟨List.mem_of_getElem? h, g⟩
theorem nk_X3_9 : Cond.methodLinkNest RX3 9 yX2_init RX3 ∈ nestW := nestW_mem 40 (by decide +kernel) rfl
theorem nk_X2_64 : Cond.methodLinkNest RX2 64 yX3_put RX3 ∈ nestW := nestW_mem 66 (by decide +kernel) rfl
theorem nk_X3_36 : Cond.fieldLinkNest RX3 36 RX2 "count" "I" RX3 ∈ nestW := nestW_mem 70 (by decide +kernel) rfl
theorem nk_X0_85 : Cond.fieldLinkNest RX0 85 RX2 "kinds" "[I" RX3 ∈ nestW := nestW_mem 72 (by decide +kernel) rfl
theorem nk_X0_94 : Cond.fieldLinkNest RX0 94 RX2 "channels" "[I" RX3 ∈ nestW := nestW_mem 74 (by decide +kernel) rfl
theorem nk_X0_97 : Cond.fieldLinkNest RX0 97 RX2 "objects" "[I" RX3 ∈ nestW := nestW_mem 76 (by decide +kernel) rfl
theorem nk_X0_82 : Cond.fieldLinkNest RX0 82 RX2 "firstParts" "[I" RX3 ∈ nestW := nestW_mem 78 (by decide +kernel) rfl
theorem nk_X3_62 : Cond.fieldLinkNest RX3 62 RX2 "depths" "[I" RX3 ∈ nestW := nestW_mem 81 (by decide +kernel) rfl
theorem nk_X3_65 : Cond.fieldLinkNest RX3 65 RX2 "needs" "[I" RX3 ∈ nestW := nestW_mem 84 (by decide +kernel) rfl
theorem nk_X3_68 : Cond.fieldLinkNest RX3 68 RX2 "lengths" "[I" RX3 ∈ nestW := nestW_mem 86 (by decide +kernel) rfl
theorem nk_X3_18 : Cond.methodLinkNest RX3 18 yX0_init RX3 ∈ nestW := nestW_mem 119 (by decide +kernel) rfl
theorem nk_X3_25 : Cond.methodLinkNest RX3 25 yX2_holds RX3 ∈ nestW := nestW_mem 141 (by decide +kernel) rfl
theorem nk_X3_29 : Cond.methodLinkNest RX3 29 yX2_build RX3 ∈ nestW := nestW_mem 145 (by decide +kernel) rfl
theorem nk_X2_68 : Cond.methodLinkNest RX2 68 yX3_at RX3 ∈ nestW := nestW_mem 149 (by decide +kernel) rfl
theorem nk_X2_96 : Cond.methodLinkNest RX2 96 yX3_put_ RX3 ∈ nestW := nestW_mem 170 (by decide +kernel) rfl
theorem nk_X2_103 : Cond.methodLinkNest RX2 103 yX3_at_ RX3 ∈ nestW := nestW_mem 177 (by decide +kernel) rfl
theorem nk_X3_40 : Cond.methodLinkNest RX3 40 yX0_forget RX3 ∈ nestW := nestW_mem 203 (by decide +kernel) rfl
theorem nk_X0_23 : Cond.methodLinkNest RX0 23 yX3_put RX3 ∈ nestW := nestW_mem 210 (by decide +kernel) rfl
theorem nk_X3_75 : Cond.methodLinkNest RX3 75 yX2_isClosed RX3 ∈ nestW := nestW_mem 228 (by decide +kernel) rfl
theorem nk_X3_78 : Cond.methodLinkNest RX3 78 yX2_movesOf RX3 ∈ nestW := nestW_mem 232 (by decide +kernel) rfl
theorem nk_X2_106 : Cond.methodLinkNest RX2 106 yX1_areEqual RX3 ∈ nestW := nestW_mem 243 (by decide +kernel) rfl
theorem nk_X3_94 : Cond.methodLinkNest RX3 94 yX0_roundsOf RX3 ∈ nestW := nestW_mem 260 (by decide +kernel) rfl
theorem nk_X0_110 : Cond.methodLinkNest RX0 110 yX1_valueOf RX3 ∈ nestW := nestW_mem 274 (by decide +kernel) rfl
theorem nk_X0_91 : Cond.methodLinkNest RX0 91 yX1_with RX3 ∈ nestW := nestW_mem 275 (by decide +kernel) rfl
theorem nk_X0_60 : Cond.methodLinkNest RX0 60 yX3_at RX3 ∈ nestW := nestW_mem 282 (by decide +kernel) rfl
theorem nk_X0_41 : Cond.methodLinkNest RX0 41 yX2_actionIn RX3 ∈ nestW := nestW_mem 287 (by decide +kernel) rfl
theorem nk_X0_88 : Cond.methodLinkNest RX0 88 yX1_nextFresh RX3 ∈ nestW := nestW_mem 296 (by decide +kernel) rfl
theorem nk_X0_100 : Cond.methodLinkNest RX0 100 yX1_areEqual RX3 ∈ nestW := nestW_mem 312 (by decide +kernel) rfl
theorem nk_X3_97 : Cond.methodLinkNest RX3 97 yX0_attackOf RX3 ∈ nestW := nestW_mem 325 (by decide +kernel) rfl
end
section
section MACH
abbrev Mem : Type := (Nat → Nat → Int32) × (Nat → Int64)
def wr (μ : Mem) (c i : Nat) (v : Int32) : Mem := (fun d => if d = c then upd (μ.1 c) i v else μ.1 d, μ.2)
def wrL (μ : Mem) (i : Nat) (v : Int64) : Mem := (μ.1, vp_updL μ.2 i v)
abbrev Geo : Type := (Mem → va_W) × (Nat → Prop) × va_G × (ClassId × ClassId) × (Nat → Nat) × (Nat → Nat)
abbrev gW (G : Geo) : Mem → va_W := G.1
abbrev gA (G : Geo) : Nat → Prop := G.2.1
abbrev gD (G : Geo) : va_G := G.2.2.1
abbrev gT (G : Geo) : List (ClassId × FieldType) := [(G.2.2.2.1.1, .int), (G.2.2.2.1.2, .long)]
abbrev gK (G : Geo) : Nat → Nat := G.2.2.2.2.1
abbrev gV (G : Geo) : Nat → Nat := G.2.2.2.2.2
def sLen : List Nat := [2, 4, 3, 5, 1, 1]
def sByt : List (List Int32) := [[116, 46], [120, 33, 121, 46], [120, 63, 46], [91, 120, 61, 121, 93], [40], [48]]
def sIdx : List Nat := [117, 119, 121, 123, 125, 127]
def sTx : List String := ["t.", "x!y.", "x?.", "[x=y]", "(", "0"]
/-- what holds of the tables and of the String constants, at a state and a heap -/
def St (G : Geo) (U : State) (H : Heap) : Prop :=
  va_K (gD G) vwCl (gT G) U ∧ (∀ μ, va_D (gA G) (gW G μ)) ∧ (∀ w ∈ nestW, va_Nw w U) ∧ vk_S 6 sLen sByt (gK G) (gV G) (gA G) U H ∧ (∀ i, i < 6 → vk_R RX2 (sIdx.getD i 0) (sTx.getD i "") (gK G i) U) ∧
  va_Z "java/lang/String" "COMPACT_STRINGS" "Z" (.int 1) (gA G) U H ∧ True
theorem nestW_tab {w : Cond} (h : isNestW w = true) : w.onTables = true := by
  cases w <;> first | rfl | simp [isNestW] at h
theorem va_Nw_warm {w : Cond} {s U : State} (hn : isNestW w = true) (hW : s.WarmedH U.vm) (h : va_Nw w s) : va_Nw w U := by
  cases w <;> first | exact va_Nw.warmF hW h | exact va_Nw.warmM hW h | simp [isNestW] at hn
theorem St.calling {G : Geo} {U : State} {H : Heap} (h : St G U H) (g : JFrame) (mk : MethodId) (a : Array Value) : St G (U.calling g mk a) H :=
  ⟨va_K.moved (Vm.Alike.refl U.vm) h.1, h.2.1, fun w hw => va_Nw.same (u := U) (U := U.calling g mk a) (nestW_tab (nestW_ok hw)) rfl (h.2.2.1 w hw), vk_S.moved (Vm.Alike.refl U.vm) h.2.2.2.1, fun i hi => vk_R.same rfl (h.2.2.2.2.1 i hi),
    va_Z.moved (Vm.Alike.refl U.vm) h.2.2.2.2.2.1, trivial⟩
theorem St.step {G : Geo} {s U : State} {H : Heap} {locs : List Loc} (h : St G s s.heap) (hS : va_S (gA G) s.heap H locs) (hW : s.WarmedH U.vm) : St G U H :=
  ⟨va_K.moved hW.alike h.1, h.2.1, fun w hw => va_Nw_warm (nestW_ok hw) hW (h.2.2.1 w hw), vk_S.moved hW.alike (vk_S.kept h.2.2.2.1 hS.2.1), fun i hi => vk_R.warm hW (h.2.2.2.2.1 i hi),
    va_Z.moved hW.alike (va_Z.kept h.2.2.2.2.2.1 hS.2.1), trivial⟩
/-- locals by their places: what is held, or nothing known -/
def al : Nat → List (Option Value) → List (Nat × Value)
  | _, [] => []
  | k, none :: r => al (k + 1) r
  | k, some v :: r => (k, v) :: al (k + 1) r
theorem al_mem {lv : List (Option Value)} : ∀ {k j : Nat} {w : Value}, (j, w) ∈ al k lv ↔ ∃ i, j = k + i ∧ lv[i]? = some (some w) := by
  induction lv with
  | nil => intro k j w; simp [al]
  | cons x r ih =>
    intro k j w
    cases x with
    | none =>
      simp only [al, ih]
      constructor
      · rintro ⟨i, h1, h2⟩
        exact ⟨i + 1, by omega, by simpa using h2⟩
      · rintro ⟨i, h1, h2⟩
        cases i with
        | zero => simp at h2
        | succ i => exact ⟨i, by omega, by simpa using h2⟩
    | some v =>
      simp only [al, List.mem_cons, ih, Prod.mk.injEq]
      constructor
      · rintro (⟨h1, h2⟩ | ⟨i, h1, h2⟩)
        · exact ⟨0, by omega, by simp [h2]⟩
        · exact ⟨i + 1, by omega, by simpa using h2⟩
      · rintro ⟨i, h1, h2⟩
        cases i with
        | zero => left; simp at h2; exact ⟨by omega, h2.symm⟩
        | succ i => right; exact ⟨i, by omega, by simpa using h2⟩
theorem al_get {ls : Array Slot} {nL : Nat} {lv : List (Option Value)} (h : lv_has ls nL (al 0 lv)) {i : Nat} {v : Value} (hi : lv[i]? = some (some v)) : ls[i]? = some (.val v) :=
  h.2.2 (i, v) (al_mem.mpr ⟨i, by omega, hi⟩)
/-- the slot ahead holds no long -/
def ok1 (lv : List (Option Value)) : Nat → Bool
  | 0 => true
  | i + 1 => match lv[i]? with
    | some (some v) => v.category == 1
    | _ => true
theorem al_set1 {ls : Array Slot} {nL : Nat} {lv : List (Option Value)} {i : Nat} {v : Value} (hk : ok1 lv i = true) (h : lv_has ls nL ((i, v) :: (al 0 lv).filter (fun q => !(q.1 == i) && !(q.1 + 1 == i && q.2.category == 2)))) : lv_has ls nL (al 0 (lv.set i (some v))) := by
  refine ⟨h.1, h.2.1, fun q hq => ?_⟩
  obtain ⟨j, w⟩ := q
  obtain ⟨i', h1, h2⟩ := al_mem.mp hq
  have h1 : j = i' := by omega
  subst h1
  by_cases hij : j = i
  · subst hij
    have hl : j < lv.length := by
      have := (List.getElem?_eq_some_iff.mp h2).1
      simpa using this
    rw [List.getElem?_set_self hl] at h2
    cases h2
    exact h.2.2 _ List.mem_cons_self
  · rw [List.getElem?_set_ne (Ne.symm hij)] at h2
    refine h.2.2 _ (List.mem_cons_of_mem _ (List.mem_filter.mpr ⟨al_mem.mpr ⟨j, by omega, h2⟩, ?_⟩))
    simp only [Bool.and_eq_true, Bool.not_eq_true', beq_eq_false_iff_ne, ne_eq, Bool.and_eq_false_iff]
    refine ⟨hij, ?_⟩
    by_cases hj : j + 1 = i
    · right
      subst hj
      simp only [ok1, h2, beq_iff_eq] at hk
      omega
    · left; exact hj
theorem al_set2 {ls : Array Slot} {nL : Nat} {lv : List (Option Value)} {i : Nat} {v : Value} (hk : ok1 lv i = true) (h : lv_has ls nL ((i, v) :: (al 0 lv).filter (fun q => !(q.1 == i) && (!(q.1 == i + 1) && !(q.1 + 1 == i && q.2.category == 2))))) : lv_has ls nL (al 0 ((lv.set i (some v)).set (i + 1) none)) := by
  refine ⟨h.1, h.2.1, fun q hq => ?_⟩
  obtain ⟨j, w⟩ := q
  obtain ⟨i', h1, h2⟩ := al_mem.mp hq
  have h1 : j = i' := by omega
  subst h1
  by_cases hij1 : j = i + 1
  · subst hij1
    by_cases hl : i + 1 < (lv.set i (some v)).length
    · rw [List.getElem?_set_self hl] at h2
      cases h2
    · rw [List.getElem?_eq_none (by simpa using hl)] at h2
      cases h2
  · rw [List.getElem?_set_ne (Ne.symm hij1)] at h2
    by_cases hij : j = i
    · subst hij
      have hl : j < lv.length := by
        have := (List.getElem?_eq_some_iff.mp h2).1
        simpa using this
      rw [List.getElem?_set_self hl] at h2
      cases h2
      exact h.2.2 _ List.mem_cons_self
    · rw [List.getElem?_set_ne (Ne.symm hij)] at h2
      refine h.2.2 _ (List.mem_cons_of_mem _ (List.mem_filter.mpr ⟨al_mem.mpr ⟨j, by omega, h2⟩, ?_⟩))
      simp only [Bool.and_eq_true, Bool.not_eq_true', beq_eq_false_iff_ne, ne_eq, Bool.and_eq_false_iff]
      refine ⟨hij, hij1, ?_⟩
      by_cases hj : j + 1 = i
      · right
        subst hj
        simp only [ok1, h2, beq_iff_eq] at hk
        omega
      · left; exact hj
def msk (lv : List (Option Value)) (bs : List Bool) : List (Option Value) := lv.zipWith (fun v b => if b = true then v else none) bs
theorem al_msk {ls : Array Slot} {nL : Nat} {lv : List (Option Value)} {bs : List Bool} (h : lv_has ls nL (al 0 lv)) : lv_has ls nL (al 0 (msk lv bs)) := by
  refine ⟨h.1, h.2.1, fun q hq => ?_⟩
  obtain ⟨j, w⟩ := q
  obtain ⟨i, h1, h2⟩ := al_mem.mp hq
  refine h.2.2 _ (al_mem.mpr ⟨i, h1, ?_⟩)
  simp only [msk, List.getElem?_zipWith] at h2
  revert h2
  cases lv[i]? with
  | none => simp
  | some x =>
    cases bs[i]? with
    | none => simp
    | some b => cases b <;> simp
/-- a contract's room: dp calls open below it -/
abbrev rmD (dp : Nat) : Room := { frames := dp, cells := 0, slots := 0, locals := dp * 40 }
def Qp (G : Geo) (Q : Option Value → Mem → Prop) : Array Value → State → Outcome → State → Prop := fun _ st oc t => (∃ (r : Option Value) (μ' : Mem), oc = .returned r ∧ Q r μ' ∧ va_P (gD G) vwCl (gW G μ') t.heap) ∧ va_F (gA G) st t
def Pp (G : Geo) (av : List Value) (μ : Mem) : Array Value → State → Prop := va_Pc av (fun U => va_P (gD G) vwCl (gW G μ) U.heap ∧ St G U U.heap)
def Ct (G : Geo) (l : Launch) (dp : Nat) (y : MethodName) (b : ByteArray) (nL : Nat) (ret : Option FieldType) (av : List Value) (μ : Mem) (Q : Option Value → Mem → Prop) : Prop :=
  Met l y (Cond.code y b nL ret :: wsG) (rmD dp) (Pp G av μ) (Qp G Q) 0 0 (gA G)
theorem Pp.blind {G : Geo} {av : List Value} {μ : Mem} : FrameBlind (Pp G av μ) := fun a U g mk h => ⟨h.1, h.2.1, h.2.2.calling g mk a⟩
/-- what is fixed in a method's walk -/
def Fx (G : Geo) (p : Program) (R : Room) (s : State) (m : MethodId) (args : Array Value) (meth : Method) (c : Code) (own : String) (cc : ByteArray) (nL : Nat) (ret : Option FieldType) (k n : Nat) : Prop :=
  p.tables.exec = Jvm.exec ∧ c.code = cc ∧ meth.sig.returnType = ret ∧ meth.locks = false ∧ c.maxLocals = nL ∧ s.vm.findClass own = some m.cls ∧ (∀ w ∈ wsG, w.before args s = true) ∧ St G s s.heap ∧ (k ≤ R.cells ∧ n ≤ R.slots)
section VROWS
variable {G : Geo} {p : Program} {l : Launch} {e : Env} {R : Room} {s : State} {m : MethodId} {args : Array Value} {below : List Frame} {meth : Method} {c : Code} {k n : Nat} {Z : State → Prop} {own : String} {cc : ByteArray} {nL pc : Nat} {ret : Option FieldType} {lv : List (Option Value)} {st : List Value} {μ : Mem}
def V (G : Geo) (p : Program) (l : Launch) (e : Env) (R : Room) (s : State) (m : MethodId) (args : Array Value) (below : List Frame) (meth : Method) (c : Code) (nL k n : Nat) (Z : State → Prop) (pc : Nat) (lv : List (Option Value)) (st : List Value) (μ : Mem) : Prop :=
  ∀ (H : Heap) (locs : List Loc) (ls : Array Slot), va_P (gD G) vwCl (gW G μ) H → va_S (gA G) s.heap H locs → lv_has ls nL (al 0 lv) → W p l e R s m args below meth c H locs k n Z (F0 m pc ls st)
theorem V_msk (bs : List Bool) {lv' : List (Option Value)} (h : msk lv bs = lv') (kk : V G p l e R s m args below meth c nL k n Z pc lv' st μ) : V G p l e R s m args below meth c nL k n Z pc lv st μ := fun H locs ls hP hS hl => kk H locs ls hP hS (h ▸ al_msk hl)
theorem V_mem {μ' : Mem} (h : μ = μ') (kk : V G p l e R s m args below meth c nL k n Z pc lv st μ') : V G p l e R s m args below meth c nL k n Z pc lv st μ := h ▸ kk

theorem V_iload_n (F : Fx G p R s m args meth c own cc nL ret k n) {i : Fin 4} {x : Int32} (d : decode cc pc = .ok (.iload_n i, 1)) (h : lv[(i : Nat)]? = some (some (.int x))) (kk : V G p l e R s m args below meth c nL k n Z (pc + 1) lv (.int x :: st) μ) : V G p l e R s m args below meth c nL k n Z pc lv st μ := by
  intro H locs ls hP hS hl
  exact lv_iload_n F.1 F.2.1 d rfl (al_get hl h) (kk H locs ls hP hS hl)
theorem V_iload (F : Fx G p R s m args meth c own cc nL ret k n) {i : Nat} {x : Int32} (d : decode cc pc = .ok (.iload i, 2)) (h : lv[i]? = some (some (.int x))) (kk : V G p l e R s m args below meth c nL k n Z (pc + 2) lv (.int x :: st) μ) : V G p l e R s m args below meth c nL k n Z pc lv st μ := by
  intro H locs ls hP hS hl
  exact lv_iload F.1 F.2.1 d (al_get hl h) (kk H locs ls hP hS hl)
theorem V_lload_n (F : Fx G p R s m args meth c own cc nL ret k n) {i : Fin 4} {x : Int64} (d : decode cc pc = .ok (.lload_n i, 1)) (h : lv[(i : Nat)]? = some (some (.long x))) (kk : V G p l e R s m args below meth c nL k n Z (pc + 1) lv (.long x :: st) μ) : V G p l e R s m args below meth c nL k n Z pc lv st μ := by
  intro H locs ls hP hS hl
  exact lv_lload_n F.1 F.2.1 d rfl (al_get hl h) (kk H locs ls hP hS hl)
theorem V_lload (F : Fx G p R s m args meth c own cc nL ret k n) {i : Nat} {x : Int64} (d : decode cc pc = .ok (.lload i, 2)) (h : lv[i]? = some (some (.long x))) (kk : V G p l e R s m args below meth c nL k n Z (pc + 2) lv (.long x :: st) μ) : V G p l e R s m args below meth c nL k n Z pc lv st μ := by
  intro H locs ls hP hS hl
  exact lv_lload F.1 F.2.1 d (al_get hl h) (kk H locs ls hP hS hl)
theorem V_aload_n (F : Fx G p R s m args meth c own cc nL ret k n) {i : Fin 4} {x : Nat} (d : decode cc pc = .ok (.aload_n i, 1)) (h : lv[(i : Nat)]? = some (some (.ref x))) (kk : V G p l e R s m args below meth c nL k n Z (pc + 1) lv (.ref x :: st) μ) : V G p l e R s m args below meth c nL k n Z pc lv st μ := by
  intro H locs ls hP hS hl
  exact lv_aload_n F.1 F.2.1 d rfl (al_get hl h) (kk H locs ls hP hS hl)
theorem V_aload (F : Fx G p R s m args meth c own cc nL ret k n) {i : Nat} {x : Nat} (d : decode cc pc = .ok (.aload i, 2)) (h : lv[i]? = some (some (.ref x))) (kk : V G p l e R s m args below meth c nL k n Z (pc + 2) lv (.ref x :: st) μ) : V G p l e R s m args below meth c nL k n Z pc lv st μ := by
  intro H locs ls hP hS hl
  exact lv_aload F.1 F.2.1 d (al_get hl h) (kk H locs ls hP hS hl)
theorem V_istore_n (F : Fx G p R s m args meth c own cc nL ret k n) {i : Fin 4} {x : Int32} {lv' : List (Option Value)} (d : decode cc pc = .ok (.istore_n i, 1)) (hn : (i : Nat) < nL) (ho : ok1 lv i = true) (hv : lv.set i (some (.int x)) = lv') (kk : V G p l e R s m args below meth c nL k n Z (pc + 1) lv' st μ) : V G p l e R s m args below meth c nL k n Z pc lv (.int x :: st) μ := by
  intro H locs ls hP hS hl
  exact lv_istore_n F.1 F.2.1 d rfl hl hn rfl (fun ls' hl' => kk H locs ls' hP hS (hv ▸ al_set1 ho hl'))
theorem V_istore (F : Fx G p R s m args meth c own cc nL ret k n) {i : Nat} {x : Int32} {lv' : List (Option Value)} (d : decode cc pc = .ok (.istore i, 2)) (hn : i < nL) (ho : ok1 lv i = true) (hv : lv.set i (some (.int x)) = lv') (kk : V G p l e R s m args below meth c nL k n Z (pc + 2) lv' st μ) : V G p l e R s m args below meth c nL k n Z pc lv (.int x :: st) μ := by
  intro H locs ls hP hS hl
  exact lv_istore F.1 F.2.1 d hl hn rfl (fun ls' hl' => kk H locs ls' hP hS (hv ▸ al_set1 ho hl'))
theorem V_astore_n (F : Fx G p R s m args meth c own cc nL ret k n) {i : Fin 4} {x : Nat} {lv' : List (Option Value)} (d : decode cc pc = .ok (.astore_n i, 1)) (hn : (i : Nat) < nL) (ho : ok1 lv i = true) (hv : lv.set i (some (.ref x)) = lv') (kk : V G p l e R s m args below meth c nL k n Z (pc + 1) lv' st μ) : V G p l e R s m args below meth c nL k n Z pc lv (.ref x :: st) μ := by
  intro H locs ls hP hS hl
  exact lv_astore_n F.1 F.2.1 d rfl hl hn rfl (fun ls' hl' => kk H locs ls' hP hS (hv ▸ al_set1 ho hl'))
theorem V_astore (F : Fx G p R s m args meth c own cc nL ret k n) {i : Nat} {x : Nat} {lv' : List (Option Value)} (d : decode cc pc = .ok (.astore i, 2)) (hn : i < nL) (ho : ok1 lv i = true) (hv : lv.set i (some (.ref x)) = lv') (kk : V G p l e R s m args below meth c nL k n Z (pc + 2) lv' st μ) : V G p l e R s m args below meth c nL k n Z pc lv (.ref x :: st) μ := by
  intro H locs ls hP hS hl
  exact lv_astore F.1 F.2.1 d hl hn rfl (fun ls' hl' => kk H locs ls' hP hS (hv ▸ al_set1 ho hl'))
theorem V_lstore (F : Fx G p R s m args meth c own cc nL ret k n) {i : Nat} {x : Int64} {lv' : List (Option Value)} (d : decode cc pc = .ok (.lstore i, 2)) (hn : i + 1 < nL) (ho : ok1 lv i = true) (hv : (lv.set i (some (.long x))).set (i + 1) none = lv') (kk : V G p l e R s m args below meth c nL k n Z (pc + 2) lv' st μ) : V G p l e R s m args below meth c nL k n Z pc lv (.long x :: st) μ := by
  intro H locs ls hP hS hl
  exact lv_lstore F.1 F.2.1 d hl hn rfl (fun ls' hl' => kk H locs ls' hP hS (hv ▸ al_set2 ho hl'))
theorem V_iinc (F : Fx G p R s m args meth c own cc nL ret k n) {i : Nat} {j : Int} {x : Int32} {lv' : List (Option Value)} (d : decode cc pc = .ok (.iinc i j, 3)) (h : lv[i]? = some (some (.int x))) (hn : i < nL) (ho : ok1 lv i = true) (hv : lv.set i (some (.int (x + Int32.ofInt j))) = lv') (kk : V G p l e R s m args below meth c nL k n Z (pc + 3) lv' st μ) : V G p l e R s m args below meth c nL k n Z pc lv st μ := by
  intro H locs ls hP hS hl
  obtain ⟨q, hq⟩ := List.getElem?_of_mem (al_mem.mpr ⟨i, (by omega : i = 0 + i), h⟩)
  exact lv_iinc F.1 F.2.1 d hl hq rfl hn rfl (fun ls' hl' => kk H locs ls' hP hS (hv ▸ al_set1 ho hl'))
theorem V_iconst (F : Fx G p R s m args meth c own cc nL ret k n) {j : Int} {v : Int32} (d : decode cc pc = .ok (.iconst j, 1)) (hv : Int32.ofInt j = v) (kk : V G p l e R s m args below meth c nL k n Z (pc + 1) lv (.int v :: st) μ) : V G p l e R s m args below meth c nL k n Z pc lv st μ := by
  intro H locs ls hP hS hl
  exact lv_iconst F.1 F.2.1 d hv (kk H locs ls hP hS hl)
theorem V_bipush (F : Fx G p R s m args meth c own cc nL ret k n) {j : Int} {v : Int32} (d : decode cc pc = .ok (.bipush j, 2)) (hv : (Int8.ofInt j).toInt32 = v) (kk : V G p l e R s m args below meth c nL k n Z (pc + 2) lv (.int v :: st) μ) : V G p l e R s m args below meth c nL k n Z pc lv st μ := by
  intro H locs ls hP hS hl
  exact lv_bipush F.1 F.2.1 d hv (kk H locs ls hP hS hl)
theorem V_sipush (F : Fx G p R s m args meth c own cc nL ret k n) {j : Int} {v : Int32} (d : decode cc pc = .ok (.sipush j, 3)) (hv : (Int16.ofInt j).toInt32 = v) (kk : V G p l e R s m args below meth c nL k n Z (pc + 3) lv (.int v :: st) μ) : V G p l e R s m args below meth c nL k n Z pc lv st μ := by
  intro H locs ls hP hS hl
  exact lv_sipush F.1 F.2.1 d hv (kk H locs ls hP hS hl)
theorem V_lconst (F : Fx G p R s m args meth c own cc nL ret k n) {j : Fin 2} {v : Int64} (d : decode cc pc = .ok (.lconst j, 1)) (hv : Int64.ofNat (j : Nat) = v) (kk : V G p l e R s m args below meth c nL k n Z (pc + 1) lv (.long v :: st) μ) : V G p l e R s m args below meth c nL k n Z pc lv st μ := by
  intro H locs ls hP hS hl
  exact lv_lconst F.1 F.2.1 d hv (kk H locs ls hP hS hl)
theorem V_iadd (F : Fx G p R s m args meth c own cc nL ret k n) {x y : Int32} (d : decode cc pc = .ok (.iadd, 1)) (kk : V G p l e R s m args below meth c nL k n Z (pc + 1) lv (.int (x + y) :: st) μ) : V G p l e R s m args below meth c nL k n Z pc lv (.int y :: .int x :: st) μ := by
  intro H locs ls hP hS hl
  exact lv_iadd F.1 F.2.1 d (kk H locs ls hP hS hl)
theorem V_isub (F : Fx G p R s m args meth c own cc nL ret k n) {x y : Int32} (d : decode cc pc = .ok (.isub, 1)) (kk : V G p l e R s m args below meth c nL k n Z (pc + 1) lv (.int (x - y) :: st) μ) : V G p l e R s m args below meth c nL k n Z pc lv (.int y :: .int x :: st) μ := by
  intro H locs ls hP hS hl
  exact lv_isub F.1 F.2.1 d (kk H locs ls hP hS hl)
theorem V_imul (F : Fx G p R s m args meth c own cc nL ret k n) {x y : Int32} (d : decode cc pc = .ok (.imul, 1)) (kk : V G p l e R s m args below meth c nL k n Z (pc + 1) lv (.int (x * y) :: st) μ) : V G p l e R s m args below meth c nL k n Z pc lv (.int y :: .int x :: st) μ := by
  intro H locs ls hP hS hl
  exact lv_imul F.1 F.2.1 d (kk H locs ls hP hS hl)
theorem V_iand (F : Fx G p R s m args meth c own cc nL ret k n) {x y : Int32} (d : decode cc pc = .ok (.iand, 1)) (kk : V G p l e R s m args below meth c nL k n Z (pc + 1) lv (.int (x &&& y) :: st) μ) : V G p l e R s m args below meth c nL k n Z pc lv (.int y :: .int x :: st) μ := by
  intro H locs ls hP hS hl
  exact lv_iand F.1 F.2.1 d (kk H locs ls hP hS hl)
theorem V_ior (F : Fx G p R s m args meth c own cc nL ret k n) {x y : Int32} (d : decode cc pc = .ok (.ior, 1)) (kk : V G p l e R s m args below meth c nL k n Z (pc + 1) lv (.int (x ||| y) :: st) μ) : V G p l e R s m args below meth c nL k n Z pc lv (.int y :: .int x :: st) μ := by
  intro H locs ls hP hS hl
  exact lv_ior F.1 F.2.1 d (kk H locs ls hP hS hl)
theorem V_ishl (F : Fx G p R s m args meth c own cc nL ret k n) {x y : Int32} (d : decode cc pc = .ok (.ishl, 1)) (kk : V G p l e R s m args below meth c nL k n Z (pc + 1) lv (.int (x <<< (y &&& 31)) :: st) μ) : V G p l e R s m args below meth c nL k n Z pc lv (.int y :: .int x :: st) μ := by
  intro H locs ls hP hS hl
  exact lv_ishl F.1 F.2.1 d (kk H locs ls hP hS hl)
theorem V_ishr (F : Fx G p R s m args meth c own cc nL ret k n) {x y : Int32} (d : decode cc pc = .ok (.ishr, 1)) (kk : V G p l e R s m args below meth c nL k n Z (pc + 1) lv (.int (x >>> (y &&& 31)) :: st) μ) : V G p l e R s m args below meth c nL k n Z pc lv (.int y :: .int x :: st) μ := by
  intro H locs ls hP hS hl
  exact lv_ishr F.1 F.2.1 d (kk H locs ls hP hS hl)
theorem V_idiv (F : Fx G p R s m args meth c own cc nL ret k n) {x y : Int32} (d : decode cc pc = .ok (.idiv, 1)) (h : ¬ y = 0) (kk : V G p l e R s m args below meth c nL k n Z (pc + 1) lv (.int (x / y) :: st) μ) : V G p l e R s m args below meth c nL k n Z pc lv (.int y :: .int x :: st) μ := by
  intro H locs ls hP hS hl
  exact lv_idiv F.1 F.2.1 d h (kk H locs ls hP hS hl)
theorem V_irem (F : Fx G p R s m args meth c own cc nL ret k n) {x y : Int32} (d : decode cc pc = .ok (.irem, 1)) (h : ¬ y = 0) (kk : V G p l e R s m args below meth c nL k n Z (pc + 1) lv (.int (x - x / y * y) :: st) μ) : V G p l e R s m args below meth c nL k n Z pc lv (.int y :: .int x :: st) μ := by
  intro H locs ls hP hS hl
  exact lv_irem F.1 F.2.1 d h (kk H locs ls hP hS hl)
theorem V_land (F : Fx G p R s m args meth c own cc nL ret k n) {x y : Int64} (d : decode cc pc = .ok (.land, 1)) (kk : V G p l e R s m args below meth c nL k n Z (pc + 1) lv (.long (x &&& y) :: st) μ) : V G p l e R s m args below meth c nL k n Z pc lv (.long y :: .long x :: st) μ := by
  intro H locs ls hP hS hl
  exact lv_land F.1 F.2.1 d (kk H locs ls hP hS hl)
theorem V_lor (F : Fx G p R s m args meth c own cc nL ret k n) {x y : Int64} (d : decode cc pc = .ok (.lor, 1)) (kk : V G p l e R s m args below meth c nL k n Z (pc + 1) lv (.long (x ||| y) :: st) μ) : V G p l e R s m args below meth c nL k n Z pc lv (.long y :: .long x :: st) μ := by
  intro H locs ls hP hS hl
  exact lv_lor F.1 F.2.1 d (kk H locs ls hP hS hl)
theorem V_lshl (F : Fx G p R s m args meth c own cc nL ret k n) {x : Int64} {y : Int32} (d : decode cc pc = .ok (.lshl, 1)) (kk : V G p l e R s m args below meth c nL k n Z (pc + 1) lv (.long (x <<< (y.toInt64 &&& 63)) :: st) μ) : V G p l e R s m args below meth c nL k n Z pc lv (.int y :: .long x :: st) μ := by
  intro H locs ls hP hS hl
  exact lv_lshl F.1 F.2.1 d rfl (kk H locs ls hP hS hl)
theorem V_lushr (F : Fx G p R s m args meth c own cc nL ret k n) {x : Int64} {y : Int32} (d : decode cc pc = .ok (.lushr, 1)) (kk : V G p l e R s m args below meth c nL k n Z (pc + 1) lv (.long ((x.toUInt64 >>> (y.toInt64.toUInt64 &&& Int64.toUInt64 63)).toInt64) :: st) μ) : V G p l e R s m args below meth c nL k n Z pc lv (.int y :: .long x :: st) μ := by
  intro H locs ls hP hS hl
  exact lv_lushr F.1 F.2.1 d rfl (kk H locs ls hP hS hl)
theorem V_lcmp (F : Fx G p R s m args meth c own cc nL ret k n) {x y : Int64} (d : decode cc pc = .ok (.lcmp, 1)) (kk : V G p l e R s m args below meth c nL k n Z (pc + 1) lv (.int (lg_cmp x y) :: st) μ) : V G p l e R s m args below meth c nL k n Z pc lv (.long y :: .long x :: st) μ := by
  intro H locs ls hP hS hl
  exact W.lcmp F.1 F.2.1 d (kk H locs ls hP hS hl)
theorem V_i2c (F : Fx G p R s m args meth c own cc nL ret k n) {x : Int32} (d : decode cc pc = .ok (.i2c, 1)) (kk : V G p l e R s m args below meth c nL k n Z (pc + 1) lv (.int (x.toUInt32 % 65536).toInt32 :: st) μ) : V G p l e R s m args below meth c nL k n Z pc lv (.int x :: st) μ := by
  intro H locs ls hP hS hl
  exact lv_i2c F.1 F.2.1 d rfl (kk H locs ls hP hS hl)
theorem V_dup (F : Fx G p R s m args meth c own cc nL ret k n) {v : Value} (d : decode cc pc = .ok (.dup, 1)) (h : v.category = 1) (kk : V G p l e R s m args below meth c nL k n Z (pc + 1) lv (v :: v :: st) μ) : V G p l e R s m args below meth c nL k n Z pc lv (v :: st) μ := by
  intro H locs ls hP hS hl
  exact lv_dup F.1 F.2.1 d h (kk H locs ls hP hS hl)
theorem V_pop (F : Fx G p R s m args meth c own cc nL ret k n) {v : Value} (d : decode cc pc = .ok (.pop, 1)) (h : v.category = 1) (kk : V G p l e R s m args below meth c nL k n Z (pc + 1) lv st μ) : V G p l e R s m args below meth c nL k n Z pc lv (v :: st) μ := by
  intro H locs ls hP hS hl
  exact lv_pop F.1 F.2.1 d h (kk H locs ls hP hS hl)
theorem V_dup2 (F : Fx G p R s m args meth c own cc nL ret k n) {v u : Value} (d : decode cc pc = .ok (.dup2, 1)) (h : v.category = 1) (h2 : u.category = 1) (kk : V G p l e R s m args below meth c nL k n Z (pc + 1) lv (v :: u :: v :: u :: st) μ) : V G p l e R s m args below meth c nL k n Z pc lv (v :: u :: st) μ := by
  intro H locs ls hP hS hl
  exact lv_dup2_11 F.1 F.2.1 d h h2 (kk H locs ls hP hS hl)
theorem V_goto (F : Fx G p R s m args meth c own cc nL ret k n) {off : Int} {tgt : Nat} (d : decode cc pc = .ok (.goto off, 3)) (ht : (pc : Int) + off = (tgt : Int)) (kk : V G p l e R s m args below meth c nL k n Z tgt lv st μ) : V G p l e R s m args below meth c nL k n Z pc lv st μ := by
  intro H locs ls hP hS hl
  exact lv_goto F.1 F.2.1 d ht (kk H locs ls hP hS hl)
theorem V_ifnull (F : Fx G p R s m args meth c own cc nL ret k n) {off : Int} {x : Nat} (d : decode cc pc = .ok (.ifnull off, 3)) (kk : V G p l e R s m args below meth c nL k n Z (pc + 3) lv st μ) : V G p l e R s m args below meth c nL k n Z pc lv (.ref x :: st) μ := by
  intro H locs ls hP hS hl
  exact lv_ifnull F.1 F.2.1 d (kk H locs ls hP hS hl)
theorem V_if_eq (F : Fx G p R s m args meth c own cc nL ret k n) {off : Int} {tgt : Nat} {x : Int32} (d : decode cc pc = .ok (.ifCond .eq off, 3)) (ht : (pc : Int) + off = (tgt : Int)) (kt : x = 0 → V G p l e R s m args below meth c nL k n Z tgt lv st μ) (kf : ¬ x = 0 → V G p l e R s m args below meth c nL k n Z (pc + 3) lv st μ) : V G p l e R s m args below meth c nL k n Z pc lv (.int x :: st) μ := by
  intro H locs ls hP hS hl
  exact lv_if_eq F.1 F.2.1 d ht (fun h => kt h H locs ls hP hS hl) (fun h => kf h H locs ls hP hS hl)
theorem V_if_eq_t (F : Fx G p R s m args meth c own cc nL ret k n) {off : Int} {tgt : Nat} {x : Int32} (d : decode cc pc = .ok (.ifCond .eq off, 3)) (ht : (pc : Int) + off = (tgt : Int)) (h0 : x = 0) (kt : V G p l e R s m args below meth c nL k n Z tgt lv st μ) : V G p l e R s m args below meth c nL k n Z pc lv (.int x :: st) μ := by
  intro H locs ls hP hS hl
  exact lv_if_eq F.1 F.2.1 d ht (fun _ => kt H locs ls hP hS hl) (fun h => absurd h0 h)
theorem V_if_eq_f (F : Fx G p R s m args meth c own cc nL ret k n) {off : Int} {tgt : Nat} {x : Int32} (d : decode cc pc = .ok (.ifCond .eq off, 3)) (ht : (pc : Int) + off = (tgt : Int)) (h0 : ¬ x = 0) (kf : V G p l e R s m args below meth c nL k n Z (pc + 3) lv st μ) : V G p l e R s m args below meth c nL k n Z pc lv (.int x :: st) μ := by
  intro H locs ls hP hS hl
  exact lv_if_eq F.1 F.2.1 d ht (fun h => absurd h h0) (fun _ => kf H locs ls hP hS hl)
theorem V_icmp_eq (F : Fx G p R s m args meth c own cc nL ret k n) {off : Int} {tgt : Nat} {x y : Int32} (d : decode cc pc = .ok (.if_icmp .eq off, 3)) (ht : (pc : Int) + off = (tgt : Int)) (kt : x = y → V G p l e R s m args below meth c nL k n Z tgt lv st μ) (kf : ¬ x = y → V G p l e R s m args below meth c nL k n Z (pc + 3) lv st μ) : V G p l e R s m args below meth c nL k n Z pc lv (.int y :: .int x :: st) μ := by
  intro H locs ls hP hS hl
  exact lv_icmp_eq F.1 F.2.1 d ht (fun h => kt h H locs ls hP hS hl) (fun h => kf h H locs ls hP hS hl)
theorem V_icmp_eq_t (F : Fx G p R s m args meth c own cc nL ret k n) {off : Int} {tgt : Nat} {x y : Int32} (d : decode cc pc = .ok (.if_icmp .eq off, 3)) (ht : (pc : Int) + off = (tgt : Int)) (h0 : x = y) (kt : V G p l e R s m args below meth c nL k n Z tgt lv st μ) : V G p l e R s m args below meth c nL k n Z pc lv (.int y :: .int x :: st) μ := by
  intro H locs ls hP hS hl
  exact lv_icmp_eq F.1 F.2.1 d ht (fun _ => kt H locs ls hP hS hl) (fun h => absurd h0 h)
theorem V_icmp_eq_f (F : Fx G p R s m args meth c own cc nL ret k n) {off : Int} {tgt : Nat} {x y : Int32} (d : decode cc pc = .ok (.if_icmp .eq off, 3)) (ht : (pc : Int) + off = (tgt : Int)) (h0 : ¬ x = y) (kf : V G p l e R s m args below meth c nL k n Z (pc + 3) lv st μ) : V G p l e R s m args below meth c nL k n Z pc lv (.int y :: .int x :: st) μ := by
  intro H locs ls hP hS hl
  exact lv_icmp_eq F.1 F.2.1 d ht (fun h => absurd h h0) (fun _ => kf H locs ls hP hS hl)
theorem V_if_ne (F : Fx G p R s m args meth c own cc nL ret k n) {off : Int} {tgt : Nat} {x : Int32} (d : decode cc pc = .ok (.ifCond .ne off, 3)) (ht : (pc : Int) + off = (tgt : Int)) (kt : ¬ x = 0 → V G p l e R s m args below meth c nL k n Z tgt lv st μ) (kf : x = 0 → V G p l e R s m args below meth c nL k n Z (pc + 3) lv st μ) : V G p l e R s m args below meth c nL k n Z pc lv (.int x :: st) μ := by
  intro H locs ls hP hS hl
  exact lv_if_ne F.1 F.2.1 d ht (fun h => kt h H locs ls hP hS hl) (fun h => kf h H locs ls hP hS hl)
theorem V_if_ne_t (F : Fx G p R s m args meth c own cc nL ret k n) {off : Int} {tgt : Nat} {x : Int32} (d : decode cc pc = .ok (.ifCond .ne off, 3)) (ht : (pc : Int) + off = (tgt : Int)) (h0 : ¬ x = 0) (kt : V G p l e R s m args below meth c nL k n Z tgt lv st μ) : V G p l e R s m args below meth c nL k n Z pc lv (.int x :: st) μ := by
  intro H locs ls hP hS hl
  exact lv_if_ne F.1 F.2.1 d ht (fun _ => kt H locs ls hP hS hl) (fun h => absurd h h0)
theorem V_if_ne_f (F : Fx G p R s m args meth c own cc nL ret k n) {off : Int} {tgt : Nat} {x : Int32} (d : decode cc pc = .ok (.ifCond .ne off, 3)) (ht : (pc : Int) + off = (tgt : Int)) (h0 : x = 0) (kf : V G p l e R s m args below meth c nL k n Z (pc + 3) lv st μ) : V G p l e R s m args below meth c nL k n Z pc lv (.int x :: st) μ := by
  intro H locs ls hP hS hl
  exact lv_if_ne F.1 F.2.1 d ht (fun h => absurd h0 h) (fun _ => kf H locs ls hP hS hl)
theorem V_icmp_ne (F : Fx G p R s m args meth c own cc nL ret k n) {off : Int} {tgt : Nat} {x y : Int32} (d : decode cc pc = .ok (.if_icmp .ne off, 3)) (ht : (pc : Int) + off = (tgt : Int)) (kt : ¬ x = y → V G p l e R s m args below meth c nL k n Z tgt lv st μ) (kf : x = y → V G p l e R s m args below meth c nL k n Z (pc + 3) lv st μ) : V G p l e R s m args below meth c nL k n Z pc lv (.int y :: .int x :: st) μ := by
  intro H locs ls hP hS hl
  exact lv_icmp_ne F.1 F.2.1 d ht (fun h => kt h H locs ls hP hS hl) (fun h => kf h H locs ls hP hS hl)
theorem V_icmp_ne_t (F : Fx G p R s m args meth c own cc nL ret k n) {off : Int} {tgt : Nat} {x y : Int32} (d : decode cc pc = .ok (.if_icmp .ne off, 3)) (ht : (pc : Int) + off = (tgt : Int)) (h0 : ¬ x = y) (kt : V G p l e R s m args below meth c nL k n Z tgt lv st μ) : V G p l e R s m args below meth c nL k n Z pc lv (.int y :: .int x :: st) μ := by
  intro H locs ls hP hS hl
  exact lv_icmp_ne F.1 F.2.1 d ht (fun _ => kt H locs ls hP hS hl) (fun h => absurd h h0)
theorem V_icmp_ne_f (F : Fx G p R s m args meth c own cc nL ret k n) {off : Int} {tgt : Nat} {x y : Int32} (d : decode cc pc = .ok (.if_icmp .ne off, 3)) (ht : (pc : Int) + off = (tgt : Int)) (h0 : x = y) (kf : V G p l e R s m args below meth c nL k n Z (pc + 3) lv st μ) : V G p l e R s m args below meth c nL k n Z pc lv (.int y :: .int x :: st) μ := by
  intro H locs ls hP hS hl
  exact lv_icmp_ne F.1 F.2.1 d ht (fun h => absurd h0 h) (fun _ => kf H locs ls hP hS hl)
theorem V_if_lt (F : Fx G p R s m args meth c own cc nL ret k n) {off : Int} {tgt : Nat} {x : Int32} (d : decode cc pc = .ok (.ifCond .lt off, 3)) (ht : (pc : Int) + off = (tgt : Int)) (kt : x < 0 → V G p l e R s m args below meth c nL k n Z tgt lv st μ) (kf : ¬ x < 0 → V G p l e R s m args below meth c nL k n Z (pc + 3) lv st μ) : V G p l e R s m args below meth c nL k n Z pc lv (.int x :: st) μ := by
  intro H locs ls hP hS hl
  exact lv_if_lt F.1 F.2.1 d ht (fun h => kt h H locs ls hP hS hl) (fun h => kf h H locs ls hP hS hl)
theorem V_if_lt_t (F : Fx G p R s m args meth c own cc nL ret k n) {off : Int} {tgt : Nat} {x : Int32} (d : decode cc pc = .ok (.ifCond .lt off, 3)) (ht : (pc : Int) + off = (tgt : Int)) (h0 : x < 0) (kt : V G p l e R s m args below meth c nL k n Z tgt lv st μ) : V G p l e R s m args below meth c nL k n Z pc lv (.int x :: st) μ := by
  intro H locs ls hP hS hl
  exact lv_if_lt F.1 F.2.1 d ht (fun _ => kt H locs ls hP hS hl) (fun h => absurd h0 h)
theorem V_if_lt_f (F : Fx G p R s m args meth c own cc nL ret k n) {off : Int} {tgt : Nat} {x : Int32} (d : decode cc pc = .ok (.ifCond .lt off, 3)) (ht : (pc : Int) + off = (tgt : Int)) (h0 : ¬ x < 0) (kf : V G p l e R s m args below meth c nL k n Z (pc + 3) lv st μ) : V G p l e R s m args below meth c nL k n Z pc lv (.int x :: st) μ := by
  intro H locs ls hP hS hl
  exact lv_if_lt F.1 F.2.1 d ht (fun h => absurd h h0) (fun _ => kf H locs ls hP hS hl)
theorem V_icmp_lt (F : Fx G p R s m args meth c own cc nL ret k n) {off : Int} {tgt : Nat} {x y : Int32} (d : decode cc pc = .ok (.if_icmp .lt off, 3)) (ht : (pc : Int) + off = (tgt : Int)) (kt : x < y → V G p l e R s m args below meth c nL k n Z tgt lv st μ) (kf : ¬ x < y → V G p l e R s m args below meth c nL k n Z (pc + 3) lv st μ) : V G p l e R s m args below meth c nL k n Z pc lv (.int y :: .int x :: st) μ := by
  intro H locs ls hP hS hl
  exact lv_icmp_lt F.1 F.2.1 d ht (fun h => kt h H locs ls hP hS hl) (fun h => kf h H locs ls hP hS hl)
theorem V_icmp_lt_t (F : Fx G p R s m args meth c own cc nL ret k n) {off : Int} {tgt : Nat} {x y : Int32} (d : decode cc pc = .ok (.if_icmp .lt off, 3)) (ht : (pc : Int) + off = (tgt : Int)) (h0 : x < y) (kt : V G p l e R s m args below meth c nL k n Z tgt lv st μ) : V G p l e R s m args below meth c nL k n Z pc lv (.int y :: .int x :: st) μ := by
  intro H locs ls hP hS hl
  exact lv_icmp_lt F.1 F.2.1 d ht (fun _ => kt H locs ls hP hS hl) (fun h => absurd h0 h)
theorem V_icmp_lt_f (F : Fx G p R s m args meth c own cc nL ret k n) {off : Int} {tgt : Nat} {x y : Int32} (d : decode cc pc = .ok (.if_icmp .lt off, 3)) (ht : (pc : Int) + off = (tgt : Int)) (h0 : ¬ x < y) (kf : V G p l e R s m args below meth c nL k n Z (pc + 3) lv st μ) : V G p l e R s m args below meth c nL k n Z pc lv (.int y :: .int x :: st) μ := by
  intro H locs ls hP hS hl
  exact lv_icmp_lt F.1 F.2.1 d ht (fun h => absurd h h0) (fun _ => kf H locs ls hP hS hl)
theorem V_if_ge (F : Fx G p R s m args meth c own cc nL ret k n) {off : Int} {tgt : Nat} {x : Int32} (d : decode cc pc = .ok (.ifCond .ge off, 3)) (ht : (pc : Int) + off = (tgt : Int)) (kt : 0 ≤ x → V G p l e R s m args below meth c nL k n Z tgt lv st μ) (kf : ¬ 0 ≤ x → V G p l e R s m args below meth c nL k n Z (pc + 3) lv st μ) : V G p l e R s m args below meth c nL k n Z pc lv (.int x :: st) μ := by
  intro H locs ls hP hS hl
  exact lv_if_ge F.1 F.2.1 d ht (fun h => kt h H locs ls hP hS hl) (fun h => kf h H locs ls hP hS hl)
theorem V_if_ge_t (F : Fx G p R s m args meth c own cc nL ret k n) {off : Int} {tgt : Nat} {x : Int32} (d : decode cc pc = .ok (.ifCond .ge off, 3)) (ht : (pc : Int) + off = (tgt : Int)) (h0 : 0 ≤ x) (kt : V G p l e R s m args below meth c nL k n Z tgt lv st μ) : V G p l e R s m args below meth c nL k n Z pc lv (.int x :: st) μ := by
  intro H locs ls hP hS hl
  exact lv_if_ge F.1 F.2.1 d ht (fun _ => kt H locs ls hP hS hl) (fun h => absurd h0 h)
theorem V_if_ge_f (F : Fx G p R s m args meth c own cc nL ret k n) {off : Int} {tgt : Nat} {x : Int32} (d : decode cc pc = .ok (.ifCond .ge off, 3)) (ht : (pc : Int) + off = (tgt : Int)) (h0 : ¬ 0 ≤ x) (kf : V G p l e R s m args below meth c nL k n Z (pc + 3) lv st μ) : V G p l e R s m args below meth c nL k n Z pc lv (.int x :: st) μ := by
  intro H locs ls hP hS hl
  exact lv_if_ge F.1 F.2.1 d ht (fun h => absurd h h0) (fun _ => kf H locs ls hP hS hl)
theorem V_icmp_ge (F : Fx G p R s m args meth c own cc nL ret k n) {off : Int} {tgt : Nat} {x y : Int32} (d : decode cc pc = .ok (.if_icmp .ge off, 3)) (ht : (pc : Int) + off = (tgt : Int)) (kt : y ≤ x → V G p l e R s m args below meth c nL k n Z tgt lv st μ) (kf : ¬ y ≤ x → V G p l e R s m args below meth c nL k n Z (pc + 3) lv st μ) : V G p l e R s m args below meth c nL k n Z pc lv (.int y :: .int x :: st) μ := by
  intro H locs ls hP hS hl
  exact lv_icmp_ge F.1 F.2.1 d ht (fun h => kt h H locs ls hP hS hl) (fun h => kf h H locs ls hP hS hl)
theorem V_icmp_ge_t (F : Fx G p R s m args meth c own cc nL ret k n) {off : Int} {tgt : Nat} {x y : Int32} (d : decode cc pc = .ok (.if_icmp .ge off, 3)) (ht : (pc : Int) + off = (tgt : Int)) (h0 : y ≤ x) (kt : V G p l e R s m args below meth c nL k n Z tgt lv st μ) : V G p l e R s m args below meth c nL k n Z pc lv (.int y :: .int x :: st) μ := by
  intro H locs ls hP hS hl
  exact lv_icmp_ge F.1 F.2.1 d ht (fun _ => kt H locs ls hP hS hl) (fun h => absurd h0 h)
theorem V_icmp_ge_f (F : Fx G p R s m args meth c own cc nL ret k n) {off : Int} {tgt : Nat} {x y : Int32} (d : decode cc pc = .ok (.if_icmp .ge off, 3)) (ht : (pc : Int) + off = (tgt : Int)) (h0 : ¬ y ≤ x) (kf : V G p l e R s m args below meth c nL k n Z (pc + 3) lv st μ) : V G p l e R s m args below meth c nL k n Z pc lv (.int y :: .int x :: st) μ := by
  intro H locs ls hP hS hl
  exact lv_icmp_ge F.1 F.2.1 d ht (fun h => absurd h h0) (fun _ => kf H locs ls hP hS hl)
theorem V_if_gt (F : Fx G p R s m args meth c own cc nL ret k n) {off : Int} {tgt : Nat} {x : Int32} (d : decode cc pc = .ok (.ifCond .gt off, 3)) (ht : (pc : Int) + off = (tgt : Int)) (kt : 0 < x → V G p l e R s m args below meth c nL k n Z tgt lv st μ) (kf : ¬ 0 < x → V G p l e R s m args below meth c nL k n Z (pc + 3) lv st μ) : V G p l e R s m args below meth c nL k n Z pc lv (.int x :: st) μ := by
  intro H locs ls hP hS hl
  exact lv_if_gt F.1 F.2.1 d ht (fun h => kt h H locs ls hP hS hl) (fun h => kf h H locs ls hP hS hl)
theorem V_if_gt_t (F : Fx G p R s m args meth c own cc nL ret k n) {off : Int} {tgt : Nat} {x : Int32} (d : decode cc pc = .ok (.ifCond .gt off, 3)) (ht : (pc : Int) + off = (tgt : Int)) (h0 : 0 < x) (kt : V G p l e R s m args below meth c nL k n Z tgt lv st μ) : V G p l e R s m args below meth c nL k n Z pc lv (.int x :: st) μ := by
  intro H locs ls hP hS hl
  exact lv_if_gt F.1 F.2.1 d ht (fun _ => kt H locs ls hP hS hl) (fun h => absurd h0 h)
theorem V_if_gt_f (F : Fx G p R s m args meth c own cc nL ret k n) {off : Int} {tgt : Nat} {x : Int32} (d : decode cc pc = .ok (.ifCond .gt off, 3)) (ht : (pc : Int) + off = (tgt : Int)) (h0 : ¬ 0 < x) (kf : V G p l e R s m args below meth c nL k n Z (pc + 3) lv st μ) : V G p l e R s m args below meth c nL k n Z pc lv (.int x :: st) μ := by
  intro H locs ls hP hS hl
  exact lv_if_gt F.1 F.2.1 d ht (fun h => absurd h h0) (fun _ => kf H locs ls hP hS hl)
theorem V_icmp_gt (F : Fx G p R s m args meth c own cc nL ret k n) {off : Int} {tgt : Nat} {x y : Int32} (d : decode cc pc = .ok (.if_icmp .gt off, 3)) (ht : (pc : Int) + off = (tgt : Int)) (kt : y < x → V G p l e R s m args below meth c nL k n Z tgt lv st μ) (kf : ¬ y < x → V G p l e R s m args below meth c nL k n Z (pc + 3) lv st μ) : V G p l e R s m args below meth c nL k n Z pc lv (.int y :: .int x :: st) μ := by
  intro H locs ls hP hS hl
  exact lv_icmp_gt F.1 F.2.1 d ht (fun h => kt h H locs ls hP hS hl) (fun h => kf h H locs ls hP hS hl)
theorem V_icmp_gt_t (F : Fx G p R s m args meth c own cc nL ret k n) {off : Int} {tgt : Nat} {x y : Int32} (d : decode cc pc = .ok (.if_icmp .gt off, 3)) (ht : (pc : Int) + off = (tgt : Int)) (h0 : y < x) (kt : V G p l e R s m args below meth c nL k n Z tgt lv st μ) : V G p l e R s m args below meth c nL k n Z pc lv (.int y :: .int x :: st) μ := by
  intro H locs ls hP hS hl
  exact lv_icmp_gt F.1 F.2.1 d ht (fun _ => kt H locs ls hP hS hl) (fun h => absurd h0 h)
theorem V_icmp_gt_f (F : Fx G p R s m args meth c own cc nL ret k n) {off : Int} {tgt : Nat} {x y : Int32} (d : decode cc pc = .ok (.if_icmp .gt off, 3)) (ht : (pc : Int) + off = (tgt : Int)) (h0 : ¬ y < x) (kf : V G p l e R s m args below meth c nL k n Z (pc + 3) lv st μ) : V G p l e R s m args below meth c nL k n Z pc lv (.int y :: .int x :: st) μ := by
  intro H locs ls hP hS hl
  exact lv_icmp_gt F.1 F.2.1 d ht (fun h => absurd h h0) (fun _ => kf H locs ls hP hS hl)
theorem V_if_le (F : Fx G p R s m args meth c own cc nL ret k n) {off : Int} {tgt : Nat} {x : Int32} (d : decode cc pc = .ok (.ifCond .le off, 3)) (ht : (pc : Int) + off = (tgt : Int)) (kt : x ≤ 0 → V G p l e R s m args below meth c nL k n Z tgt lv st μ) (kf : ¬ x ≤ 0 → V G p l e R s m args below meth c nL k n Z (pc + 3) lv st μ) : V G p l e R s m args below meth c nL k n Z pc lv (.int x :: st) μ := by
  intro H locs ls hP hS hl
  exact lv_if_le F.1 F.2.1 d ht (fun h => kt h H locs ls hP hS hl) (fun h => kf h H locs ls hP hS hl)
theorem V_if_le_t (F : Fx G p R s m args meth c own cc nL ret k n) {off : Int} {tgt : Nat} {x : Int32} (d : decode cc pc = .ok (.ifCond .le off, 3)) (ht : (pc : Int) + off = (tgt : Int)) (h0 : x ≤ 0) (kt : V G p l e R s m args below meth c nL k n Z tgt lv st μ) : V G p l e R s m args below meth c nL k n Z pc lv (.int x :: st) μ := by
  intro H locs ls hP hS hl
  exact lv_if_le F.1 F.2.1 d ht (fun _ => kt H locs ls hP hS hl) (fun h => absurd h0 h)
theorem V_if_le_f (F : Fx G p R s m args meth c own cc nL ret k n) {off : Int} {tgt : Nat} {x : Int32} (d : decode cc pc = .ok (.ifCond .le off, 3)) (ht : (pc : Int) + off = (tgt : Int)) (h0 : ¬ x ≤ 0) (kf : V G p l e R s m args below meth c nL k n Z (pc + 3) lv st μ) : V G p l e R s m args below meth c nL k n Z pc lv (.int x :: st) μ := by
  intro H locs ls hP hS hl
  exact lv_if_le F.1 F.2.1 d ht (fun h => absurd h h0) (fun _ => kf H locs ls hP hS hl)
theorem V_icmp_le (F : Fx G p R s m args meth c own cc nL ret k n) {off : Int} {tgt : Nat} {x y : Int32} (d : decode cc pc = .ok (.if_icmp .le off, 3)) (ht : (pc : Int) + off = (tgt : Int)) (kt : x ≤ y → V G p l e R s m args below meth c nL k n Z tgt lv st μ) (kf : ¬ x ≤ y → V G p l e R s m args below meth c nL k n Z (pc + 3) lv st μ) : V G p l e R s m args below meth c nL k n Z pc lv (.int y :: .int x :: st) μ := by
  intro H locs ls hP hS hl
  exact lv_icmp_le F.1 F.2.1 d ht (fun h => kt h H locs ls hP hS hl) (fun h => kf h H locs ls hP hS hl)
theorem V_icmp_le_t (F : Fx G p R s m args meth c own cc nL ret k n) {off : Int} {tgt : Nat} {x y : Int32} (d : decode cc pc = .ok (.if_icmp .le off, 3)) (ht : (pc : Int) + off = (tgt : Int)) (h0 : x ≤ y) (kt : V G p l e R s m args below meth c nL k n Z tgt lv st μ) : V G p l e R s m args below meth c nL k n Z pc lv (.int y :: .int x :: st) μ := by
  intro H locs ls hP hS hl
  exact lv_icmp_le F.1 F.2.1 d ht (fun _ => kt H locs ls hP hS hl) (fun h => absurd h0 h)
theorem V_icmp_le_f (F : Fx G p R s m args meth c own cc nL ret k n) {off : Int} {tgt : Nat} {x y : Int32} (d : decode cc pc = .ok (.if_icmp .le off, 3)) (ht : (pc : Int) + off = (tgt : Int)) (h0 : ¬ x ≤ y) (kf : V G p l e R s m args below meth c nL k n Z (pc + 3) lv st μ) : V G p l e R s m args below meth c nL k n Z pc lv (.int y :: .int x :: st) μ := by
  intro H locs ls hP hS hl
  exact lv_icmp_le F.1 F.2.1 d ht (fun h => absurd h h0) (fun _ => kf H locs ls hP hS hl)
theorem V_tableIn (F : Fx G p R s m args meth c own cc nL ret k n) {dflt lo hi : Int} {offs : Array Int} {len : Nat} {x : Int32} {off : Int} {tgt : Nat} (d : decode cc pc = .ok (.tableswitch dflt lo hi offs, len)) (h1 : ¬ x.toInt < lo) (h2 : ¬ hi < x.toInt) (ho : offs[(x.toInt - lo).toNat]? = some off) (ht : (pc : Int) + off = (tgt : Int)) (kk : V G p l e R s m args below meth c nL k n Z tgt lv st μ) : V G p l e R s m args below meth c nL k n Z pc lv (.int x :: st) μ := by
  intro H locs ls hP hS hl
  exact lv_tableIn F.1 F.2.1 d h1 h2 ho ht (kk H locs ls hP hS hl)
theorem V_tableOut (F : Fx G p R s m args meth c own cc nL ret k n) {dflt lo hi : Int} {offs : Array Int} {len : Nat} {x : Int32} {tgt : Nat} (d : decode cc pc = .ok (.tableswitch dflt lo hi offs, len)) (h : x.toInt < lo ∨ hi < x.toInt) (ht : (pc : Int) + dflt = (tgt : Int)) (kk : V G p l e R s m args below meth c nL k n Z tgt lv st μ) : V G p l e R s m args below meth c nL k n Z pc lv (.int x :: st) μ := by
  intro H locs ls hP hS hl
  exact lv_tableOut F.1 F.2.1 d h ht (kk H locs ls hP hS hl)
theorem V_alen (F : Fx G p R s m args meth c own cc nL ret k n) {a q0 : Nat} {cA : ClassId} {x : vp_A} {ty : FieldType} {v : Int32} (d : decode cc pc = .ok (.arraylength, 1)) (t0 : Nat) (ha : (gW G μ)[q0]? = some (a, .inl (cA, x))) (ht : (gT G)[t0]? = some (cA, ty)) (hv : Int32.ofNat x.1 = v) (kk : V G p l e R s m args below meth c nL k n Z (pc + 1) lv (.int v :: st) μ) : V G p l e R s m args below meth c nL k n Z pc lv (.ref a :: st) μ := by
  intro H locs ls hP hS hl
  exact va_alen F.1 F.2.1 F.2.2.2.2.2.2.2.1.1 hP q0 t0 ha ht hv d (kk H locs ls hP hS hl)
theorem V_iald (F : Fx G p R s m args meth c own cc nL ret k n) {a q0 z : Nat} {f : Nat → Int32} {i : Int32} (d : decode cc pc = .ok (.iaload, 1)) (ha : (gW G μ)[q0]? = some (a, .inl (G.2.2.2.1.1, z, .inl f))) (hin : vp_in i z) (kk : V G p l e R s m args below meth c nL k n Z (pc + 1) lv (.int (f i.toNatClampNeg) :: st) μ) : V G p l e R s m args below meth c nL k n Z pc lv (.int i :: .ref a :: st) μ := by
  intro H locs ls hP hS hl
  exact va_iald F.1 F.2.1 F.2.2.2.2.2.2.2.1.1 hP q0 0 ha rfl hin d (kk H locs ls hP hS hl)
theorem V_lald (F : Fx G p R s m args meth c own cc nL ret k n) {a q0 z : Nat} {f : Nat → Int64} {i : Int32} (d : decode cc pc = .ok (.laload, 1)) (ha : (gW G μ)[q0]? = some (a, .inl (G.2.2.2.1.2, z, .inr (.inl f)))) (hin : vp_in i z) (kk : V G p l e R s m args below meth c nL k n Z (pc + 1) lv (.long (f i.toNatClampNeg) :: st) μ) : V G p l e R s m args below meth c nL k n Z pc lv (.int i :: .ref a :: st) μ := by
  intro H locs ls hP hS hl
  exact va_lald F.1 F.2.1 F.2.2.2.2.2.2.2.1.1 hP q0 1 ha rfl hin d (kk H locs ls hP hS hl)
theorem V_iast (F : Fx G p R s m args meth c own cc nL ret k n) {a q0 z : Nat} {f : Nat → Int32} {i x : Int32} {μ' : Mem} (d : decode cc pc = .ok (.iastore, 1)) (ha : (gW G μ)[q0]? = some (a, .inl (G.2.2.2.1.1, z, .inl f))) (hin : vp_in i z) (hm : (gW G μ).set q0 (a, .inl (G.2.2.2.1.1, z, .inl (upd f i.toNatClampNeg x))) = gW G μ') (kk : V G p l e R s m args below meth c nL k n Z (pc + 1) lv st μ') : V G p l e R s m args below meth c nL k n Z pc lv (.int x :: .int i :: .ref a :: st) μ := by
  intro H locs ls hP hS hl
  exact va_iast F.1 F.2.1 F.2.2.2.2.2.2.2.1.1 hP (F.2.2.2.2.2.2.2.1.2.1 μ) hS q0 0 ha rfl hin d (fun H1 locs1 hP1 _ hS1 => kk H1 locs1 ls (hm ▸ hP1) hS1 hl)
theorem V_last (F : Fx G p R s m args meth c own cc nL ret k n) {a q0 z : Nat} {f : Nat → Int64} {i : Int32} {x : Int64} {μ' : Mem} (d : decode cc pc = .ok (.lastore, 1)) (ha : (gW G μ)[q0]? = some (a, .inl (G.2.2.2.1.2, z, .inr (.inl f)))) (hin : vp_in i z) (hm : (gW G μ).set q0 (a, .inl (G.2.2.2.1.2, z, .inr (.inl (vp_updL f i.toNatClampNeg x)))) = gW G μ') (kk : V G p l e R s m args below meth c nL k n Z (pc + 1) lv st μ') : V G p l e R s m args below meth c nL k n Z pc lv (.long x :: .int i :: .ref a :: st) μ := by
  intro H locs ls hP hS hl
  exact va_last F.1 F.2.1 F.2.2.2.2.2.2.2.1.1 hP (F.2.2.2.2.2.2.2.1.2.1 μ) hS q0 1 ha rfl hin d (fun H1 locs1 hP1 _ hS1 => kk H1 locs1 ls (hm ▸ hP1) hS1 hl)
theorem V_getf (F : Fx G p R s m args meth c own cc nL ret k n) {C : String} {T : u_T} {N ci index a : Nat} {fs : List Value} {v : Value} (q0 j : Nat) (hlink : Cond.fieldLink own index C (T j).2.1 (T j).2.2.1 ∈ wsG) (d : decode cc pc = .ok (.getfield index, 3)) (hin : ∀ w ∈ u_ws C T N, w ∈ wsG) (he : (gW G μ)[q0]? = some (a, .inr (ci, fs))) (hc : vwCl[ci]? = some (C, T, N)) (hj : j < N) (hT : (T j).1 = C) (hv : fs[j]? = some v) (kk : V G p l e R s m args below meth c nL k n Z (pc + 3) lv (v :: st) μ) : V G p l e R s m args below meth c nL k n Z pc lv (.ref a :: st) μ := by
  intro H locs ls hP hS hl
  exact va_get F.1 F.2.1 F.2.2.2.2.2.2.1 hin F.2.2.2.2.2.1 F.2.2.2.2.2.2.2.1.1 hP q0 he hc j hj (F.2.2.2.2.2.2.1 _ hlink) (fun x h => by rw [hT] at h; exact h) hv d (kk H locs ls hP hS hl)
theorem V_getN (F : Fx G p R s m args meth c own cc nL ret k n) {C : String} {T : u_T} {N ci index a : Nat} {fs : List Value} {v : Value} (q0 j : Nat) {host : String} (hlink : Cond.fieldLinkNest own index C (T j).2.1 (T j).2.2.1 host ∈ nestW) (d : decode cc pc = .ok (.getfield index, 3)) (hin : ∀ w ∈ u_ws C T N, w ∈ wsG) (he : (gW G μ)[q0]? = some (a, .inr (ci, fs))) (hc : vwCl[ci]? = some (C, T, N)) (hj : j < N) (hT : (T j).1 = C) (hv : fs[j]? = some v) (kk : V G p l e R s m args below meth c nL k n Z (pc + 3) lv (v :: st) μ) : V G p l e R s m args below meth c nL k n Z pc lv (.ref a :: st) μ := by
  intro H locs ls hP hS hl
  exact va_getN F.1 F.2.1 F.2.2.2.2.2.2.1 hin F.2.2.2.2.2.1 F.2.2.2.2.2.2.2.1.1 hP q0 he hc j hj (va_Nw.use (nestW_tab (nestW_ok hlink)) (F.2.2.2.2.2.2.2.1.2.2.1 _ hlink)) (fun x h => by rw [hT] at h; exact h) hv d (kk H locs ls hP hS hl)
theorem V_putf (F : Fx G p R s m args meth c own cc nL ret k n) {C : String} {T : u_T} {N ci index a : Nat} {fs : List Value} {x : Int32} {μ' : Mem} (q0 j : Nat) (hlink : Cond.fieldLink own index C (T j).2.1 (T j).2.2.1 ∈ wsG) (d : decode cc pc = .ok (.putfield index, 3)) (hin : ∀ w ∈ u_ws C T N, w ∈ wsG) (ty0 : Nat → FieldType) (hty : ∀ k, k < N → parseFieldDescriptor (T k).2.2.1 = some (ty0 k)) (hnm : ∀ a, a < N → ∀ b, b < N → a ≠ b → (T a).2.1 ≠ (T b).2.1) (he : (gW G μ)[q0]? = some (a, .inr (ci, fs))) (hc : vwCl[ci]? = some (C, T, N)) (hj : j < N) (hT : (T j).1 = C) (hfin : (T j).2.2.2 = false) (hd : parseFieldDescriptor (T j).2.2.1 = some .int) (hl0 : j < fs.length) (hm : (gW G μ).set q0 (a, .inr (ci, fs.set j (.int x))) = gW G μ') (kk : V G p l e R s m args below meth c nL k n Z (pc + 3) lv st μ') : V G p l e R s m args below meth c nL k n Z pc lv (.int x :: .ref a :: st) μ := by
  intro H locs ls hP hS hl
  exact va_put F.1 F.2.1 F.2.2.2.2.2.2.1 hin ty0 hty hnm F.2.2.2.2.2.1 F.2.2.2.2.2.2.2.1.1 hP (F.2.2.2.2.2.2.2.1.2.1 μ) hS q0 he hc j hj (F.2.2.2.2.2.2.1 _ hlink) (fun x h => by rw [hT] at h; exact h) hfin hd rfl rfl hl0 d (fun H1 locs1 hP1 _ hS1 => kk H1 locs1 ls (hm ▸ hP1) hS1 hl)
theorem V_putN (F : Fx G p R s m args meth c own cc nL ret k n) {C : String} {T : u_T} {N ci index a : Nat} {fs : List Value} {x : Int32} {μ' : Mem} (q0 j : Nat) {host : String} (hlink : Cond.fieldLinkNest own index C (T j).2.1 (T j).2.2.1 host ∈ nestW) (d : decode cc pc = .ok (.putfield index, 3)) (hin : ∀ w ∈ u_ws C T N, w ∈ wsG) (ty0 : Nat → FieldType) (hty : ∀ k, k < N → parseFieldDescriptor (T k).2.2.1 = some (ty0 k)) (hnm : ∀ a, a < N → ∀ b, b < N → a ≠ b → (T a).2.1 ≠ (T b).2.1) (he : (gW G μ)[q0]? = some (a, .inr (ci, fs))) (hc : vwCl[ci]? = some (C, T, N)) (hj : j < N) (hT : (T j).1 = C) (hfin : (T j).2.2.2 = false) (hd : parseFieldDescriptor (T j).2.2.1 = some .int) (hl0 : j < fs.length) (hm : (gW G μ).set q0 (a, .inr (ci, fs.set j (.int x))) = gW G μ') (kk : V G p l e R s m args below meth c nL k n Z (pc + 3) lv st μ') : V G p l e R s m args below meth c nL k n Z pc lv (.int x :: .ref a :: st) μ := by
  intro H locs ls hP hS hl
  exact va_putN F.1 F.2.1 F.2.2.2.2.2.2.1 hin ty0 hty hnm F.2.2.2.2.2.1 F.2.2.2.2.2.2.2.1.1 hP (F.2.2.2.2.2.2.2.1.2.1 μ) hS q0 he hc j hj (va_Nw.use (nestW_tab (nestW_ok hlink)) (F.2.2.2.2.2.2.2.1.2.2.1 _ hlink)) (fun x h => by rw [hT] at h; exact h) hfin hd rfl rfl hl0 d (fun H1 locs1 hP1 _ hS1 => kk H1 locs1 ls (hm ▸ hP1) hS1 hl)
variable {Q : Option Value → Mem → Prop}
theorem V_iret (F : Fx G p R s m args meth c own cc nL (some .int) 0 0) {v : Int32} (d : decode cc pc = .ok (.ireturn, 1)) (hq : Q (some (.int v)) μ) : V G p l e R s m args below meth c nL 0 0 (MQ below (Qp G Q) args s 0 0 (gA G)) pc lv [.int v] μ := by
  intro H locs ls hP hS hl
  exact W.iret F.1 F.2.1 F.2.2.1 (fun t ht hW => ⟨⟨_, μ, rfl, hq, by rw [ht]; exact hP⟩, hS.F ht⟩) hS.2.2 d F.2.2.2.1
theorem V_zret (F : Fx G p R s m args meth c own cc nL (some .boolean) 0 0) {v : Int32} (d : decode cc pc = .ok (.ireturn, 1)) (hv : narrow .boolean (.int v) = .int v) (hq : Q (some (.int v)) μ) : V G p l e R s m args below meth c nL 0 0 (MQ below (Qp G Q) args s 0 0 (gA G)) pc lv [.int v] μ := by
  intro H locs ls hP hS hl
  exact W.zret F.1 F.2.1 F.2.2.1 hv (fun t ht hW => ⟨⟨_, μ, rfl, hq, by rw [ht]; exact hP⟩, hS.F ht⟩) hS.2.2 d F.2.2.2.1
theorem V_xret {ty : FieldType} (F : Fx G p R s m args meth c own cc nL (some ty) 0 0) {v : Int32} (d : decode cc pc = .ok (.ireturn, 1)) (hv : narrow ty (.int v) = .int v) (hq : Q (some (.int v)) μ) : V G p l e R s m args below meth c nL 0 0 (MQ below (Qp G Q) args s 0 0 (gA G)) pc lv [.int v] μ := by
  intro H locs ls hP hS hl
  exact W.zret F.1 F.2.1 F.2.2.1 hv (fun t ht hW => ⟨⟨_, μ, rfl, hq, by rw [ht]; exact hP⟩, hS.F ht⟩) hS.2.2 d F.2.2.2.1
theorem V_lret (F : Fx G p R s m args meth c own cc nL (some .long) 0 0) {v : Int64} (d : decode cc pc = .ok (.lreturn, 1)) (hq : Q (some (.long v)) μ) : V G p l e R s m args below meth c nL 0 0 (MQ below (Qp G Q) args s 0 0 (gA G)) pc lv [.long v] μ := by
  intro H locs ls hP hS hl
  exact W.lret F.1 F.2.1 F.2.2.1 (fun t ht hW => ⟨⟨_, μ, rfl, hq, by rw [ht]; exact hP⟩, hS.F ht⟩) hS.2.2 d F.2.2.2.1
theorem V_vret (F : Fx G p R s m args meth c own cc nL none 0 0) (d : decode cc pc = .ok (.return_, 1)) (hq : Q none μ) : V G p l e R s m args below meth c nL 0 0 (MQ below (Qp G Q) args s 0 0 (gA G)) pc lv [] μ := by
  intro H locs ls hP hS hl
  exact W.vret F.1 F.2.1 F.2.2.1 (fun t ht hW => ⟨⟨_, μ, rfl, hq, by rw [ht]; exact hP⟩, hS.F ht⟩) hS.2.2 d F.2.2.2.1
theorem V_aret {nm : String} (F : Fx G p R s m args meth c own cc nL (some (.object nm)) 0 0) {a : Nat} (d : decode cc pc = .ok (.areturn, 1)) (hq : Q (some (.ref a)) μ) : V G p l e R s m args below meth c nL 0 0 (MQ below (Qp G Q) args s 0 0 (gA G)) pc lv [.ref a] μ := by
  intro H locs ls hP hS hl
  exact W.aret F.1 F.2.1 F.2.2.1 (Or.inl ⟨_, rfl⟩) (Or.inr ⟨_, rfl⟩) (fun t ht hW => ⟨⟨_, μ, rfl, hq, by rw [ht]; exact hP⟩, hS.F ht⟩) hS.2.2 d F.2.2.2.1
theorem V_ldcS (F : Fx G p R s m args meth c own cc nL ret k n) {i : Nat} (hi : i < 6) (ho : own = RX2) (d : decode cc pc = .ok (.ldc (sIdx.getD i 0), 2)) (kk : V G p l e R s m args below meth c nL k n Z (pc + 2) lv (.ref (gK G i) :: st) μ) : V G p l e R s m args below meth c nL k n Z pc lv st μ := by
  intro H locs ls hP hS hl
  exact va_ldcS F.1 F.2.1 F.2.2.2.2.2.1 (ho ▸ F.2.2.2.2.2.2.2.1.2.2.2.2.1 i hi) d (kk H locs ls hP hS hl)
theorem V_max (F : Fx G p R s m args meth c own cc nL ret k n) {x y : Int32} {index : Nat} (hlink : Cond.methodLink own index Lib.Math.max.name ∈ wsG) (d : decode cc pc = .ok (.invokestatic index, 3)) (hR : 1 ≤ R.frames ∧ (st.map fun v => v.category).sum + 13 ≤ R.locals) (kk : V G p l e R s m args below meth c nL k n Z (pc + 3) lv (.int (if x < y then y else x) :: st) μ) : V G p l e R s m args below meth c nL k n Z pc lv (.int y :: .int x :: st) μ := by
  intro H locs ls hP hS hl
  exact va_mmax F.1 F.2.1 (F.2.2.2.2.1.trans hl.1.symm) F.2.2.2.2.2.1 (F.2.2.2.2.2.2.1 _ hlink) (F.2.2.2.2.2.2.1 _ ms_Math_max) (F.2.2.2.2.2.2.1 _ mt_java_lang_Math) (F.2.2.2.2.2.2.1 _ mc_Math_max) hR.1 hR.2 F.2.2.2.2.2.2.2.2.1 F.2.2.2.2.2.2.2.2.2 d (kk H locs ls hP hS hl)
theorem V_min (F : Fx G p R s m args meth c own cc nL ret k n) {x y : Int32} {index : Nat} (hlink : Cond.methodLink own index Lib.Math.min.name ∈ wsG) (d : decode cc pc = .ok (.invokestatic index, 3)) (hR : 1 ≤ R.frames ∧ (st.map fun v => v.category).sum + 13 ≤ R.locals) (kk : V G p l e R s m args below meth c nL k n Z (pc + 3) lv (.int (if y < x then y else x) :: st) μ) : V G p l e R s m args below meth c nL k n Z pc lv (.int y :: .int x :: st) μ := by
  intro H locs ls hP hS hl
  exact va_mmin F.1 F.2.1 (F.2.2.2.2.1.trans hl.1.symm) F.2.2.2.2.2.1 (F.2.2.2.2.2.2.1 _ hlink) (F.2.2.2.2.2.2.1 _ ms_Math_min) (F.2.2.2.2.2.2.1 _ mt_java_lang_Math) (F.2.2.2.2.2.2.1 _ mc_Math_min) hR.1 hR.2 F.2.2.2.2.2.2.2.2.1 F.2.2.2.2.2.2.2.2.2 d (kk H locs ls hP hS hl)
/-- a call, out of its run -/
theorem V_run {As : Array Value} {st0 : List Value} {Qc : Option Value → Mem → Prop} (hr : ∀ (H : Heap) (locs : List Loc) (ls : Array Slot), va_P (gD G) vwCl (gW G μ) H → va_S (gA G) s.heap H locs → ls.size = nL → va_Run p l e R s m args below meth c H locs k n 0 0 (F0 m pc ls st0) st (Qp G Qc As) (gA G))
    (kk : ∀ (r : Option Value) (μ' : Mem), Qc r μ' → V G p l e R s m args below meth c nL k n Z (pc + 3) lv (r.toList ++ st) μ') : V G p l e R s m args below meth c nL k n Z pc lv st0 μ := by
  intro H locs ls hP hS hl T hT X
  obtain ⟨v, st₀, t, T', L, h0, X', hL, e1, e2, ⟨⟨r, μ', hv, hq, hP1⟩, hz, hk⟩, hst⟩ := hr H locs ls hP hS hl.1 T hT X
  cases hv
  rw [h0] at hz hk
  obtain ⟨t2, a1, b1⟩ := kk v μ' hq T'.heap (locs ++ L) ls (by rw [e1]; exact hP1) ⟨Nat.le_trans hS.1 (by rw [e1]; exact hz), fun q h1 h2 => by rw [e1, hk q (Nat.lt_of_lt_of_le h1 hS.1) h2]; exact hS.2.1 q h1 h2, fun q hq => (List.mem_append.mp hq).elim (hS.2.2 q) (hL q)⟩ hl T' rfl X'
  exact ⟨t2, hst t2 a1, b1⟩
/-- what a call asks of its callee's words -/
def MI (y : MethodName) (b : ByteArray) (nLc : Nat) (retc : Option FieldType) (j : Nat) : Prop := Cond.code y b nLc retc ∈ wsG ∧ Cond.initialized y.cls ∈ wsG ∧ (y.cls ≠ "java/lang/invoke/MethodHandle" ∧ y.cls ≠ "java/lang/invoke/VarHandle" ∧ (parseMethodDescriptor y.desc).map (fun d => d.parameters.length) = some j) ∧ plainName y.cls = true
theorem good_code {y : MethodName} {b : ByteArray} {nLc : Nat} {retc : Option FieldType} (h : Cond.code y b nLc retc ∈ wsG) : GoodIn wsG (Cond.code y b nLc retc :: wsG) := fun w hw => by
  rcases List.mem_cons.mp hw with rfl | h2
  · exact ⟨h, good_of_word (wsG_ok h)⟩
  · exact ⟨h2, good_of_word (wsG_ok h2)⟩
theorem room_ok {R : Room} {dp nLc : Nat} (hR : dp + 1 ≤ R.frames ∧ (dp + 1) * 40 ≤ R.locals) (hn : nLc ≤ 21) : (rmD dp).frames + 1 ≤ R.frames ∧ 8 + (nLc + 11) + (rmD dp).locals ≤ R.locals := ⟨hR.1, by show 8 + (nLc + 11) + dp * 40 ≤ R.locals; omega⟩
variable {y : MethodName} {b : ByteArray} {nLc dp index j : Nat} {retc : Option FieldType} {As : List Value} {Qc : Option Value → Mem → Prop}
theorem V_callS (F : Fx G p R s m args meth c own cc nL ret k n) (hC : Ct G l dp y b nLc retc As μ Qc) (hM : MI y b nLc retc j) (hs : Cond.static y ∈ wsG) (hlink : Cond.methodLink own index y ∈ wsG) (d : decode cc pc = .ok (.invokestatic index, 3)) (hR : dp + 1 ≤ R.frames ∧ (dp + 1) * 40 ≤ R.locals) {st0 : List Value} (hst : st0 = As.reverse ++ st) (hn : As.length = j) (hnl : nLc ≤ 21) (hw : (st.map fun v => v.category).sum ≤ 8)
    (kk : ∀ (r : Option Value) (μ' : Mem), Qc r μ' → V G p l e R s m args below meth c nL k n Z (pc + 3) lv (r.toList ++ st) μ') : V G p l e R s m args below meth c nL k n Z pc lv st0 μ := by
  refine V_run (As := As.toArray) (Qc := Qc) (fun H locs ls hP hS hz => ?_) kk
  subst hst
  exact va_runS ⟨F.1, F.2.1, F.2.2.2.2.1, F.2.2.2.2.2.1, F.2.2.2.2.2.2.1⟩ hC ⟨callB_of j F.2.2.2.2.2.2.1 (good_code hM.1) rfl rfl rfl (F.2.2.2.2.2.2.1 _ hM.2.1) (F.2.2.2.2.2.2.1 _ hlink) hM.2.2.1 (room_ok hR hnl), F.2.2.2.2.2.2.1 _ hs⟩
    ⟨Pp.blind, fun U hU hW => ⟨rfl, by rw [hU]; exact hP, by rw [hU]; exact F.2.2.2.2.2.2.2.1.step hS hW⟩⟩ rfl hn hz rfl (lv_room hw) d F.2.2.2.2.2.2.2.2
theorem V_callSN (F : Fx G p R s m args meth c own cc nL ret k n) {host : String} (hC : Ct G l dp y b nLc retc As μ Qc) (hM : MI y b nLc retc j) (hs : Cond.static y ∈ wsG) (hlink : Cond.methodLinkNest own index y host ∈ nestW) (d : decode cc pc = .ok (.invokestatic index, 3)) (hR : dp + 1 ≤ R.frames ∧ (dp + 1) * 40 ≤ R.locals) {st0 : List Value} (hst : st0 = As.reverse ++ st) (hn : As.length = j) (hnl : nLc ≤ 21) (hw : (st.map fun v => v.category).sum ≤ 8)
    (kk : ∀ (r : Option Value) (μ' : Mem), Qc r μ' → V G p l e R s m args below meth c nL k n Z (pc + 3) lv (r.toList ++ st) μ') : V G p l e R s m args below meth c nL k n Z pc lv st0 μ := by
  refine V_run (As := As.toArray) (Qc := Qc) (fun H locs ls hP hS hz => ?_) kk
  subst hst
  exact va_runSN ⟨F.1, F.2.1, F.2.2.2.2.1, F.2.2.2.2.2.1, F.2.2.2.2.2.2.1⟩ hC ⟨va_cnB j F.2.2.2.2.2.2.1 (good_code hM.1) rfl rfl rfl (F.2.2.2.2.2.2.2.1.2.2.1 _ hlink) (F.2.2.2.2.2.2.1 _ hM.2.1) hM.2.2.1 (room_ok hR hnl), F.2.2.2.2.2.2.1 _ hs, trivial⟩
    ⟨Pp.blind, fun U hU hW => ⟨rfl, by rw [hU]; exact hP, by rw [hU]; exact F.2.2.2.2.2.2.2.1.step hS hW⟩⟩ rfl hn hz rfl (lv_room hw) d F.2.2.2.2.2.2.2.2
theorem V_callV (F : Fx G p R s m args meth c own cc nL ret k n) {a ci q0 : Nat} {qc : vw_C} {fs : List Value} (hC : Ct G l dp y b nLc retc (.ref a :: As) μ Qc) (hM : MI y b nLc retc j) (hs : Cond.instanceMethod y ∈ wsG ∧ Cond.selects y.cls y y ∈ wsG) (hlink : Cond.methodLink own index y ∈ wsG) (d : decode cc pc = .ok (.invokevirtual index, 3)) (hR : dp + 1 ≤ R.frames ∧ (dp + 1) * 40 ≤ R.locals) {st0 : List Value} (hst : st0 = As.reverse ++ .ref a :: st) (hn : As.length = j) (hnl : nLc ≤ 21) (hw : (st.map fun v => v.category).sum ≤ 8)
    (he : (gW G μ)[q0]? = some (a, .inr (ci, fs))) (hc : vwCl[ci]? = some qc) (hqc : qc.1 = y.cls) (kk : ∀ (r : Option Value) (μ' : Mem), Qc r μ' → V G p l e R s m args below meth c nL k n Z (pc + 3) lv (r.toList ++ st) μ') : V G p l e R s m args below meth c nL k n Z pc lv st0 μ := by
  refine V_run (As := (Value.ref a :: As).toArray) (Qc := Qc) (fun H locs ls hP hS hz => ?_) kk
  subst hst
  exact va_runV ⟨F.1, F.2.1, F.2.2.2.2.1, F.2.2.2.2.2.1, F.2.2.2.2.2.2.1⟩ hC ⟨callB_of j F.2.2.2.2.2.2.1 (good_code hM.1) rfl rfl rfl (F.2.2.2.2.2.2.1 _ hM.2.1) (F.2.2.2.2.2.2.1 _ hlink) hM.2.2.1 (room_ok hR hnl), F.2.2.2.2.2.2.1 _ hs.1, F.2.2.2.2.2.2.1 _ hs.2⟩
    ⟨Pp.blind, hqc ▸ va_recv F.2.2.2.2.2.2.2.1.1 hP hc he, fun U hU hW => ⟨rfl, by rw [hU]; exact hP, by rw [hU]; exact F.2.2.2.2.2.2.2.1.step hS hW⟩⟩ rfl hn hz rfl (lv_room hw) d F.2.2.2.2.2.2.2.2
theorem V_callVN (F : Fx G p R s m args meth c own cc nL ret k n) {host : String} {a ci q0 : Nat} {qc : vw_C} {fs : List Value} (hC : Ct G l dp y b nLc retc (.ref a :: As) μ Qc) (hM : MI y b nLc retc j) (hs : Cond.instanceMethod y ∈ wsG ∧ Cond.selects y.cls y y ∈ wsG) (hlink : Cond.methodLinkNest own index y host ∈ nestW) (d : decode cc pc = .ok (.invokevirtual index, 3)) (hR : dp + 1 ≤ R.frames ∧ (dp + 1) * 40 ≤ R.locals) {st0 : List Value} (hst : st0 = As.reverse ++ .ref a :: st) (hn : As.length = j) (hnl : nLc ≤ 21) (hw : (st.map fun v => v.category).sum ≤ 8)
    (he : (gW G μ)[q0]? = some (a, .inr (ci, fs))) (hc : vwCl[ci]? = some qc) (hqc : qc.1 = y.cls) (kk : ∀ (r : Option Value) (μ' : Mem), Qc r μ' → V G p l e R s m args below meth c nL k n Z (pc + 3) lv (r.toList ++ st) μ') : V G p l e R s m args below meth c nL k n Z pc lv st0 μ := by
  refine V_run (As := (Value.ref a :: As).toArray) (Qc := Qc) (fun H locs ls hP hS hz => ?_) kk
  subst hst
  exact va_runVN ⟨F.1, F.2.1, F.2.2.2.2.1, F.2.2.2.2.2.1, F.2.2.2.2.2.2.1⟩ hC ⟨va_cnB j F.2.2.2.2.2.2.1 (good_code hM.1) rfl rfl rfl (F.2.2.2.2.2.2.2.1.2.2.1 _ hlink) (F.2.2.2.2.2.2.1 _ hM.2.1) hM.2.2.1 (room_ok hR hnl), F.2.2.2.2.2.2.1 _ hs.1, F.2.2.2.2.2.2.1 _ hs.2⟩
    ⟨Pp.blind, hqc ▸ va_recv F.2.2.2.2.2.2.2.1.1 hP hc he, fun U hU hW => ⟨rfl, by rw [hU]; exact hP, by rw [hU]; exact F.2.2.2.2.2.2.2.1.step hS hW⟩⟩ rfl hn hz rfl (lv_room hw) d F.2.2.2.2.2.2.2.2
end VROWS
/-- a contract, out of a walk of the method's body -/
theorem Ct.of {G : Geo} {l : Launch} {dp : Nat} {y : MethodName} {own : String} {b : ByteArray} {nL j : Nat} {ret : Option FieldType} {av : List Value} {μ : Mem} {Q : Option Value → Mem → Prop} (hM : MI y b nL ret j) (ho : y.cls = own) (lv : List (Option Value)) (hn : (lg_sl av).length ≤ nL) (hlv : al 0 lv = lv_args 0 av)
    (body : ∀ (p : Program) (e : Env) (s : State) (m : MethodId) (below : List Frame) (meth : Method) (c : Code), Fx G p (rmD dp) s m av.toArray meth c own b nL ret 0 0 → V G p l e (rmD dp) s m av.toArray below meth c nL 0 0 (MQ below (Qp G Q) av.toArray s 0 0 (gA G)) 0 lv [] μ) : Ct G l dp y b nL ret av μ Q := by
  refine Met.ofW (cc := b) (maxL := nL) (ret := ret) hM.2.2.2 rfl ?_
  intro p e s m args below meth c s₁ B hml hv
  obtain ⟨rfl, hP, hst⟩ := hv
  have hts := atoms_spec (ws := Cond.code y b nL ret :: wsG) B.pre
  have hown : s.vm.findClass y.cls = some m.cls := findClass_of_methodNamed B.named
  have hl := lv_entry av (n := nL) hn
  rw [lg_entry_eq]
  exact body p e s m below meth c ⟨B.exec, B.bytes, B.returns, B.notSynchronized, hml, ho ▸ hown, fun w hw => hts w (List.mem_cons_of_mem _ hw), hst, Nat.zero_le _, Nat.zero_le _⟩ s.heap [] _ hP va_S.rf (hlv ▸ hl)
end MACH
end
section
section WORLD
abbrev Gm : Type := (Nat → Nat) × va_G × (ClassId × ClassId) × (Nat → Nat) × (Nat → Nat)
def lenS : Nat → Nat
  | 12 => 72
  | 14 => 4140
  | _ => 24
def isI (c : Nat) : Bool := (3 ≤ c && c ≤ 12) || c == 14 || (15 ≤ c && c ≤ 16)
def wS (cT : ClassId × ClassId) (α : Nat → Nat) (μ : Mem) : va_W := [
  (α 0, .inr (2, [.ref (α 1), .ref (α 2)])),
  (α 1, .inr (1, [.int (μ.1 1 0), .ref (α 3), .ref (α 4), .ref (α 5), .ref (α 6), .ref (α 7), .ref (α 8), .ref (α 9), .ref (α 10), .ref (α 11), .ref (α 12), .ref (α 13)])),
  (α 2, .inr (0, [.ref (α 1), .ref (α 14)])),
  (α 3, .inl (cT.1, 24, .inl (μ.1 3))),
  (α 4, .inl (cT.1, 24, .inl (μ.1 4))),
  (α 5, .inl (cT.1, 24, .inl (μ.1 5))),
  (α 6, .inl (cT.1, 24, .inl (μ.1 6))),
  (α 7, .inl (cT.1, 24, .inl (μ.1 7))),
  (α 8, .inl (cT.1, 24, .inl (μ.1 8))),
  (α 9, .inl (cT.1, 24, .inl (μ.1 9))),
  (α 10, .inl (cT.1, 24, .inl (μ.1 10))),
  (α 11, .inl (cT.1, 24, .inl (μ.1 11))),
  (α 12, .inl (cT.1, 72, .inl (μ.1 12))),
  (α 13, .inl (cT.2, 72, .inr (.inl μ.2))),
  (α 14, .inl (cT.1, 4140, .inl (μ.1 14))),
  (α 15, .inl (cT.1, 24, .inl (μ.1 15))),
  (α 16, .inl (cT.1, 24, .inl (μ.1 16)))]
def AS (α : Nat → Nat) : Nat → Prop := fun q => ∃ k, k < 17 ∧ q = α k
abbrev GS (g : Gm) : Geo := (wS g.2.2.1 g.1, AS g.1, g.2.1, g.2.2.1, g.2.2.2.1, g.2.2.2.2)
theorem isI_or {c : Nat} (h : isI c = true) : c = 3 ∨ c = 4 ∨ c = 5 ∨ c = 6 ∨ c = 7 ∨ c = 8 ∨ c = 9 ∨ c = 10 ∨ c = 11 ∨ c = 12 ∨ c = 14 ∨ c = 15 ∨ c = 16 := by
  simp only [isI, Bool.or_eq_true, Bool.and_eq_true, decide_eq_true_eq, beq_iff_eq] at h
  omega
theorem wS_int {g : Gm} {μ : Mem} {c : Nat} (h : isI c = true) : (gW (GS g) μ)[c]? = some (g.1 c, .inl ((GS g).2.2.2.1.1, lenS c, .inl (μ.1 c))) := by
  rcases isI_or h with rfl | rfl | rfl | rfl | rfl | rfl | rfl | rfl | rfl | rfl | rfl | rfl | rfl <;> rfl
theorem wS_set {g : Gm} {μ : Mem} {c i : Nat} {v : Int32} (h : isI c = true) : (gW (GS g) μ).set c (g.1 c, .inl ((GS g).2.2.2.1.1, lenS c, .inl (upd (μ.1 c) i v))) = gW (GS g) (wr μ c i v) := by
  rcases isI_or h with rfl | rfl | rfl | rfl | rfl | rfl | rfl | rfl | rfl | rfl | rfl | rfl | rfl <;> rfl
theorem wr_at (μ : Mem) (c i d j : Nat) (v : Int32) : (wr μ c i v).1 d j = if d = c ∧ j = i then v else μ.1 d j := by
  by_cases hd : d = c
  · subst hd
    by_cases hj : j = i
    · subst hj; simp [wr, upd]
    · simp [wr, upd, hj]
  · simp [wr, hd]
theorem wr_2 (μ : Mem) (c i : Nat) (v : Int32) : (wr μ c i v).2 = μ.2 := rfl
theorem wrL_1 (μ : Mem) (i : Nat) (v : Int64) : (wrL μ i v).1 = μ.1 := rfl
theorem wrL_at (μ : Mem) (i j : Nat) (v : Int64) : (wrL μ i v).2 j = if j = i then v else μ.2 j := rfl
/-- the answer is v, and nothing has changed -/
def Is (v : Value) (μ : Mem) : Option Value → Mem → Prop := fun r μ' => r = some v ∧ μ' = μ
def IsN (μ : Mem) : Option Value → Mem → Prop := fun r μ' => r = none ∧ μ' = μ
theorem rmR {dp dq : Nat} (h : dp + 1 ≤ dq) : dp + 1 ≤ (rmD dq).frames ∧ (dp + 1) * 40 ≤ (rmD dq).locals := ⟨h, Nat.mul_le_mul_right 40 h⟩
theorem rmM {dq q : Nat} (h : 1 ≤ dq) (hq : q ≤ 20) : 1 ≤ (rmD dq).frames ∧ q + 13 ≤ (rmD dq).locals := ⟨h, by show q + 13 ≤ dq * 40; omega⟩
section WROWS
variable {g : Gm} {G : Geo} {p : Program} {l : Launch} {e : Env} {R : Room} {s : State} {m : MethodId} {args : Array Value} {below : List Frame} {meth : Method} {c : Code} {k n : Nat} {Z : State → Prop} {own : String} {cc : ByteArray} {nL pc : Nat} {ret : Option FieldType} {lv : List (Option Value)} {st : List Value} {μ : Mem}

theorem V_ia (F : Fx (GS g) p R s m args meth c own cc nL ret k n) {q j : Nat} {x v : Int32} (d : decode cc pc = .ok (.iaload, 1)) (h : isI q = true) (hx : x = nI j) (hj : j < lenS q) (hv : μ.1 q j = v) (kk : V (GS g) p l e R s m args below meth c nL k n Z (pc + 1) lv (.int v :: st) μ) : V (GS g) p l e R s m args below meth c nL k n Z pc lv (.int x :: .ref (g.1 q) :: st) μ := by
  have hb : j < 2 ^ 31 := by
    have : lenS q ≤ 4140 := by unfold lenS; split <;> omega
    omega
  subst hx; subst hv
  refine V_iald F d (wS_int h) (vp_in_nI hj (by have : lenS q ≤ 4140 := by { unfold lenS; split <;> omega }; omega)) ?_
  have e1 : (nI j).toNatClampNeg = j := nI_clamp hb
  rw [e1]
  exact kk
theorem V_ias (F : Fx (GS g) p R s m args meth c own cc nL ret k n) {q j : Nat} {x v : Int32} (d : decode cc pc = .ok (.iastore, 1)) (h : isI q = true) (hx : x = nI j) (hj : j < lenS q) (kk : V (GS g) p l e R s m args below meth c nL k n Z (pc + 1) lv st (wr μ q j v)) : V (GS g) p l e R s m args below meth c nL k n Z pc lv (.int v :: .int x :: .ref (g.1 q) :: st) μ := by
  have hb : j < 2 ^ 31 := by
    have : lenS q ≤ 4140 := by unfold lenS; split <;> omega
    omega
  subst hx
  have e1 : (nI j).toNatClampNeg = j := nI_clamp hb
  refine V_iast F d (wS_int h) (vp_in_nI hj (by have : lenS q ≤ 4140 := by { unfold lenS; split <;> omega }; omega)) (wS_set h) ?_
  rw [e1]
  exact kk
theorem V_iaddN (F : Fx G p R s m args meth c own cc nL ret k n) {x y : Nat} (d : decode cc pc = .ok (.iadd, 1)) (kk : V G p l e R s m args below meth c nL k n Z (pc + 1) lv (.int (nI (x + y)) :: st) μ) : V G p l e R s m args below meth c nL k n Z pc lv (.int (nI y) :: .int (nI x) :: st) μ := V_iadd F d (by rw [nI_add]; exact kk)
theorem V_imulN (F : Fx G p R s m args meth c own cc nL ret k n) {x y : Nat} (d : decode cc pc = .ok (.imul, 1)) (kk : V G p l e R s m args below meth c nL k n Z (pc + 1) lv (.int (nI (x * y)) :: st) μ) : V G p l e R s m args below meth c nL k n Z pc lv (.int (nI y) :: .int (nI x) :: st) μ := V_imul F d (by rw [show nI x * nI y = nI (x * y) from (Int32.ofNat_mul x y).symm]; exact kk)
theorem V_valL (F : Fx G p R s m args meth c own cc nL ret k n) {u v : Int64} (h : u = v) (kk : V G p l e R s m args below meth c nL k n Z pc lv (.long v :: st) μ) : V G p l e R s m args below meth c nL k n Z pc lv (.long u :: st) μ := h ▸ kk
theorem V_val (F : Fx G p R s m args meth c own cc nL ret k n) {u v : Int32} (h : u = v) (kk : V G p l e R s m args below meth c nL k n Z pc lv (.int v :: st) μ) : V G p l e R s m args below meth c nL k n Z pc lv (.int u :: st) μ := h ▸ kk

theorem V_callSi (F : Fx G p R s m args meth c own cc nL ret k n) {y : MethodName} {b : ByteArray} {nLc dp index j : Nat} {retc : Option FieldType} {As : List Value} {v : Value} (hC : Ct G l dp y b nLc retc As μ (Is v μ)) (hM : MI y b nLc retc j) (hs : Cond.static y ∈ wsG) (hlink : Cond.methodLink own index y ∈ wsG) (d : decode cc pc = .ok (.invokestatic index, 3)) (hR : dp + 1 ≤ R.frames ∧ (dp + 1) * 40 ≤ R.locals) {st0 : List Value} (hst : st0 = As.reverse ++ st) (hn : As.length = j) (hnl : nLc ≤ 21) (hw : (st.map fun v => v.category).sum ≤ 8) (kk : V G p l e R s m args below meth c nL k n Z (pc + 3) lv (v :: st) μ) : V G p l e R s m args below meth c nL k n Z pc lv st0 μ :=
  V_callS F hC hM hs hlink d hR hst hn hnl hw (fun r μ' h => by obtain ⟨rfl, rfl⟩ := h; exact kk)
theorem V_callS0 (F : Fx G p R s m args meth c own cc nL ret k n) {y : MethodName} {b : ByteArray} {nLc dp index j : Nat} {retc : Option FieldType} {As : List Value} {ν : Mem} (hC : Ct G l dp y b nLc retc As μ (IsN ν)) (hM : MI y b nLc retc j) (hs : Cond.static y ∈ wsG) (hlink : Cond.methodLink own index y ∈ wsG) (d : decode cc pc = .ok (.invokestatic index, 3)) (hR : dp + 1 ≤ R.frames ∧ (dp + 1) * 40 ≤ R.locals) {st0 : List Value} (hst : st0 = As.reverse ++ st) (hn : As.length = j) (hnl : nLc ≤ 21) (hw : (st.map fun v => v.category).sum ≤ 8) (kk : V G p l e R s m args below meth c nL k n Z (pc + 3) lv (st) ν) : V G p l e R s m args below meth c nL k n Z pc lv st0 μ :=
  V_callS F hC hM hs hlink d hR hst hn hnl hw (fun r μ' h => by obtain ⟨rfl, rfl⟩ := h; exact kk)
theorem V_callSNi (F : Fx G p R s m args meth c own cc nL ret k n) {y : MethodName} {b : ByteArray} {nLc dp index j : Nat} {retc : Option FieldType} {As : List Value} {v : Value} (hC : Ct G l dp y b nLc retc As μ (Is v μ)) (hM : MI y b nLc retc j) {host : String} (hs : Cond.static y ∈ wsG) (hlink : Cond.methodLinkNest own index y host ∈ nestW) (d : decode cc pc = .ok (.invokestatic index, 3)) (hR : dp + 1 ≤ R.frames ∧ (dp + 1) * 40 ≤ R.locals) {st0 : List Value} (hst : st0 = As.reverse ++ st) (hn : As.length = j) (hnl : nLc ≤ 21) (hw : (st.map fun v => v.category).sum ≤ 8) (kk : V G p l e R s m args below meth c nL k n Z (pc + 3) lv (v :: st) μ) : V G p l e R s m args below meth c nL k n Z pc lv st0 μ :=
  V_callSN F hC hM hs hlink d hR hst hn hnl hw (fun r μ' h => by obtain ⟨rfl, rfl⟩ := h; exact kk)
theorem V_callSN0 (F : Fx G p R s m args meth c own cc nL ret k n) {y : MethodName} {b : ByteArray} {nLc dp index j : Nat} {retc : Option FieldType} {As : List Value} {ν : Mem} (hC : Ct G l dp y b nLc retc As μ (IsN ν)) (hM : MI y b nLc retc j) {host : String} (hs : Cond.static y ∈ wsG) (hlink : Cond.methodLinkNest own index y host ∈ nestW) (d : decode cc pc = .ok (.invokestatic index, 3)) (hR : dp + 1 ≤ R.frames ∧ (dp + 1) * 40 ≤ R.locals) {st0 : List Value} (hst : st0 = As.reverse ++ st) (hn : As.length = j) (hnl : nLc ≤ 21) (hw : (st.map fun v => v.category).sum ≤ 8) (kk : V G p l e R s m args below meth c nL k n Z (pc + 3) lv (st) ν) : V G p l e R s m args below meth c nL k n Z pc lv st0 μ :=
  V_callSN F hC hM hs hlink d hR hst hn hnl hw (fun r μ' h => by obtain ⟨rfl, rfl⟩ := h; exact kk)
theorem V_callVi (F : Fx G p R s m args meth c own cc nL ret k n) {y : MethodName} {b : ByteArray} {nLc dp index j a ci q0 : Nat} {qc : vw_C} {fs : List Value} {retc : Option FieldType} {As : List Value} {v : Value} (hC : Ct G l dp y b nLc retc (.ref a :: As) μ (Is v μ)) (hM : MI y b nLc retc j) (hs : Cond.instanceMethod y ∈ wsG ∧ Cond.selects y.cls y y ∈ wsG) (hlink : Cond.methodLink own index y ∈ wsG) (d : decode cc pc = .ok (.invokevirtual index, 3)) (hR : dp + 1 ≤ R.frames ∧ (dp + 1) * 40 ≤ R.locals) {st0 : List Value} (hst : st0 = As.reverse ++ .ref a :: st) (hn : As.length = j) (hnl : nLc ≤ 21) (hw : (st.map fun v => v.category).sum ≤ 8) (he : (gW G μ)[q0]? = some (a, .inr (ci, fs))) (hc : vwCl[ci]? = some qc) (hqc : qc.1 = y.cls) (kk : V G p l e R s m args below meth c nL k n Z (pc + 3) lv (v :: st) μ) : V G p l e R s m args below meth c nL k n Z pc lv st0 μ :=
  V_callV F hC hM hs hlink d hR hst hn hnl hw he hc hqc (fun r μ' h => by obtain ⟨rfl, rfl⟩ := h; exact kk)
theorem V_callV0 (F : Fx G p R s m args meth c own cc nL ret k n) {y : MethodName} {b : ByteArray} {nLc dp index j a ci q0 : Nat} {qc : vw_C} {fs : List Value} {retc : Option FieldType} {As : List Value} {ν : Mem} (hC : Ct G l dp y b nLc retc (.ref a :: As) μ (IsN ν)) (hM : MI y b nLc retc j) (hs : Cond.instanceMethod y ∈ wsG ∧ Cond.selects y.cls y y ∈ wsG) (hlink : Cond.methodLink own index y ∈ wsG) (d : decode cc pc = .ok (.invokevirtual index, 3)) (hR : dp + 1 ≤ R.frames ∧ (dp + 1) * 40 ≤ R.locals) {st0 : List Value} (hst : st0 = As.reverse ++ .ref a :: st) (hn : As.length = j) (hnl : nLc ≤ 21) (hw : (st.map fun v => v.category).sum ≤ 8) (he : (gW G μ)[q0]? = some (a, .inr (ci, fs))) (hc : vwCl[ci]? = some qc) (hqc : qc.1 = y.cls) (kk : V G p l e R s m args below meth c nL k n Z (pc + 3) lv (st) ν) : V G p l e R s m args below meth c nL k n Z pc lv st0 μ :=
  V_callV F hC hM hs hlink d hR hst hn hnl hw he hc hqc (fun r μ' h => by obtain ⟨rfl, rfl⟩ := h; exact kk)
theorem V_callVNi (F : Fx G p R s m args meth c own cc nL ret k n) {y : MethodName} {b : ByteArray} {nLc dp index j a ci q0 : Nat} {qc : vw_C} {fs : List Value} {retc : Option FieldType} {As : List Value} {v : Value} (hC : Ct G l dp y b nLc retc (.ref a :: As) μ (Is v μ)) (hM : MI y b nLc retc j) {host : String} (hs : Cond.instanceMethod y ∈ wsG ∧ Cond.selects y.cls y y ∈ wsG) (hlink : Cond.methodLinkNest own index y host ∈ nestW) (d : decode cc pc = .ok (.invokevirtual index, 3)) (hR : dp + 1 ≤ R.frames ∧ (dp + 1) * 40 ≤ R.locals) {st0 : List Value} (hst : st0 = As.reverse ++ .ref a :: st) (hn : As.length = j) (hnl : nLc ≤ 21) (hw : (st.map fun v => v.category).sum ≤ 8) (he : (gW G μ)[q0]? = some (a, .inr (ci, fs))) (hc : vwCl[ci]? = some qc) (hqc : qc.1 = y.cls) (kk : V G p l e R s m args below meth c nL k n Z (pc + 3) lv (v :: st) μ) : V G p l e R s m args below meth c nL k n Z pc lv st0 μ :=
  V_callVN F hC hM hs hlink d hR hst hn hnl hw he hc hqc (fun r μ' h => by obtain ⟨rfl, rfl⟩ := h; exact kk)
theorem V_callVN0 (F : Fx G p R s m args meth c own cc nL ret k n) {y : MethodName} {b : ByteArray} {nLc dp index j a ci q0 : Nat} {qc : vw_C} {fs : List Value} {retc : Option FieldType} {As : List Value} {ν : Mem} (hC : Ct G l dp y b nLc retc (.ref a :: As) μ (IsN ν)) (hM : MI y b nLc retc j) {host : String} (hs : Cond.instanceMethod y ∈ wsG ∧ Cond.selects y.cls y y ∈ wsG) (hlink : Cond.methodLinkNest own index y host ∈ nestW) (d : decode cc pc = .ok (.invokevirtual index, 3)) (hR : dp + 1 ≤ R.frames ∧ (dp + 1) * 40 ≤ R.locals) {st0 : List Value} (hst : st0 = As.reverse ++ .ref a :: st) (hn : As.length = j) (hnl : nLc ≤ 21) (hw : (st.map fun v => v.category).sum ≤ 8) (he : (gW G μ)[q0]? = some (a, .inr (ci, fs))) (hc : vwCl[ci]? = some qc) (hqc : qc.1 = y.cls) (kk : V G p l e R s m args below meth c nL k n Z (pc + 3) lv (st) ν) : V G p l e R s m args below meth c nL k n Z pc lv st0 μ :=
  V_callVN F hC hM hs hlink d hR hst hn hnl hw he hc hqc (fun r μ' h => by obtain ⟨rfl, rfl⟩ := h; exact kk)
theorem V_icmp_eq_N (F : Fx G p R s m args meth c own cc nL ret k n) {off : Int} {tgt a b : Nat} (d : decode cc pc = .ok (.if_icmp .eq off, 3)) (ht : (pc : Int) + off = (tgt : Int)) (ha : a < 2 ^ 31) (hb : b < 2 ^ 31) (kt : a = b → V G p l e R s m args below meth c nL k n Z tgt lv st μ) (kf : ¬ a = b → V G p l e R s m args below meth c nL k n Z (pc + 3) lv st μ) : V G p l e R s m args below meth c nL k n Z pc lv (.int (nI b) :: .int (nI a) :: st) μ :=
  V_icmp_eq F d ht (fun h => kt ((nI_eq ha hb).mp h)) (fun h => kf (fun q => h ((nI_eq ha hb).mpr q)))
theorem V_icmp_ne_N (F : Fx G p R s m args meth c own cc nL ret k n) {off : Int} {tgt a b : Nat} (d : decode cc pc = .ok (.if_icmp .ne off, 3)) (ht : (pc : Int) + off = (tgt : Int)) (ha : a < 2 ^ 31) (hb : b < 2 ^ 31) (kt : a ≠ b → V G p l e R s m args below meth c nL k n Z tgt lv st μ) (kf : ¬ (a ≠ b) → V G p l e R s m args below meth c nL k n Z (pc + 3) lv st μ) : V G p l e R s m args below meth c nL k n Z pc lv (.int (nI b) :: .int (nI a) :: st) μ :=
  V_icmp_ne F d ht (fun h => kt ((not_congr (nI_eq ha hb)).mp h)) (fun h => kf (fun q => q ((nI_eq ha hb).mp h)))
theorem V_icmp_lt_N (F : Fx G p R s m args meth c own cc nL ret k n) {off : Int} {tgt a b : Nat} (d : decode cc pc = .ok (.if_icmp .lt off, 3)) (ht : (pc : Int) + off = (tgt : Int)) (ha : a < 2 ^ 31) (hb : b < 2 ^ 31) (kt : a < b → V G p l e R s m args below meth c nL k n Z tgt lv st μ) (kf : ¬ a < b → V G p l e R s m args below meth c nL k n Z (pc + 3) lv st μ) : V G p l e R s m args below meth c nL k n Z pc lv (.int (nI b) :: .int (nI a) :: st) μ :=
  V_icmp_lt F d ht (fun h => kt ((nI_ltI ha hb).mp h)) (fun h => kf (fun q => h ((nI_ltI ha hb).mpr q)))
theorem V_icmp_ge_N (F : Fx G p R s m args meth c own cc nL ret k n) {off : Int} {tgt a b : Nat} (d : decode cc pc = .ok (.if_icmp .ge off, 3)) (ht : (pc : Int) + off = (tgt : Int)) (ha : a < 2 ^ 31) (hb : b < 2 ^ 31) (kt : b ≤ a → V G p l e R s m args below meth c nL k n Z tgt lv st μ) (kf : ¬ b ≤ a → V G p l e R s m args below meth c nL k n Z (pc + 3) lv st μ) : V G p l e R s m args below meth c nL k n Z pc lv (.int (nI b) :: .int (nI a) :: st) μ :=
  V_icmp_ge F d ht (fun h => kt ((nI_leI hb ha).mp h)) (fun h => kf (fun q => h ((nI_leI hb ha).mpr q)))
theorem V_icmp_gt_N (F : Fx G p R s m args meth c own cc nL ret k n) {off : Int} {tgt a b : Nat} (d : decode cc pc = .ok (.if_icmp .gt off, 3)) (ht : (pc : Int) + off = (tgt : Int)) (ha : a < 2 ^ 31) (hb : b < 2 ^ 31) (kt : b < a → V G p l e R s m args below meth c nL k n Z tgt lv st μ) (kf : ¬ b < a → V G p l e R s m args below meth c nL k n Z (pc + 3) lv st μ) : V G p l e R s m args below meth c nL k n Z pc lv (.int (nI b) :: .int (nI a) :: st) μ :=
  V_icmp_gt F d ht (fun h => kt ((nI_ltI hb ha).mp h)) (fun h => kf (fun q => h ((nI_ltI hb ha).mpr q)))
theorem V_icmp_le_N (F : Fx G p R s m args meth c own cc nL ret k n) {off : Int} {tgt a b : Nat} (d : decode cc pc = .ok (.if_icmp .le off, 3)) (ht : (pc : Int) + off = (tgt : Int)) (ha : a < 2 ^ 31) (hb : b < 2 ^ 31) (kt : a ≤ b → V G p l e R s m args below meth c nL k n Z tgt lv st μ) (kf : ¬ a ≤ b → V G p l e R s m args below meth c nL k n Z (pc + 3) lv st μ) : V G p l e R s m args below meth c nL k n Z pc lv (.int (nI b) :: .int (nI a) :: st) μ :=
  V_icmp_le F d ht (fun h => kt ((nI_leI ha hb).mp h)) (fun h => kf (fun q => h ((nI_leI ha hb).mpr q)))
theorem V_pff_1_0 (F : Fx (GS g) p R s m args meth c own cc nL ret k n) {index : Nat} {host : String} {x : Int32} (hlink : Cond.fieldLink own index RX2 (TX2 0).2.1 (TX2 0).2.2.1 ∈ wsG) (d : decode cc pc = .ok (.putfield index, 3)) (kk : V (GS g) p l e R s m args below meth c nL k n Z (pc + 3) lv st (wr μ 1 0 x)) : V (GS g) p l e R s m args below meth c nL k n Z pc lv (.int x :: .ref (g.1 1) :: st) μ :=
  V_putf F 1 0 hlink d ig_X2 tyX2 tyX2_ok nmX2 rfl rfl (by decide) rfl rfl (by decide +kernel) (Nat.le_of_ble_eq_true rfl) (μ' := wr μ 1 0 x) rfl kk
theorem V_pfN_1_0 (F : Fx (GS g) p R s m args meth c own cc nL ret k n) {index : Nat} {host : String} {x : Int32} (hlink : Cond.fieldLinkNest own index RX2 (TX2 0).2.1 (TX2 0).2.2.1 host ∈ nestW) (d : decode cc pc = .ok (.putfield index, 3)) (kk : V (GS g) p l e R s m args below meth c nL k n Z (pc + 3) lv st (wr μ 1 0 x)) : V (GS g) p l e R s m args below meth c nL k n Z pc lv (.int x :: .ref (g.1 1) :: st) μ :=
  V_putN F 1 0 hlink d ig_X2 tyX2 tyX2_ok nmX2 rfl rfl (by decide) rfl rfl (by decide +kernel) (Nat.le_of_ble_eq_true rfl) (μ' := wr μ 1 0 x) rfl kk
theorem nI_max {a b : Nat} (ha : a < 2 ^ 31) (hb : b < 2 ^ 31) : (if nI a < nI b then nI b else nI a) = nI (max a b) := by
  by_cases h : a < b
  · rw [if_pos ((nI_ltI ha hb).mpr h), Nat.max_eq_right (by omega)]
  · rw [if_neg (fun q => h ((nI_ltI ha hb).mp q)), Nat.max_eq_left (by omega)]
theorem nI_min {a b : Nat} (ha : a < 2 ^ 31) (hb : b < 2 ^ 31) : (if nI b < nI a then nI b else nI a) = nI (min a b) := by
  by_cases h : b < a
  · rw [if_pos ((nI_ltI hb ha).mpr h), Nat.min_eq_right (by omega)]
  · rw [if_neg (fun q => h ((nI_ltI hb ha).mp q)), Nat.min_eq_left (by omega)]
theorem V_maxN (F : Fx G p R s m args meth c own cc nL ret k n) {x y index : Nat} (hlink : Cond.methodLink own index Lib.Math.max.name ∈ wsG) (d : decode cc pc = .ok (.invokestatic index, 3)) (hR : 1 ≤ R.frames ∧ (st.map fun v => v.category).sum + 13 ≤ R.locals) (hx : x < 2 ^ 31) (hy : y < 2 ^ 31) (kk : V G p l e R s m args below meth c nL k n Z (pc + 3) lv (.int (nI (max x y)) :: st) μ) : V G p l e R s m args below meth c nL k n Z pc lv (.int (nI y) :: .int (nI x) :: st) μ := V_max F hlink d hR (by rw [nI_max hx hy]; exact kk)
theorem V_minN (F : Fx G p R s m args meth c own cc nL ret k n) {x y index : Nat} (hlink : Cond.methodLink own index Lib.Math.min.name ∈ wsG) (d : decode cc pc = .ok (.invokestatic index, 3)) (hR : 1 ≤ R.frames ∧ (st.map fun v => v.category).sum + 13 ≤ R.locals) (hx : x < 2 ^ 31) (hy : y < 2 ^ 31) (kk : V G p l e R s m args below meth c nL k n Z (pc + 3) lv (.int (nI (min x y)) :: st) μ) : V G p l e R s m args below meth c nL k n Z pc lv (.int (nI y) :: .int (nI x) :: st) μ := V_min F hlink d hR (by rw [nI_min hx hy]; exact kk)
theorem V_isubN (F : Fx G p R s m args meth c own cc nL ret k n) {x y : Nat} (h : y ≤ x) (d : decode cc pc = .ok (.isub, 1)) (kk : V G p l e R s m args below meth c nL k n Z (pc + 1) lv (.int (nI (x - y)) :: st) μ) : V G p l e R s m args below meth c nL k n Z pc lv (.int (nI y) :: .int (nI x) :: st) μ := V_isub F d (by rw [show nI x - nI y = nI (x - y) from (Int32.ofNat_sub x y h).symm]; exact kk)
end WROWS
theorem mi_X3_init : MI yX3_init cX3_init 1 none 0 := ⟨mc_X3_init, mt_X3, ⟨by decide +kernel, by decide +kernel, by decide +kernel⟩, by decide +kernel⟩
theorem mi_X2_init : MI yX2_init cX2_init 1 none 0 := ⟨mc_X2_init, mt_X2, ⟨by decide +kernel, by decide +kernel, by decide +kernel⟩, by decide +kernel⟩
theorem mi_X2_lengthsOfNew : MI yX2_lengthsOfNew cX2_lengthsOfNew 1 (some (.array .int)) 0 := ⟨mc_X2_lengthsOfNew, mt_X2, ⟨by decide +kernel, by decide +kernel, by decide +kernel⟩, by decide +kernel⟩
theorem mi_X2_headOf : MI yX2_headOf cX2_headOf 1 (some (.object "java/lang/String")) 1 := ⟨mc_X2_headOf, mt_X2, ⟨by decide +kernel, by decide +kernel, by decide +kernel⟩, by decide +kernel⟩
theorem mi_J0_length_8abf5 : MI yJ0_length_8abf5 cJ0_length_8abf5 1 (some .int) 0 := ⟨mc_J0_length_8abf5, mt_J0, ⟨by decide +kernel, by decide +kernel, by decide +kernel⟩, by decide +kernel⟩
theorem mm_J0_length_8abf5 : Cond.instanceMethod yJ0_length_8abf5 ∈ wsG ∧ Cond.selects yJ0_length_8abf5.cls yJ0_length_8abf5 yJ0_length_8abf5 ∈ wsG := ⟨mn_J0_length_8abf5, mv_J0_length_8abf5⟩
theorem mi_J0_coder_7d493 : MI yJ0_coder_7d493 cJ0_coder_7d493 1 (some .byte) 0 := ⟨mc_J0_coder_7d493, mt_J0, ⟨by decide +kernel, by decide +kernel, by decide +kernel⟩, by decide +kernel⟩
theorem mm_J0_coder_7d493 : Cond.instanceMethod yJ0_coder_7d493 ∈ wsG ∧ Cond.selects yJ0_coder_7d493.cls yJ0_coder_7d493 yJ0_coder_7d493 ∈ wsG := ⟨mn_J0_coder_7d493, mv_J0_coder_7d493⟩
theorem mi_X3_put : MI yX3_put cX3_put 3 none 3 := ⟨mc_X3_put, mt_X3, ⟨by decide +kernel, by decide +kernel, by decide +kernel⟩, by decide +kernel⟩
theorem mi_X0_init : MI yX0_init cX0_init 2 none 1 := ⟨mc_X0_init, mt_X0, ⟨by decide +kernel, by decide +kernel, by decide +kernel⟩, by decide +kernel⟩
theorem mi_L_cell : MI yL_cell cL_cell 2 (some .int) 2 := ⟨mc_L_cell, mt_L, ⟨by decide +kernel, by decide +kernel, by decide +kernel⟩, by decide +kernel⟩
theorem mi_L_adds : MI yL_adds cL_adds 12 (some .int) 5 := ⟨mc_L_adds, mt_L, ⟨by decide +kernel, by decide +kernel, by decide +kernel⟩, by decide +kernel⟩
theorem mi_L_sizes : MI yL_sizes cL_sizes 10 (some .int) 6 := ⟨mc_L_sizes, mt_L, ⟨by decide +kernel, by decide +kernel, by decide +kernel⟩, by decide +kernel⟩
theorem mi_L_most : MI yL_most cL_most 2 (some .int) 2 := ⟨mc_L_most, mt_L, ⟨by decide +kernel, by decide +kernel, by decide +kernel⟩, by decide +kernel⟩
theorem mi_L_named : MI yL_named cL_named 1 (some .int) 1 := ⟨mc_L_named, mt_L, ⟨by decide +kernel, by decide +kernel, by decide +kernel⟩, by decide +kernel⟩
theorem mi_L_builds : MI yL_builds cL_builds 6 (some .int) 6 := ⟨mc_L_builds, mt_L, ⟨by decide +kernel, by decide +kernel, by decide +kernel⟩, by decide +kernel⟩
theorem mi_X3_tau : MI yX3_tau cX3_tau 2 (some .int) 1 := ⟨mc_X3_tau, mt_X3, ⟨by decide +kernel, by decide +kernel, by decide +kernel⟩, by decide +kernel⟩
theorem mm_X3_tau : Cond.instanceMethod yX3_tau ∈ wsG ∧ Cond.selects yX3_tau.cls yX3_tau yX3_tau ∈ wsG := ⟨mn_X3_tau, mv_X3_tau⟩
theorem mi_X2_holds : MI yX2_holds cX2_holds 2 (some .boolean) 1 := ⟨mc_X2_holds, mt_X2, ⟨by decide +kernel, by decide +kernel, by decide +kernel⟩, by decide +kernel⟩
theorem mm_X2_holds : Cond.instanceMethod yX2_holds ∈ wsG ∧ Cond.selects yX2_holds.cls yX2_holds yX2_holds ∈ wsG := ⟨mn_X2_holds, mv_X2_holds⟩
theorem mi_X2_build : MI yX2_build cX2_build 9 (some .int) 5 := ⟨mc_X2_build, mt_X2, ⟨by decide +kernel, by decide +kernel, by decide +kernel⟩, by decide +kernel⟩
theorem mm_X2_build : Cond.instanceMethod yX2_build ∈ wsG ∧ Cond.selects yX2_build.cls yX2_build yX2_build ∈ wsG := ⟨mn_X2_build, mv_X2_build⟩
theorem mi_X3_at : MI yX3_at cX3_at 2 (some .int) 2 := ⟨mc_X3_at, mt_X3, ⟨by decide +kernel, by decide +kernel, by decide +kernel⟩, by decide +kernel⟩
theorem mi_X2_isAction : MI yX2_isAction cX2_isAction 1 (some .boolean) 1 := ⟨mc_X2_isAction, mt_X2, ⟨by decide +kernel, by decide +kernel, by decide +kernel⟩, by decide +kernel⟩
theorem mi_X2_needFor : MI yX2_needFor cX2_needFor 9 (some .int) 5 := ⟨mc_X2_needFor, mt_X2, ⟨by decide +kernel, by decide +kernel, by decide +kernel⟩, by decide +kernel⟩
theorem mm_X2_needFor : Cond.instanceMethod yX2_needFor ∈ wsG ∧ Cond.selects yX2_needFor.cls yX2_needFor yX2_needFor ∈ wsG := ⟨mn_X2_needFor, mv_X2_needFor⟩
theorem mi_X2_lengthFor : MI yX2_lengthFor cX2_lengthFor 5 (some .int) 3 := ⟨mc_X2_lengthFor, mt_X2, ⟨by decide +kernel, by decide +kernel, by decide +kernel⟩, by decide +kernel⟩
theorem mm_X2_lengthFor : Cond.instanceMethod yX2_lengthFor ∈ wsG ∧ Cond.selects yX2_lengthFor.cls yX2_lengthFor yX2_lengthFor ∈ wsG := ⟨mn_X2_lengthFor, mv_X2_lengthFor⟩
theorem mi_X2_putActions : MI yX2_putActions cX2_putActions 9 none 6 := ⟨mc_X2_putActions, mt_X2, ⟨by decide +kernel, by decide +kernel, by decide +kernel⟩, by decide +kernel⟩
theorem mm_X2_putActions : Cond.instanceMethod yX2_putActions ∈ wsG ∧ Cond.selects yX2_putActions.cls yX2_putActions yX2_putActions ∈ wsG := ⟨mn_X2_putActions, mv_X2_putActions⟩
theorem mi_X3_put_ : MI yX3_put_ cX3_put_ 4 none 3 := ⟨mc_X3_put_, mt_X3, ⟨by decide +kernel, by decide +kernel, by decide +kernel⟩, by decide +kernel⟩
theorem mi_X2_copyActions : MI yX2_copyActions cX2_copyActions 9 none 4 := ⟨mc_X2_copyActions, mt_X2, ⟨by decide +kernel, by decide +kernel, by decide +kernel⟩, by decide +kernel⟩
theorem mm_X2_copyActions : Cond.instanceMethod yX2_copyActions ∈ wsG ∧ Cond.selects yX2_copyActions.cls yX2_copyActions yX2_copyActions ∈ wsG := ⟨mn_X2_copyActions, mv_X2_copyActions⟩
theorem mi_X3_at_ : MI yX3_at_ cX3_at_ 2 (some .long) 2 := ⟨mc_X3_at_, mt_X3, ⟨by decide +kernel, by decide +kernel, by decide +kernel⟩, by decide +kernel⟩
theorem mi_X3_output : MI yX3_output cX3_output 4 (some .int) 3 := ⟨mc_X3_output, mt_X3, ⟨by decide +kernel, by decide +kernel, by decide +kernel⟩, by decide +kernel⟩
theorem mm_X3_output : Cond.instanceMethod yX3_output ∈ wsG ∧ Cond.selects yX3_output.cls yX3_output yX3_output ∈ wsG := ⟨mn_X3_output, mv_X3_output⟩
theorem mi_X3_isName : MI yX3_isName cX3_isName 1 (some .boolean) 1 := ⟨mc_X3_isName, mt_X3, ⟨by decide +kernel, by decide +kernel, by decide +kernel⟩, by decide +kernel⟩
theorem mi_X3_input : MI yX3_input cX3_input 3 (some .int) 2 := ⟨mc_X3_input, mt_X3, ⟨by decide +kernel, by decide +kernel, by decide +kernel⟩, by decide +kernel⟩
theorem mm_X3_input : Cond.instanceMethod yX3_input ∈ wsG ∧ Cond.selects yX3_input.cls yX3_input yX3_input ∈ wsG := ⟨mn_X3_input, mv_X3_input⟩
theorem mi_X3_match : MI yX3_match cX3_match 4 (some .int) 3 := ⟨mc_X3_match, mt_X3, ⟨by decide +kernel, by decide +kernel, by decide +kernel⟩, by decide +kernel⟩
theorem mm_X3_match : Cond.instanceMethod yX3_match ∈ wsG ∧ Cond.selects yX3_match.cls yX3_match yX3_match ∈ wsG := ⟨mn_X3_match, mv_X3_match⟩
theorem mi_X3_sum : MI yX3_sum cX3_sum 3 (some .int) 2 := ⟨mc_X3_sum, mt_X3, ⟨by decide +kernel, by decide +kernel, by decide +kernel⟩, by decide +kernel⟩
theorem mm_X3_sum : Cond.instanceMethod yX3_sum ∈ wsG ∧ Cond.selects yX3_sum.cls yX3_sum yX3_sum ∈ wsG := ⟨mn_X3_sum, mv_X3_sum⟩
theorem mi_L_process : MI yL_process cL_process 5 (some .int) 5 := ⟨mc_L_process, mt_L, ⟨by decide +kernel, by decide +kernel, by decide +kernel⟩, by decide +kernel⟩
theorem mi_X3_processCount : MI yX3_processCount cX3_processCount 1 (some .int) 0 := ⟨mc_X3_processCount, mt_X3, ⟨by decide +kernel, by decide +kernel, by decide +kernel⟩, by decide +kernel⟩
theorem mm_X3_processCount : Cond.instanceMethod yX3_processCount ∈ wsG ∧ Cond.selects yX3_processCount.cls yX3_processCount yX3_processCount ∈ wsG := ⟨mn_X3_processCount, mv_X3_processCount⟩
theorem mi_L_related : MI yL_related cL_related 3 (some .boolean) 3 := ⟨mc_L_related, mt_L, ⟨by decide +kernel, by decide +kernel, by decide +kernel⟩, by decide +kernel⟩
theorem mi_X3_areRelated : MI yX3_areRelated cX3_areRelated 5 (some .int) 3 := ⟨mc_X3_areRelated, mt_X3, ⟨by decide +kernel, by decide +kernel, by decide +kernel⟩, by decide +kernel⟩
theorem mm_X3_areRelated : Cond.instanceMethod yX3_areRelated ∈ wsG ∧ Cond.selects yX3_areRelated.cls yX3_areRelated yX3_areRelated ∈ wsG := ⟨mn_X3_areRelated, mv_X3_areRelated⟩
theorem mi_X3_errorOfPair : MI yX3_errorOfPair cX3_errorOfPair 4 (some .int) 3 := ⟨mc_X3_errorOfPair, mt_X3, ⟨by decide +kernel, by decide +kernel, by decide +kernel⟩, by decide +kernel⟩
theorem mm_X3_errorOfPair : Cond.instanceMethod yX3_errorOfPair ∈ wsG ∧ Cond.selects yX3_errorOfPair.cls yX3_errorOfPair yX3_errorOfPair ∈ wsG := ⟨mn_X3_errorOfPair, mv_X3_errorOfPair⟩
theorem mi_X3_isRelation : MI yX3_isRelation cX3_isRelation 1 (some .boolean) 1 := ⟨mc_X3_isRelation, mt_X3, ⟨by decide +kernel, by decide +kernel, by decide +kernel⟩, by decide +kernel⟩
theorem mi_X2_isClosed : MI yX2_isClosed cX2_isClosed 2 (some .boolean) 1 := ⟨mc_X2_isClosed, mt_X2, ⟨by decide +kernel, by decide +kernel, by decide +kernel⟩, by decide +kernel⟩
theorem mm_X2_isClosed : Cond.instanceMethod yX2_isClosed ∈ wsG ∧ Cond.selects yX2_isClosed.cls yX2_isClosed yX2_isClosed ∈ wsG := ⟨mn_X2_isClosed, mv_X2_isClosed⟩
theorem mi_X0_roundsOf : MI yX0_roundsOf cX0_roundsOf 5 (some .int) 3 := ⟨mc_X0_roundsOf, mt_X0, ⟨by decide +kernel, by decide +kernel, by decide +kernel⟩, by decide +kernel⟩
theorem mm_X0_roundsOf : Cond.instanceMethod yX0_roundsOf ∈ wsG ∧ Cond.selects yX0_roundsOf.cls yX0_roundsOf yX0_roundsOf ∈ wsG := ⟨mn_X0_roundsOf, mv_X0_roundsOf⟩
theorem mi_X0_worth : MI yX0_worth cX0_worth 11 (some .int) 5 := ⟨mc_X0_worth, mt_X0, ⟨by decide +kernel, by decide +kernel, by decide +kernel⟩, by decide +kernel⟩
theorem mm_X0_worth : Cond.instanceMethod yX0_worth ∈ wsG ∧ Cond.selects yX0_worth.cls yX0_worth yX0_worth ∈ wsG := ⟨mn_X0_worth, mv_X0_worth⟩
theorem mi_X0_placeOf : MI yX0_placeOf cX0_placeOf 6 (some .int) 4 := ⟨mc_X0_placeOf, mt_X0, ⟨by decide +kernel, by decide +kernel, by decide +kernel⟩, by decide +kernel⟩
theorem mi_X0_viewOf : MI yX0_viewOf cX0_viewOf 3 (some .int) 1 := ⟨mc_X0_viewOf, mt_X0, ⟨by decide +kernel, by decide +kernel, by decide +kernel⟩, by decide +kernel⟩
theorem mi_X1_valueOf : MI yX1_valueOf cX1_valueOf 2 (some .int) 2 := ⟨mc_X1_valueOf, mt_X1, ⟨by decide +kernel, by decide +kernel, by decide +kernel⟩, by decide +kernel⟩
theorem mi_X1_with : MI yX1_with cX1_with 2 (some .int) 2 := ⟨mc_X1_with, mt_X1, ⟨by decide +kernel, by decide +kernel, by decide +kernel⟩, by decide +kernel⟩
theorem mi_X0_firstPlace : MI yX0_firstPlace cX0_firstPlace 1 (some .int) 1 := ⟨mc_X0_firstPlace, mt_X0, ⟨by decide +kernel, by decide +kernel, by decide +kernel⟩, by decide +kernel⟩
theorem mi_X0_answerWorth : MI yX0_answerWorth cX0_answerWorth 15 (some .int) 6 := ⟨mc_X0_answerWorth, mt_X0, ⟨by decide +kernel, by decide +kernel, by decide +kernel⟩, by decide +kernel⟩
theorem mm_X0_answerWorth : Cond.instanceMethod yX0_answerWorth ∈ wsG ∧ Cond.selects yX0_answerWorth.cls yX0_answerWorth yX0_answerWorth ∈ wsG := ⟨mn_X0_answerWorth, mv_X0_answerWorth⟩
theorem mi_X1_nextFresh : MI yX1_nextFresh cX1_nextFresh 3 (some .int) 1 := ⟨mc_X1_nextFresh, mt_X1, ⟨by decide +kernel, by decide +kernel, by decide +kernel⟩, by decide +kernel⟩
theorem mi_X0_attackWorth : MI yX0_attackWorth cX0_attackWorth 11 (some .int) 6 := ⟨mc_X0_attackWorth, mt_X0, ⟨by decide +kernel, by decide +kernel, by decide +kernel⟩, by decide +kernel⟩
theorem mm_X0_attackWorth : Cond.instanceMethod yX0_attackWorth ∈ wsG ∧ Cond.selects yX0_attackWorth.cls yX0_attackWorth yX0_attackWorth ∈ wsG := ⟨mn_X0_attackWorth, mv_X0_attackWorth⟩
theorem mi_X2_actionIn : MI yX2_actionIn cX2_actionIn 5 (some .int) 3 := ⟨mc_X2_actionIn, mt_X2, ⟨by decide +kernel, by decide +kernel, by decide +kernel⟩, by decide +kernel⟩
theorem mm_X2_actionIn : Cond.instanceMethod yX2_actionIn ∈ wsG ∧ Cond.selects yX2_actionIn.cls yX2_actionIn yX2_actionIn ∈ wsG := ⟨mn_X2_actionIn, mv_X2_actionIn⟩
theorem mi_X2_isOpen : MI yX2_isOpen cX2_isOpen 6 (some .boolean) 2 := ⟨mc_X2_isOpen, mt_X2, ⟨by decide +kernel, by decide +kernel, by decide +kernel⟩, by decide +kernel⟩
theorem mi_X1_areEqual : MI yX1_areEqual cX1_areEqual 3 (some .boolean) 3 := ⟨mc_X1_areEqual, mt_X1, ⟨by decide +kernel, by decide +kernel, by decide +kernel⟩, by decide +kernel⟩
theorem mi_X0_agree : MI yX0_agree cX0_agree 6 (some .boolean) 3 := ⟨mc_X0_agree, mt_X0, ⟨by decide +kernel, by decide +kernel, by decide +kernel⟩, by decide +kernel⟩
theorem mm_X0_agree : Cond.instanceMethod yX0_agree ∈ wsG ∧ Cond.selects yX0_agree.cls yX0_agree yX0_agree ∈ wsG := ⟨mn_X0_agree, mv_X0_agree⟩
theorem mi_X0_sideWorth : MI yX0_sideWorth cX0_sideWorth 12 (some .int) 5 := ⟨mc_X0_sideWorth, mt_X0, ⟨by decide +kernel, by decide +kernel, by decide +kernel⟩, by decide +kernel⟩
theorem mm_X0_sideWorth : Cond.instanceMethod yX0_sideWorth ∈ wsG ∧ Cond.selects yX0_sideWorth.cls yX0_sideWorth yX0_sideWorth ∈ wsG := ⟨mn_X0_sideWorth, mv_X0_sideWorth⟩
theorem mi_X0_lastChoice : MI yX0_lastChoice cX0_lastChoice 4 (some .int) 3 := ⟨mc_X0_lastChoice, mt_X0, ⟨by decide +kernel, by decide +kernel, by decide +kernel⟩, by decide +kernel⟩
theorem mm_X0_lastChoice : Cond.instanceMethod yX0_lastChoice ∈ wsG ∧ Cond.selects yX0_lastChoice.cls yX0_lastChoice yX0_lastChoice ∈ wsG := ⟨mn_X0_lastChoice, mv_X0_lastChoice⟩
theorem mi_X0_isChosenWith : MI yX0_isChosenWith cX0_isChosenWith 3 (some .boolean) 2 := ⟨mc_X0_isChosenWith, mt_X0, ⟨by decide +kernel, by decide +kernel, by decide +kernel⟩, by decide +kernel⟩
theorem mm_X0_isChosenWith : Cond.instanceMethod yX0_isChosenWith ∈ wsG ∧ Cond.selects yX0_isChosenWith.cls yX0_isChosenWith yX0_isChosenWith ∈ wsG := ⟨mn_X0_isChosenWith, mv_X0_isChosenWith⟩
theorem mi_X0_firstChoice : MI yX0_firstChoice cX0_firstChoice 3 (some .int) 2 := ⟨mc_X0_firstChoice, mt_X0, ⟨by decide +kernel, by decide +kernel, by decide +kernel⟩, by decide +kernel⟩
theorem mm_X0_firstChoice : Cond.instanceMethod yX0_firstChoice ∈ wsG ∧ Cond.selects yX0_firstChoice.cls yX0_firstChoice yX0_firstChoice ∈ wsG := ⟨mn_X0_firstChoice, mv_X0_firstChoice⟩
theorem mi_X3_rounds : MI yX3_rounds cX3_rounds 5 (some .int) 3 := ⟨mc_X3_rounds, mt_X3, ⟨by decide +kernel, by decide +kernel, by decide +kernel⟩, by decide +kernel⟩
theorem mm_X3_rounds : Cond.instanceMethod yX3_rounds ∈ wsG ∧ Cond.selects yX3_rounds.cls yX3_rounds yX3_rounds ∈ wsG := ⟨mn_X3_rounds, mv_X3_rounds⟩
theorem mi_X3_textLength : MI yX3_textLength cX3_textLength 2 (some .int) 1 := ⟨mc_X3_textLength, mt_X3, ⟨by decide +kernel, by decide +kernel, by decide +kernel⟩, by decide +kernel⟩
theorem mm_X3_textLength : Cond.instanceMethod yX3_textLength ∈ wsG ∧ Cond.selects yX3_textLength.cls yX3_textLength yX3_textLength ∈ wsG := ⟨mn_X3_textLength, mv_X3_textLength⟩
theorem mi_X3_moveCount : MI yX3_moveCount cX3_moveCount 2 (some .int) 1 := ⟨mc_X3_moveCount, mt_X3, ⟨by decide +kernel, by decide +kernel, by decide +kernel⟩, by decide +kernel⟩
theorem mm_X3_moveCount : Cond.instanceMethod yX3_moveCount ∈ wsG ∧ Cond.selects yX3_moveCount.cls yX3_moveCount yX3_moveCount ∈ wsG := ⟨mn_X3_moveCount, mv_X3_moveCount⟩
theorem mi_X2_movesOf : MI yX2_movesOf cX2_movesOf 4 (some .int) 1 := ⟨mc_X2_movesOf, mt_X2, ⟨by decide +kernel, by decide +kernel, by decide +kernel⟩, by decide +kernel⟩
theorem mm_X2_movesOf : Cond.instanceMethod yX2_movesOf ∈ wsG ∧ Cond.selects yX2_movesOf.cls yX2_movesOf yX2_movesOf ∈ wsG := ⟨mn_X2_movesOf, mv_X2_movesOf⟩
theorem mi_X3_removeLast : MI yX3_removeLast cX3_removeLast 2 (some .int) 0 := ⟨mc_X3_removeLast, mt_X3, ⟨by decide +kernel, by decide +kernel, by decide +kernel⟩, by decide +kernel⟩
theorem mm_X3_removeLast : Cond.instanceMethod yX3_removeLast ∈ wsG ∧ Cond.selects yX3_removeLast.cls yX3_removeLast yX3_removeLast ∈ wsG := ⟨mn_X3_removeLast, mv_X3_removeLast⟩
theorem mi_X0_forget : MI yX0_forget cX0_forget 5 none 1 := ⟨mc_X0_forget, mt_X0, ⟨by decide +kernel, by decide +kernel, by decide +kernel⟩, by decide +kernel⟩
theorem mm_X0_forget : Cond.instanceMethod yX0_forget ∈ wsG ∧ Cond.selects yX0_forget.cls yX0_forget yX0_forget ∈ wsG := ⟨mn_X0_forget, mv_X0_forget⟩
theorem mi_X3_firstAttack : MI yX3_firstAttack cX3_firstAttack 5 (some .int) 3 := ⟨mc_X3_firstAttack, mt_X3, ⟨by decide +kernel, by decide +kernel, by decide +kernel⟩, by decide +kernel⟩
theorem mm_X3_firstAttack : Cond.instanceMethod yX3_firstAttack ∈ wsG ∧ Cond.selects yX3_firstAttack.cls yX3_firstAttack yX3_firstAttack ∈ wsG := ⟨mn_X3_firstAttack, mv_X3_firstAttack⟩
theorem mi_X0_attackOf : MI yX0_attackOf cX0_attackOf 7 (some .int) 3 := ⟨mc_X0_attackOf, mt_X0, ⟨by decide +kernel, by decide +kernel, by decide +kernel⟩, by decide +kernel⟩
theorem mm_X0_attackOf : Cond.instanceMethod yX0_attackOf ∈ wsG ∧ Cond.selects yX0_attackOf.cls yX0_attackOf yX0_attackOf ∈ wsG := ⟨mn_X0_attackOf, mv_X0_attackOf⟩
theorem mi_X0_attackWith : MI yX0_attackWith cX0_attackWith 11 (some .int) 4 := ⟨mc_X0_attackWith, mt_X0, ⟨by decide +kernel, by decide +kernel, by decide +kernel⟩, by decide +kernel⟩
theorem mm_X0_attackWith : Cond.instanceMethod yX0_attackWith ∈ wsG ∧ Cond.selects yX0_attackWith.cls yX0_attackWith yX0_attackWith ∈ wsG := ⟨mn_X0_attackWith, mv_X0_attackWith⟩
theorem mi_X3_depthOf : MI yX3_depthOf cX3_depthOf 2 (some .int) 1 := ⟨mc_X3_depthOf, mt_X3, ⟨by decide +kernel, by decide +kernel, by decide +kernel⟩, by decide +kernel⟩
theorem mm_X3_depthOf : Cond.instanceMethod yX3_depthOf ∈ wsG ∧ Cond.selects yX3_depthOf.cls yX3_depthOf yX3_depthOf ∈ wsG := ⟨mn_X3_depthOf, mv_X3_depthOf⟩
theorem mi_X3_needOf : MI yX3_needOf cX3_needOf 2 (some .int) 1 := ⟨mc_X3_needOf, mt_X3, ⟨by decide +kernel, by decide +kernel, by decide +kernel⟩, by decide +kernel⟩
theorem mm_X3_needOf : Cond.instanceMethod yX3_needOf ∈ wsG ∧ Cond.selects yX3_needOf.cls yX3_needOf yX3_needOf ∈ wsG := ⟨mn_X3_needOf, mv_X3_needOf⟩
theorem mi_X3_representative : MI yX3_representative cX3_representative 4 (some .int) 2 := ⟨mc_X3_representative, mt_X3, ⟨by decide +kernel, by decide +kernel, by decide +kernel⟩, by decide +kernel⟩
theorem mm_X3_representative : Cond.instanceMethod yX3_representative ∈ wsG ∧ Cond.selects yX3_representative.cls yX3_representative yX3_representative ∈ wsG := ⟨mn_X3_representative, mv_X3_representative⟩
theorem mi_X3_lowestRelated : MI yX3_lowestRelated cX3_lowestRelated 4 (some .int) 2 := ⟨mc_X3_lowestRelated, mt_X3, ⟨by decide +kernel, by decide +kernel, by decide +kernel⟩, by decide +kernel⟩
theorem mm_X3_lowestRelated : Cond.instanceMethod yX3_lowestRelated ∈ wsG ∧ Cond.selects yX3_lowestRelated.cls yX3_lowestRelated yX3_lowestRelated ∈ wsG := ⟨mn_X3_lowestRelated, mv_X3_lowestRelated⟩
theorem mi_X3_classCount : MI yX3_classCount cX3_classCount 4 (some .int) 1 := ⟨mc_X3_classCount, mt_X3, ⟨by decide +kernel, by decide +kernel, by decide +kernel⟩, by decide +kernel⟩
theorem mm_X3_classCount : Cond.instanceMethod yX3_classCount ∈ wsG ∧ Cond.selects yX3_classCount.cls yX3_classCount yX3_classCount ∈ wsG := ⟨mn_X3_classCount, mv_X3_classCount⟩
end WORLD
end
section
section LEAF
variable {g : Gm} {l : Launch} {μ : Mem}
theorem len_lt (c : Nat) : lenS c ≤ 4140 := by unfold lenS; split <;> omega
theorem c_at {q j : Nat} {v : Int32} (h : isI q = true) (hj : j < lenS q) (hv : μ.1 q j = v) : Ct (GS g) l 0 yX3_at cX3_at 2 (some .int) [.ref (g.1 q), .int (nI j)] μ (Is (.int v) μ) := by
  have hb := len_lt q
  have hj0 : ¬ nI j < 0 := by rw [← nI_0]; exact fun q => by have := (nI_ltI (by omega) (by omega)).mp q; omega
  refine Ct.of (own := RX3) mi_X3_at rfl [some (.ref (g.1 q)), some (.int (nI j))] (Nat.le_of_ble_eq_true rfl) rfl (fun p₀ e₀ s₀ m₀ b₀ h₀ c₀ F => ?_)
  refine V_aload_n F dX3_at_0 rfl ?_
  refine V_ifnull F dX3_at_1 ?_
  refine V_iload_n F dX3_at_4 rfl ?_
  refine V_if_lt_f F (tgt := 20) dX3_at_5 (by decide) (hj0) ?_
  refine V_iload_n F dX3_at_8 rfl ?_
  refine V_aload_n F dX3_at_9 rfl ?_
  refine V_alen F (v := nI (lenS q)) dX3_at_10 0 (wS_int h) rfl rfl ?_
  refine V_icmp_ge_f F (tgt := 20) dX3_at_11 (by decide) (fun hh => by have := (nI_leI (by omega) (by omega)).mp hh; omega) ?_
  refine V_aload_n F dX3_at_14 rfl ?_
  refine V_iload_n F dX3_at_15 rfl ?_
  refine V_ia F dX3_at_16 h rfl hj hv ?_
  refine V_goto F (tgt := 21) dX3_at_17 (by decide) ?_
  exact V_iret F dX3_at_21 (⟨rfl, rfl⟩)
theorem c_at_neg {q : Nat} : Ct (GS g) l 0 yX3_at cX3_at 2 (some .int) [.ref (g.1 q), .int (-1)] μ (Is (.int (nI 0)) μ) := by
  refine Ct.of (own := RX3) mi_X3_at rfl [some (.ref (g.1 q)), some (.int (-1))] (Nat.le_of_ble_eq_true rfl) rfl (fun p₀ e₀ s₀ m₀ b₀ h₀ c₀ F => ?_)
  refine V_aload_n F dX3_at_0 rfl ?_
  refine V_ifnull F dX3_at_1 ?_
  refine V_iload_n F dX3_at_4 rfl ?_
  refine V_if_lt_t F (tgt := 20) dX3_at_5 (by decide) (by decide) ?_
  refine V_iconst F (v := nI 0) dX3_at_20 (by decide) ?_
  exact V_iret F dX3_at_21 (⟨rfl, rfl⟩)
theorem c_atL {j : Nat} {v : Int64} (hj : j < 72) (hv : μ.2 j = v) : Ct (GS g) l 0 yX3_at_ cX3_at_ 2 (some .long) [.ref (g.1 13), .int (nI j)] μ (Is (.long v) μ) := by
  have hj0 : ¬ nI j < 0 := by rw [← nI_0]; exact fun q => by have := (nI_ltI (by omega) (by omega)).mp q; omega
  refine Ct.of (own := RX3) mi_X3_at_ rfl [some (.ref (g.1 13)), some (.int (nI j))] (Nat.le_of_ble_eq_true rfl) rfl (fun p₀ e₀ s₀ m₀ b₀ h₀ c₀ F => ?_)
  refine V_aload_n F dX3_at__0 rfl ?_
  refine V_ifnull F dX3_at__1 ?_
  refine V_iload_n F dX3_at__4 rfl ?_
  refine V_if_lt_f F (tgt := 20) dX3_at__5 (by decide) (hj0) ?_
  refine V_iload_n F dX3_at__8 rfl ?_
  refine V_aload_n F dX3_at__9 rfl ?_
  refine V_alen F (v := nI 72) (q0 := 13) dX3_at__10 1 rfl rfl rfl ?_
  refine V_icmp_ge_f F (tgt := 20) dX3_at__11 (by decide) (fun hh => by have := (nI_leI (by omega) (by omega)).mp hh; omega) ?_
  refine V_aload_n F dX3_at__14 rfl ?_
  refine V_iload_n F dX3_at__15 rfl ?_
  refine V_lald F (q0 := 13) dX3_at__16 rfl (vp_in_nI hj (by omega)) ?_
  rw [nI_clamp (by omega)]
  refine V_goto F (tgt := 21) dX3_at__17 (by decide) ?_
  exact V_lret F dX3_at__21 (⟨by rw [← hv], rfl⟩)
theorem c_put {q j : Nat} {v : Int32} (h : isI q = true) (hj : j < lenS q) : Ct (GS g) l 0 yX3_put cX3_put 3 none [.ref (g.1 q), .int (nI j), .int v] μ (fun r μ' => r = none ∧ μ' = wr μ q j v) := by
  have hb := len_lt q
  have hj0 : ¬ nI j < 0 := by rw [← nI_0]; exact fun q => by have := (nI_ltI (by omega) (by omega)).mp q; omega
  refine Ct.of (own := RX3) mi_X3_put rfl [some (.ref (g.1 q)), some (.int (nI j)), some (.int v)] (Nat.le_of_ble_eq_true rfl) rfl (fun p₀ e₀ s₀ m₀ b₀ h₀ c₀ F => ?_)
  refine V_aload_n F dX3_put_0 rfl ?_
  refine V_ifnull F dX3_put_1 ?_
  refine V_iload_n F dX3_put_4 rfl ?_
  refine V_if_lt_f F (tgt := 18) dX3_put_5 (by decide) (hj0) ?_
  refine V_iload_n F dX3_put_8 rfl ?_
  refine V_aload_n F dX3_put_9 rfl ?_
  refine V_alen F (v := nI (lenS q)) dX3_put_10 0 (wS_int h) rfl rfl ?_
  refine V_icmp_ge_f F (tgt := 18) dX3_put_11 (by decide) (fun hh => by have := (nI_leI (by omega) (by omega)).mp hh; omega) ?_
  refine V_aload_n F dX3_put_14 rfl ?_
  refine V_iload_n F dX3_put_15 rfl ?_
  refine V_iload_n F dX3_put_16 rfl ?_
  refine V_ias F dX3_put_17 h rfl hj ?_
  exact V_vret F dX3_put_18 (⟨rfl, rfl⟩)
theorem c_put_neg {q : Nat} {v : Int32} : Ct (GS g) l 0 yX3_put cX3_put 3 none [.ref (g.1 q), .int (-1), .int v] μ (fun r μ' => r = none ∧ μ' = μ) := by
  refine Ct.of (own := RX3) mi_X3_put rfl [some (.ref (g.1 q)), some (.int (-1)), some (.int v)] (Nat.le_of_ble_eq_true rfl) rfl (fun p₀ e₀ s₀ m₀ b₀ h₀ c₀ F => ?_)
  refine V_aload_n F dX3_put_0 rfl ?_
  refine V_ifnull F dX3_put_1 ?_
  refine V_iload_n F dX3_put_4 rfl ?_
  refine V_if_lt_t F (tgt := 18) dX3_put_5 (by decide) (by decide) ?_
  exact V_vret F dX3_put_18 (⟨rfl, rfl⟩)
theorem c_putL {j : Nat} {v : Int64} (hj : j < 72) : Ct (GS g) l 0 yX3_put_ cX3_put_ 4 none [.ref (g.1 13), .int (nI j), .long v] μ (fun r μ' => r = none ∧ μ' = wrL μ j v) := by
  have hj0 : ¬ nI j < 0 := by rw [← nI_0]; exact fun q => by have := (nI_ltI (by omega) (by omega)).mp q; omega
  refine Ct.of (own := RX3) mi_X3_put_ rfl [some (.ref (g.1 13)), some (.int (nI j)), some (.long v), none] (Nat.le_of_ble_eq_true rfl) rfl (fun p₀ e₀ s₀ m₀ b₀ h₀ c₀ F => ?_)
  refine V_aload_n F dX3_put__0 rfl ?_
  refine V_ifnull F dX3_put__1 ?_
  refine V_iload_n F dX3_put__4 rfl ?_
  refine V_if_lt_f F (tgt := 18) dX3_put__5 (by decide) (hj0) ?_
  refine V_iload_n F dX3_put__8 rfl ?_
  refine V_aload_n F dX3_put__9 rfl ?_
  refine V_alen F (v := nI 72) (q0 := 13) dX3_put__10 1 rfl rfl rfl ?_
  refine V_icmp_ge_f F (tgt := 18) dX3_put__11 (by decide) (fun hh => by have := (nI_leI (by omega) (by omega)).mp hh; omega) ?_
  refine V_aload_n F dX3_put__14 rfl ?_
  refine V_iload_n F dX3_put__15 rfl ?_
  refine V_lload_n F dX3_put__16 rfl ?_
  refine V_last F (q0 := 13) (μ' := wrL μ j v) dX3_put__17 rfl (vp_in_nI hj (by omega)) (by rw [nI_clamp (by omega)]; rfl) ?_
  exact V_vret F dX3_put__18 (⟨rfl, rfl⟩)
/-- an int that is the number of a process -/
def isP (n : Nat) (p : Int32) : Prop := ∃ j, j < n ∧ p = nI j
theorem not_isP {n : Nat} {p : Int32} (hn : n < 2 ^ 31) (h : ¬ isP n p) : p < 0 ∨ (¬ p < 0 ∧ nI n ≤ p) := by
  rcases pk_ix p hn with h1 | h1 | h1
  · exact Or.inl h1
  · by_cases h0 : p < 0
    · exact Or.inl h0
    · exact Or.inr ⟨h0, h1⟩
  · exact absurd h1 h
theorem nI_nn {j : Nat} (hj : j < 2 ^ 31) : ¬ nI j < 0 := by
  rw [← nI_0]; exact fun q => by have := (nI_ltI (by omega) (by omega)).mp q; omega
theorem c_holds_t {n j : Nat} (hc : μ.1 1 0 = nI n) (hn : n ≤ 24) (hj : j < n) : Ct (GS g) l 0 yX2_holds cX2_holds 2 (some .boolean) [.ref (g.1 1), .int (nI j)] μ (Is (.int (nI 1)) μ) := by
  refine Ct.of (own := RX2) mi_X2_holds rfl [some (.ref (g.1 1)), some (.int (nI j))] (Nat.le_of_ble_eq_true rfl) rfl (fun p₀ e₀ s₀ m₀ b₀ h₀ c₀ F => ?_)
  refine V_iload_n F dX2_holds_0 rfl ?_
  refine V_if_lt_f F (tgt := 16) dX2_holds_1 (by decide) (nI_nn (by omega)) ?_
  refine V_iload_n F dX2_holds_4 rfl ?_
  refine V_aload_n F dX2_holds_5 rfl ?_
  refine V_getf F (q0 := 1) (j := 0) lk_X2_50 dX2_holds_6 ig_X2 rfl rfl (by decide) rfl rfl ?_
  refine V_val F (hc) ?_
  refine V_icmp_ge_f F (tgt := 16) dX2_holds_9 (by decide) (fun hh => by have := (nI_leI (by omega) (by omega)).mp hh; omega) ?_
  refine V_iconst F (v := nI 1) dX2_holds_12 (by decide) ?_
  refine V_goto F (tgt := 17) dX2_holds_13 (by decide) ?_
  exact V_zret F dX2_holds_17 (rfl) (⟨rfl, rfl⟩)
theorem c_holds_f {n : Nat} {p : Int32} (hc : μ.1 1 0 = nI n) (hn : n ≤ 24) (hp : ¬ isP n p) : Ct (GS g) l 0 yX2_holds cX2_holds 2 (some .boolean) [.ref (g.1 1), .int p] μ (Is (.int (nI 0)) μ) := by
  refine Ct.of (own := RX2) mi_X2_holds rfl [some (.ref (g.1 1)), some (.int p)] (Nat.le_of_ble_eq_true rfl) rfl (fun p₀ e₀ s₀ m₀ b₀ h₀ c₀ F => ?_)
  rcases not_isP (by omega) hp with h | ⟨h1, h2⟩
  · skip
    refine V_iload_n F dX2_holds_0 rfl ?_
    refine V_if_lt_t F (tgt := 16) dX2_holds_1 (by decide) (h) ?_
    refine V_iconst F (v := nI 0) dX2_holds_16 (by decide) ?_
    exact V_zret F dX2_holds_17 (rfl) (⟨rfl, rfl⟩)
  · skip
    refine V_iload_n F dX2_holds_0 rfl ?_
    refine V_if_lt_f F (tgt := 16) dX2_holds_1 (by decide) (h1) ?_
    refine V_iload_n F dX2_holds_4 rfl ?_
    refine V_aload_n F dX2_holds_5 rfl ?_
    refine V_getf F (q0 := 1) (j := 0) lk_X2_50 dX2_holds_6 ig_X2 rfl rfl (by decide) rfl rfl ?_
    refine V_val F (hc) ?_
    refine V_icmp_ge_t F (tgt := 16) dX2_holds_9 (by decide) (h2) ?_
    refine V_iconst F (v := nI 0) dX2_holds_16 (by decide) ?_
    exact V_zret F dX2_holds_17 (rfl) (⟨rfl, rfl⟩)
theorem c_isClosed {p d : Nat} (hp : p < 24) (hv : μ.1 10 p = nI d) (hd : d < 100) : Ct (GS g) l 1 yX2_isClosed cX2_isClosed 2 (some .boolean) [.ref (g.1 1), .int (nI p)] μ (Is (.int (nI (if d = 0 then 1 else 0))) μ) := by
  refine Ct.of (own := RX2) mi_X2_isClosed rfl [some (.ref (g.1 1)), some (.int (nI p))] (Nat.le_of_ble_eq_true rfl) rfl (fun p₀ e₀ s₀ m₀ b₀ h₀ c₀ F => ?_)
  refine V_aload_n F dX2_isClosed_0 rfl ?_
  refine V_getf F (q0 := 1) (j := 8) lk_X2_33 dX2_isClosed_1 ig_X2 rfl rfl (by decide) rfl rfl ?_
  refine V_iload_n F dX2_isClosed_4 rfl ?_
  refine V_callSNi F (c_at (q := 10) rfl (by simpa [lenS] using hp) hv) mi_X3_at ms_X3_at nk_X2_68 dX2_isClosed_5 (rmR (by omega)) rfl rfl (by decide) (Nat.le_of_ble_eq_true rfl) ?_
  by_cases h : d = 0
  · subst h
    refine V_if_ne_f F (tgt := 15) dX2_isClosed_8 (by decide) (nI_0) ?_
    refine V_iconst F (v := nI 1) dX2_isClosed_11 (by decide) ?_
    refine V_goto F (tgt := 16) dX2_isClosed_12 (by decide) ?_
    exact V_zret F dX2_isClosed_16 (rfl) (⟨rfl, rfl⟩)
  · rw [if_neg h]
    refine V_if_ne_t F (tgt := 15) dX2_isClosed_8 (by decide) (fun q => by rw [← nI_0] at q; have := (nI_eq (by omega) (by omega)).mp q; omega) ?_
    refine V_iconst F (v := nI 0) dX2_isClosed_15 (by decide) ?_
    exact V_zret F dX2_isClosed_16 (rfl) (⟨rfl, rfl⟩)
end LEAF
end
section
/-! ===== lN n to 2^64: shifts, and, or, masks, one bit ===== -/
theorem wb_tb (n : Nat) : (lN n).toBitVec = BitVec.ofNat 64 n := rfl
theorem wb_inj {a b : Int64} (h : a.toBitVec = b.toBitVec) : a = b := Int64.toBitVec_inj.mp h
theorem wb_tn {n : Nat} (h : n < 2 ^ 64) : (lN n).toBitVec.toNat = n := by rw [wb_tb, BitVec.toNat_ofNat, Nat.mod_eq_of_lt h]
theorem wb_of (x : Int64) : ∃ n, n < 2 ^ 64 ∧ x = lN n := ⟨x.toBitVec.toNat, x.toBitVec.isLt, wb_inj (by rw [wb_tb]; simp)⟩
theorem wb_of32 (x : Int32) : ∃ n, n < 2 ^ 32 ∧ x = nI n := ⟨x.toBitVec.toNat, x.toBitVec.isLt, Int32.toBitVec_inj.mp (by show _ = BitVec.ofNat 32 _; simp)⟩
theorem wb_c : ∀ k, k < 64 → ((nI k).toInt64 &&& 63) = lN k := by decide +kernel
theorem wb_cu : ∀ k, k < 64 → ((nI k).toInt64.toUInt64 &&& Int64.toUInt64 63) = UInt64.ofNat k := by decide +kernel
theorem wb_sm : ∀ k, k < 64 → (BitVec.ofNat 64 k).smod 64 = BitVec.ofNat 64 k := by decide +kernel
theorem wb_pw {a b : Nat} (h : a ≤ b) : 2 ^ b = 2 ^ a * 2 ^ (b - a) := by rw [← Nat.pow_add]; congr 1; omega
theorem wb_lt2 {a b : Nat} (h : a < b) : 2 ^ a < 2 ^ b := Nat.pow_lt_pow_right (by decide) h
theorem wb_mod (n : Nat) : lN n = lN (n % 2 ^ 64) := wb_inj (by rw [wb_tb, wb_tb]; apply BitVec.eq_of_toNat_eq; rw [BitVec.toNat_ofNat, BitVec.toNat_ofNat, Nat.mod_mod])
theorem wb_shr {n k : Nat} (hn : n < 2 ^ 64) (hk : k < 64) : ((lN n).toUInt64 >>> ((nI k).toInt64.toUInt64 &&& Int64.toUInt64 63)).toInt64 = lN (n / 2 ^ k) := by
  rw [wb_cu k hk]
  apply wb_inj
  apply BitVec.eq_of_toNat_eq
  show ((lN n).toUInt64 >>> UInt64.ofNat k).toNat = (BitVec.ofNat 64 _).toNat
  have h1 : (UInt64.ofNat k).toNat = k := by
    show (BitVec.ofNat 64 k).toNat = k
    rw [BitVec.toNat_ofNat, Nat.mod_eq_of_lt (by omega)]
  have h2 : (lN n).toUInt64.toNat = n := wb_tn hn
  rw [UInt64.toNat_shiftRight, h1, h2, Nat.mod_eq_of_lt hk, Nat.shiftRight_eq_div_pow, BitVec.toNat_ofNat, Nat.mod_eq_of_lt (Nat.lt_of_le_of_lt (Nat.div_le_self _ _) hn)]
theorem wb_shl (n : Nat) {k : Nat} (hk : k < 64) : lN n <<< ((nI k).toInt64 &&& 63) = lN (n * 2 ^ k) := by
  rw [wb_c k hk]
  apply wb_inj
  rw [Int64.toBitVec_shiftLeft, wb_tb, wb_tb, wb_tb, wb_sm k hk]
  apply BitVec.eq_of_toNat_eq
  rw [BitVec.shiftLeft_eq', BitVec.toNat_shiftLeft, BitVec.toNat_ofNat, BitVec.toNat_ofNat, BitVec.toNat_ofNat, Nat.mod_eq_of_lt (show k < 2 ^ 64 by omega), Nat.shiftLeft_eq, Nat.mul_mod, Nat.mod_mod, ← Nat.mul_mod]
theorem wb_and {a b : Nat} (ha : a < 2 ^ 64) (hb : b < 2 ^ 64) : lN a &&& lN b = lN (a &&& b) := by
  apply wb_inj
  rw [Int64.toBitVec_and, wb_tb, wb_tb, wb_tb]
  apply BitVec.eq_of_toNat_eq
  rw [BitVec.toNat_and, BitVec.toNat_ofNat, BitVec.toNat_ofNat, BitVec.toNat_ofNat, Nat.mod_eq_of_lt ha, Nat.mod_eq_of_lt hb, Nat.mod_eq_of_lt (Nat.and_lt_two_pow _ hb)]
theorem wb_or {a b : Nat} (ha : a < 2 ^ 64) (hb : b < 2 ^ 64) : lN a ||| lN b = lN (a ||| b) := by
  apply wb_inj
  rw [Int64.toBitVec_or, wb_tb, wb_tb, wb_tb]
  apply BitVec.eq_of_toNat_eq
  rw [BitVec.toNat_or, BitVec.toNat_ofNat, BitVec.toNat_ofNat, BitVec.toNat_ofNat, Nat.mod_eq_of_lt ha, Nat.mod_eq_of_lt hb, Nat.mod_eq_of_lt (Nat.or_lt_two_pow ha hb)]
theorem wb_mask {n k : Nat} (hn : n < 2 ^ 64) (hk : k < 64) : lN n &&& lN (2 ^ k - 1) = lN (n % 2 ^ k) := by
  rw [wb_and hn (by have := wb_lt2 hk; omega), Nat.and_two_pow_sub_one_eq_mod]
theorem wb_a1 {n : Nat} (hn : n < 2 ^ 64) : lN n &&& 1 = lN (n % 2) := wb_mask (k := 1) hn (by decide)
theorem wb_bit {n k : Nat} (hn : n < 2 ^ 64) (hk : k < 64) : ((lN n).toUInt64 >>> ((nI k).toInt64.toUInt64 &&& Int64.toUInt64 63)).toInt64 &&& 1 = lN (n / 2 ^ k % 2) := by
  rw [wb_shr hn hk, wb_a1 (Nat.lt_of_le_of_lt (Nat.div_le_self _ _) hn)]
theorem wb_xor {q k : Nat} (hk : k < 63) (h : 2 ^ k ≤ q) (h2 : q < 2 ^ (k + 1)) : lN q ^^^ lN (2 ^ k) = lN (q - 2 ^ k) := by
  obtain ⟨r, rfl⟩ : ∃ r, q = 2 ^ k + r := ⟨q - 2 ^ k, by omega⟩
  have hr : r < 2 ^ k := by rw [Nat.pow_succ] at h2; omega
  have hx : (2 ^ k + r) ^^^ 2 ^ k = r := by
    apply Nat.eq_of_testBit_eq
    intro i
    rw [Nat.testBit_xor, Nat.testBit_two_pow]
    rcases Nat.lt_trichotomy i k with h | h | h
    · rw [Nat.testBit_two_pow_add_gt h]
      simp [show ¬ k = i by omega]
    · subst h
      rw [Nat.testBit_two_pow_add_eq]
      simp
    · have a1 : 2 ^ (k + 1) ≤ 2 ^ i := Nat.pow_le_pow_right (by decide) h
      rw [Nat.testBit_lt_two_pow (show 2 ^ k + r < 2 ^ i by omega), Nat.testBit_lt_two_pow (show r < 2 ^ i by omega)]
      simp [show ¬ k = i by omega]
  have b1 := wb_lt2 (show k + 1 < 64 by omega)
  have b2 := wb_lt2 (show k < 64 by omega)
  apply wb_inj
  rw [Int64.toBitVec_xor, wb_tb, wb_tb, wb_tb]
  apply BitVec.eq_of_toNat_eq
  rw [BitVec.toNat_xor, BitVec.toNat_ofNat, BitVec.toNat_ofNat, BitVec.toNat_ofNat, Nat.mod_eq_of_lt (by omega : 2 ^ k + r < 2 ^ 64), Nat.mod_eq_of_lt b2, hx, Nat.add_sub_cancel_left, Nat.mod_eq_of_lt (by omega)]
/-! ===== nI under and, xor, >>>, one bit, 65535 ===== -/
theorem nx_and (a b : Nat) : nI a &&& nI b = nI (a &&& b) := by
  apply Int32.toBitVec_inj.1
  show BitVec.ofNat 32 a &&& BitVec.ofNat 32 b = BitVec.ofNat 32 (a &&& b)
  apply BitVec.eq_of_getLsbD_eq
  intro i hi
  simp [hi]
theorem nx_xor (a b : Nat) : nI a ^^^ nI b = nI (a ^^^ b) := by
  apply Int32.toBitVec_inj.1
  show BitVec.ofNat 32 a ^^^ BitVec.ofNat 32 b = BitVec.ofNat 32 (a ^^^ b)
  apply BitVec.eq_of_getLsbD_eq
  intro i hi
  simp [hi]
theorem nx_cnt : ∀ j : Fin 32, (UInt32.ofNat j.val &&& Int32.toUInt32 31).toNat % 32 = j.val := by decide +kernel
theorem nx_ush {k j : Nat} (hk : k < 65536) (hj : j < 32) : ((nI k).toUInt32 >>> ((nI j).toUInt32 &&& Int32.toUInt32 31)).toInt32 = nI (k >>> j) := by
  have hs : k >>> j ≤ k := by
    rw [Nat.shiftRight_eq_div_pow]
    exact Nat.div_le_self _ _
  have e2 : UInt32.ofNat k >>> (UInt32.ofNat j &&& Int32.toUInt32 31) = UInt32.ofNat (k >>> j) := by
    apply UInt32.toNat_inj.1
    have h1 : (UInt32.ofNat k).toNat = k := Nat.mod_eq_of_lt (by omega)
    have h2 : (UInt32.ofNat (k >>> j)).toNat = k >>> j := Nat.mod_eq_of_lt (by omega)
    rw [UInt32.toNat_shiftRight, nx_cnt ⟨j, hj⟩, h1, h2]
  show (UInt32.ofNat k >>> (UInt32.ofNat j &&& Int32.toUInt32 31)).toInt32 = _
  rw [e2]
  rfl
theorem nx_bit {k j : Nat} (hk : k < 65536) (hj : j < 16) : (((nI k).toUInt32 >>> ((nI j).toUInt32 &&& Int32.toUInt32 31)).toInt32 &&& 1) = 0 ↔ k.testBit j = false := by
  rw [nx_ush hk (by omega)]
  show nI (k >>> j) &&& nI 1 = 0 ↔ _
  rw [nx_and, Nat.and_one_is_mod, ← nI_0, nI_eq (by omega) (by omega), Nat.testBit_eq_decide_div_mod_eq, Nat.shiftRight_eq_div_pow, decide_eq_false_iff_not]
  generalize k / 2 ^ j = z
  omega
theorem nx_mod (k : Nat) : nI k &&& 65535 = nI (k % 65536) := by
  show nI k &&& nI 65535 = _
  rw [nx_and, show (65535 : Nat) = 2 ^ 16 - 1 from rfl, Nat.and_two_pow_sub_one_eq_mod]
theorem nx_m16 {k : Nat} (h : k < 65536) : nI k &&& 65535 = nI k := by rw [nx_mod, Nat.mod_eq_of_lt h]
theorem nx_mask (x : Int32) : ∃ k, k < 65536 ∧ x &&& 65535 = nI k := by
  have e : x = nI x.toBitVec.toNat := by
    apply Int32.toBitVec_inj.1
    show x.toBitVec = BitVec.ofNat 32 x.toBitVec.toNat
    simp
  refine ⟨x.toBitVec.toNat % 65536, Nat.mod_lt _ (by omega), ?_⟩
  rw [← nx_mod, ← e]
end
section
section SPEC
theorem List.any_congr_of {α : Type} {l : List α} {f g : α → Bool} (h : ∀ a ∈ l, f a = g a) : l.any f = l.any g := by
  induction l with
  | nil => rfl
  | cons x r ih => rw [List.any_cons, List.any_cons, h x List.mem_cons_self, ih fun a ha => h a (List.mem_cons_of_mem _ ha)]
theorem List.all_congr_of {α : Type} {l : List α} {f g : α → Bool} (h : ∀ a ∈ l, f a = g a) : l.all f = l.all g := by
  induction l with
  | nil => rfl
  | cons x r ih => rw [List.all_cons, List.all_cons, h x List.mem_cons_self, ih fun a ha => h a (List.mem_cons_of_mem _ ha)]
abbrev Tb : Type := Nat → Nat → Nat
/-- a name's value: by the packed values of the class, by the list of received names, by the model's number -/
def xv (r x : Nat) : Nat := if x < 3 then x else r / 8 ^ (x - 3) % 8
def vl (l : List Nat) (x : Nat) : Nat := if x < 3 then x else l.getD (x - 3) 0
def mvl (r x : Nat) : Nat := if x < 3 then x else r / 6 ^ (x - 3) % 6
def rc : List Nat → Nat
  | [] => 1
  | v :: l => 8 * rc l + v
def md : List Nat → Nat
  | [] => 0
  | v :: l => 6 * md l + v
/-- the next fresh name -/
def fr : List Nat → Nat
  | [] => 3
  | v :: l => max (fr l) (v + 1)
def lok : List Nat → Prop
  | [] => True
  | v :: l => v ≤ fr l ∧ lok l
theorem fr_ge (l : List Nat) : 3 ≤ fr l := by
  induction l with
  | nil => simp [fr]
  | cons v l ih => simp only [fr]; omega
theorem fr_le {l : List Nat} (h : lok l) : fr l ≤ 3 + l.length := by
  induction l with
  | nil => simp [fr]
  | cons v l ih =>
    have := ih h.2
    have := h.1
    simp only [fr, List.length_cons]; omega
theorem fr_cons {l : List Nat} {v : Nat} (h : v ≤ fr l) : fr (v :: l) = if v = fr l then fr l + 1 else fr l := by
  simp only [fr]; split <;> omega
theorem vl_lt {l : List Nat} (h : lok l) (hl : l.length ≤ 3) (x : Nat) : vl l x < 6 := by
  unfold vl
  split
  · omega
  · match l, h, hl with
    | [], _, _ => simp
    | [a], h, _ =>
      have h1 := h.1
      simp only [fr] at h1
      match x - 3 with
      | 0 => simp; omega
      | k + 1 => simp
    | [a, b], h, _ =>
      obtain ⟨h1, h2, -⟩ := h
      simp only [fr] at h1 h2
      match x - 3 with
      | 0 => simp; omega
      | 1 => simp; omega
      | k + 2 => simp
    | [a, b, d], h, _ =>
      obtain ⟨h1, h2, h3, -⟩ := h
      simp only [fr] at h1 h2 h3
      match x - 3 with
      | 0 => simp; omega
      | 1 => simp; omega
      | 2 => simp; omega
      | k + 3 => simp
theorem xv_rc {l : List Nat} (h : lok l) (hl : l.length ≤ 3) {x : Nat} (hx : x < 3 + l.length) : xv (rc l) x = vl l x := by
  unfold xv vl
  split
  · rfl
  · match l, h, hl, hx with
    | [], _, _, hx => simp at hx; omega
    | [a], h, _, hx =>
      have h1 := h.1
      simp only [fr] at h1
      obtain rfl : x = 3 := by simp at hx; omega
      simp [rc]; omega
    | [a, b], h, _, hx =>
      obtain ⟨h1, h2, -⟩ := h
      simp only [fr] at h1 h2
      rcases (by simp at hx; omega : x = 3 ∨ x = 4) with rfl | rfl
      · simp [rc]; omega
      · simp [rc]; omega
    | [a, b, d], h, _, hx =>
      obtain ⟨h1, h2, h3, -⟩ := h
      simp only [fr] at h1 h2 h3
      have ha : a ≤ 5 := by omega
      have hb : b ≤ 4 := by omega
      have hd : d ≤ 3 := by omega
      clear h1 h2 h3
      rcases (by simp at hx; omega : x = 3 ∨ x = 4 ∨ x = 5) with rfl | rfl | rfl
      · simp [rc]; omega
      · simp [rc]; omega
      · have e : (8 * (8 * (8 + d) + b) + a) / 64 = 8 + d := by omega
        simp [rc, e]; omega
theorem mvl_md {l : List Nat} (h : lok l) (hl : l.length ≤ 3) {x : Nat} (hx : x < 6) : mvl (md l) x = vl l x := by
  unfold mvl vl
  split
  · rfl
  · match l, h, hl with
    | [], _, _ => simp [md]
    | [a], h, _ =>
      have h1 := h.1
      simp only [fr] at h1
      rcases (by omega : x = 3 ∨ x = 4 ∨ x = 5) with rfl | rfl | rfl
      · simp [md]; omega
      · simp [md]; omega
      · simp [md]; omega
    | [a, b], h, _ =>
      obtain ⟨h1, h2, -⟩ := h
      simp only [fr] at h1 h2
      rcases (by omega : x = 3 ∨ x = 4 ∨ x = 5) with rfl | rfl | rfl
      · simp [md]; omega
      · simp [md]; omega
      · simp [md]; omega
    | [a, b, d], h, _ =>
      obtain ⟨h1, h2, h3, -⟩ := h
      simp only [fr] at h1 h2 h3
      have ha : a ≤ 5 := by omega
      have hb : b ≤ 4 := by omega
      have hd : d ≤ 3 := by omega
      clear h1 h2 h3
      rcases (by omega : x = 3 ∨ x = 4 ∨ x = 5) with rfl | rfl | rfl
      · simp [md]; omega
      · simp [md]; omega
      · have e : (6 * (6 * d + b) + a) / 36 = d := by omega
        simp [md, e]; omega
theorem rc_lt {l : List Nat} (h : lok l) (hl : l.length ≤ 3) : rc l < 2 ^ 12 ∧ md l < 216 ∧ (l.length ≤ 2 → rc l < 2 ^ 9 ∧ md l < 36) := by
  match l, h, hl with
  | [], _, _ => simp [rc, md]
  | [a], h, _ =>
    have h1 := h.1
    simp only [fr] at h1
    simp [rc, md]; omega
  | [a, b], h, _ =>
    obtain ⟨h1, h2, -⟩ := h
    simp only [fr] at h1 h2
    simp [rc, md]; omega
  | [a, b, d], h, _ =>
    obtain ⟨h1, h2, h3, -⟩ := h
    simp only [fr] at h1 h2 h3
    simp [rc, md]; omega
/-- the class's own search for the next fresh name -/
theorem xv3 (r : Nat) : xv r 3 = r % 8 := by simp [xv]
theorem xv4 (r : Nat) : xv r 4 = r / 8 % 8 := by simp [xv]
theorem xv5 (r : Nat) : xv r 5 = r / 64 % 8 := by simp [xv]
theorem fr_rc {l : List Nat} (h : lok l) (hl : l.length ≤ 3) : max (max (max 3 (xv (rc l) 3 + 1)) (xv (rc l) 4 + 1)) (xv (rc l) 5 + 1) = fr l := by
  rw [xv3, xv4, xv5]
  match l, h, hl with
  | [], _, _ => simp [rc, fr]
  | [a], h, _ =>
    have h1 := h.1
    simp only [fr] at h1
    simp only [rc, fr]
    have e1 : (8 * 1 + a) % 8 = a := by omega
    have e2 : (8 * 1 + a) / 8 % 8 = 1 := by omega
    have e3 : (8 * 1 + a) / 64 % 8 = 0 := by omega
    rw [e1, e2, e3]; omega
  | [a, b], h, _ =>
    obtain ⟨h1, h2, -⟩ := h
    simp only [fr] at h1 h2
    simp only [rc, fr]
    have ha : a ≤ 5 := by omega
    have hb : b ≤ 4 := by omega
    have e1 : (8 * (8 * 1 + b) + a) % 8 = a := by omega
    have e2 : (8 * (8 * 1 + b) + a) / 8 % 8 = b := by omega
    have e3 : (8 * (8 * 1 + b) + a) / 64 % 8 = 1 := by omega
    rw [e1, e2, e3]; omega
  | [a, b, d], h, _ =>
    obtain ⟨h1, h2, h3, -⟩ := h
    simp only [fr] at h1 h2 h3
    simp only [rc, fr]
    have ha : a ≤ 5 := by omega
    have hb : b ≤ 4 := by omega
    have hd : d ≤ 3 := by omega
    have e1 : (8 * (8 * (8 * 1 + d) + b) + a) % 8 = a := by omega
    have e2 : (8 * (8 * (8 * 1 + d) + b) + a) / 8 % 8 = b := by omega
    have e3 : (8 * (8 * (8 * 1 + d) + b) + a) / 64 % 8 = d := by
      have e : (8 * (8 * (8 * 1 + d) + b) + a) / 64 = 8 + d := by omega
      rw [e]; omega
    rw [e1, e2, e3]; omega
/-- a table of processes: fields 0 kind, 1 x, 2 y, 3 p, 4 q, 5 depth, 6 breadth, 7 need, 8 length -/
def hdl : Nat → Nat
  | 1 => 2
  | 2 => 4
  | 3 => 3
  | 4 => 5
  | _ => 1
def WFp (T : Tb) (p : Nat) : Prop :=
  (1 ≤ T 0 p ∧ T 0 p ≤ 5 ∧ T 1 p < 6 ∧ T 2 p < 6 ∧ T 3 p < p ∧ T 4 p < p) ∧
  ((T 0 p = 1 → T 1 p = 0 ∧ T 2 p = 0) ∧ (T 0 p = 3 → T 2 p = 0) ∧ (T 0 p = 5 → T 1 p = 0 ∧ T 2 p = 0) ∧ (T 0 p ≠ 5 → T 4 p = 0)) ∧
  (T 5 p = max (T 5 (T 3 p)) (T 5 (T 4 p)) + (if T 0 p ≤ 3 then 1 else 0) ∧ T 5 p ≤ 3) ∧
  (T 6 p = (if T 0 p ≤ 3 then 1 else T 6 (T 3 p) + T 6 (T 4 p)) ∧ T 6 p ≤ 3) ∧
  T 7 p = max (max (T 1 p) (T 2 p) - 2) (max (T 7 (T 3 p) - (if T 0 p = 3 then 1 else 0)) (T 7 (T 4 p))) ∧
  T 8 p = hdl (T 0 p) + T 8 (T 3 p) + (if T 0 p = 5 then T 8 (T 4 p) + 2 else 0)
def WF (T : Tb) (n : Nat) : Prop := (1 ≤ n ∧ n ≤ 24) ∧ (T 0 0 = 0 ∧ T 1 0 = 0 ∧ T 2 0 = 0 ∧ T 3 0 = 0 ∧ T 4 0 = 0 ∧ T 5 0 = 0 ∧ T 6 0 = 0 ∧ T 7 0 = 0 ∧ T 8 0 = 1) ∧ ∀ p, 0 < p → p < n → WFp T p
def actsF (T : Tb) : Nat → Nat → List (Nat × List (Nat × Nat))
  | 0, _ => []
  | f + 1, p => if T 0 p = 0 then [] else if T 0 p ≤ 3 then [(p, [])] else if T 0 p = 4 then (actsF T f (T 3 p)).map (fun a => (a.1, (T 1 p, T 2 p) :: a.2)) else actsF T f (T 3 p) ++ actsF T f (T 4 p)
def acts (T : Tb) (p : Nat) : List (Nat × List (Nat × Nat)) := actsF T (p + 1) p
variable {T : Tb} {n : Nat}
theorem actsF_eq (hW : WF T n) : ∀ (p : Nat), p < n → ∀ f, p < f → actsF T f p = acts T p := by
  intro p
  induction p using Nat.strongRecOn with
  | ind p ih =>
    intro hp f hf
    obtain ⟨f, rfl⟩ : ∃ k, f = k + 1 := ⟨f - 1, by omega⟩
    unfold acts
    simp only [actsF]
    split
    · rfl
    · rename_i h0
      have hp0 : 0 < p := by
        rcases Nat.eq_zero_or_pos p with h | h
        · subst h; exact absurd hW.2.1.1 h0
        · exact h
      obtain ⟨⟨-, -, -, -, h3, h4⟩, -⟩ := hW.2.2 p hp0 hp
      split
      · rfl
      · split
        · rw [ih _ h3 (by omega) f (by omega), ih _ h3 (by omega) p (by omega)]
        · rw [ih _ h3 (by omega) f (by omega), ih _ h3 (by omega) p (by omega), ih _ h4 (by omega) f (by omega), ih _ h4 (by omega) p (by omega)]
theorem acts_eq (hW : WF T n) {p : Nat} (hp : p < n) : acts T p = if T 0 p = 0 then [] else if T 0 p ≤ 3 then [(p, [])] else if T 0 p = 4 then (acts T (T 3 p)).map (fun a => (a.1, (T 1 p, T 2 p) :: a.2)) else acts T (T 3 p) ++ acts T (T 4 p) := by
  conv => lhs; unfold acts
  simp only [actsF]
  split
  · rfl
  · rename_i h0
    have hp0 : 0 < p := by
      rcases Nat.eq_zero_or_pos p with h | h
      · subst h; exact absurd hW.2.1.1 h0
      · exact h
    obtain ⟨⟨-, -, -, -, h3, h4⟩, -⟩ := hW.2.2 p hp0 hp
    split
    · rfl
    · split
      · rw [actsF_eq hW _ (by omega) p h3]
      · rw [actsF_eq hW _ (by omega) p h3, actsF_eq hW _ (by omega) p h4]
/-- facts of a process below n -/
theorem WF.kind (hW : WF T n) {p : Nat} (hp : p < n) : T 0 p ≤ 5 := by
  rcases Nat.eq_zero_or_pos p with h | h
  · subst h; have := hW.2.1.1; omega
  · exact (hW.2.2 p h hp).1.2.1
theorem WF.name (hW : WF T n) {p : Nat} (hp : p < n) : T 1 p < 6 ∧ T 2 p < 6 := by
  rcases Nat.eq_zero_or_pos p with h | h
  · subst h; obtain ⟨-, ⟨-, h1, h2, -⟩, -⟩ := hW; omega
  · exact ⟨(hW.2.2 p h hp).1.2.2.1, (hW.2.2 p h hp).1.2.2.2.1⟩
theorem WF.part (hW : WF T n) {p : Nat} (hp : p < n) : T 3 p ≤ p ∧ T 4 p ≤ p ∧ T 3 p < n ∧ T 4 p < n := by
  rcases Nat.eq_zero_or_pos p with h | h
  · subst h; obtain ⟨-, ⟨-, h1, h2, h3, h4, -⟩, -⟩ := hW; omega
  · have := (hW.2.2 p h hp).1.2.2.2.2; omega
theorem WF.depth (hW : WF T n) {p : Nat} (hp : p < n) : T 5 p ≤ 3 ∧ T 6 p ≤ 3 := by
  rcases Nat.eq_zero_or_pos p with h | h
  · subst h; obtain ⟨-, ⟨-, -, -, -, -, h5, h6, -⟩, -⟩ := hW; omega
  · obtain ⟨-, -, h5, h6, -⟩ := hW.2.2 p h hp; omega
theorem WF.need (hW : WF T n) : ∀ {p : Nat}, p < n → T 7 p ≤ 3 := by
  intro p
  induction p using Nat.strongRecOn with
  | ind p ih =>
    intro hp
    rcases Nat.eq_zero_or_pos p with h | h
    · subst h; obtain ⟨-, ⟨-, -, -, -, -, -, -, h7, -⟩, -⟩ := hW; omega
    · obtain ⟨⟨-, -, h1, h2, h3, h4⟩, -, -, -, h7, -⟩ := hW.2.2 p h hp
      have a := ih _ h3 (by omega)
      have b := ih _ h4 (by omega)
      omega
theorem hdl_le (k : Nat) : 1 ≤ hdl k ∧ hdl k ≤ 5 := by
  unfold hdl; split <;> omega
theorem WF.len (hW : WF T n) : ∀ {p : Nat}, p < n → 1 ≤ T 8 p ∧ T 8 p + 5 ≤ 8 * 2 ^ p := by
  intro p
  induction p using Nat.strongRecOn with
  | ind p ih =>
    intro hp
    rcases Nat.eq_zero_or_pos p with h | h
    · subst h; obtain ⟨-, ⟨-, -, -, -, -, -, -, -, h8⟩, -⟩ := hW; omega
    · obtain ⟨⟨-, -, -, -, h3, h4⟩, -, -, -, -, h8⟩ := hW.2.2 p h hp
      have a := ih _ h3 (by omega)
      have b := ih _ h4 (by omega)
      have := hdl_le (T 0 p)
      obtain ⟨k, rfl⟩ : ∃ k, p = k + 1 := ⟨p - 1, by omega⟩
      have e3 : 2 ^ (T 3 (k + 1)) ≤ 2 ^ k := Nat.pow_le_pow_right (by omega) (by omega)
      have e4 : 2 ^ (T 4 (k + 1)) ≤ 2 ^ k := Nat.pow_le_pow_right (by omega) (by omega)
      have e5 : 1 ≤ 2 ^ k := Nat.one_le_two_pow
      rw [Nat.pow_succ]
      split at h8
      · rename_i hk
        rw [hk] at h8
        simp only [hdl] at h8
        omega
      · omega
theorem WF.len_lt (hW : WF T n) {p : Nat} (hp : p < n) : 1 ≤ T 8 p ∧ T 8 p < 2 ^ 27 := by
  have h := hW.len hp
  have : (2 : Nat) ^ p ≤ 2 ^ 23 := Nat.pow_le_pow_right (by omega) (by have := hW.1.2; omega)
  omega
theorem acts_len (hW : WF T n) : ∀ {p : Nat}, p < n → (acts T p).length = T 6 p := by
  intro p
  induction p using Nat.strongRecOn with
  | ind p ih =>
    intro hp
    rw [acts_eq hW hp]
    rcases Nat.eq_zero_or_pos p with h | h
    · subst h
      obtain ⟨-, ⟨h0, -, -, -, -, -, h6, -⟩, -⟩ := hW
      rw [if_pos h0, h6]; rfl
    · obtain ⟨⟨hk1, hk2, -, -, h3, h4⟩, ⟨-, -, -, hq⟩, -, ⟨h6, -⟩, -⟩ := hW.2.2 p h hp
      rw [if_neg (by omega)]
      split
      · rename_i hk
        rw [if_pos hk] at h6
        rw [h6]; rfl
      · rename_i hk
        rw [if_neg hk] at h6
        split
        · rename_i hk4
          rw [List.length_map, ih _ h3 (by omega), h6, hq (by omega)]
          have := hW.2.1.2.2.2.2.2.2.1
          omega
        · rw [List.length_append, ih _ h3 (by omega), ih _ h4 (by omega), h6]
/-- what an action with which p can begin is -/
theorem acts_mem (hW : WF T n) : ∀ {p : Nat}, p < n → ∀ a ∈ acts T p, a.1 ≤ p ∧ 0 < a.1 ∧ 1 ≤ T 0 a.1 ∧ T 0 a.1 ≤ 3 ∧ T 5 a.1 ≤ T 5 p ∧ T 7 a.1 ≤ T 7 p ∧ ∀ q ∈ a.2, q.1 < 3 + T 7 p ∧ q.2 < 3 + T 7 p ∧ q.1 < 6 ∧ q.2 < 6 := by
  intro p
  induction p using Nat.strongRecOn with
  | ind p ih =>
    intro hp a ha
    rw [acts_eq hW hp] at ha
    rcases Nat.eq_zero_or_pos p with h | h
    · subst h
      rw [if_pos hW.2.1.1] at ha
      cases ha
    · obtain ⟨⟨hk1, hk2, hx, hy, h3, h4⟩, ⟨-, -, -, hq⟩, ⟨h5, -⟩, -, h7, -⟩ := hW.2.2 p h hp
      rw [if_neg (by omega)] at ha
      split at ha
      · rename_i hk
        obtain rfl := List.mem_singleton.mp ha
        exact ⟨Nat.le_refl _, h, hk1, hk, Nat.le_refl _, Nat.le_refl _, fun q hq => by cases hq⟩
      · rename_i hk
        rw [if_neg hk] at h5
        rw [if_neg (by omega)] at h7
        split at ha
        · obtain ⟨b, hb, rfl⟩ := List.mem_map.mp ha
          obtain ⟨a1, a2, a3, a4, a5, a6, a7⟩ := ih _ h3 (by omega) b hb
          refine ⟨by show b.1 ≤ p; omega, a2, a3, a4, by show T 5 b.1 ≤ _; omega, by show T 7 b.1 ≤ _; omega, fun q hq => ?_⟩
          rcases List.mem_cons.mp hq with rfl | hq
          · simp only; omega
          · have := a7 q hq; omega
        · rcases List.mem_append.mp ha with hb | hb
          · obtain ⟨a1, a2, a3, a4, a5, a6, a7⟩ := ih _ h3 (by omega) a hb
            exact ⟨by omega, a2, a3, a4, by omega, by omega, fun q hq => by have := a7 q hq; omega⟩
          · obtain ⟨a1, a2, a3, a4, a5, a6, a7⟩ := ih _ h4 (by omega) a hb
            exact ⟨by omega, a2, a3, a4, by omega, by omega, fun q hq => by have := a7 q hq; omega⟩
/-- what an action is, and where it leads -/
theorem act_facts (hW : WF T n) {p : Nat} (hp : p < n) (h1 : 1 ≤ T 0 p) (h3 : T 0 p ≤ 3) : T 1 p < 3 + T 7 p ∧ T 2 p < 3 + T 7 p ∧ T 3 p < p ∧ T 5 (T 3 p) + 1 ≤ T 5 p ∧ T 7 (T 3 p) ≤ T 7 p + (if T 0 p = 3 then 1 else 0) := by
  have h : 0 < p := by
    rcases Nat.eq_zero_or_pos p with h | h
    · subst h; have := hW.2.1.1; omega
    · exact h
  obtain ⟨⟨hk1, hk2, hx, hy, hp3, h4⟩, ⟨-, -, -, hq⟩, ⟨h5, -⟩, -, h7, -⟩ := hW.2.2 p h hp
  rw [if_pos h3] at h5
  refine ⟨by omega, by omega, hp3, by omega, by
    by_cases hk : T 0 p = 3
    · rw [if_pos hk] at h7 ⊢; omega
    · rw [if_neg hk] at h7 ⊢; omega⟩
def openb (l : List Nat) (gs : List (Nat × Nat)) : Bool := gs.all fun q => vl l q.1 == vl l q.2
def mvs (T : Tb) (p : Nat) (l : List Nat) : List Nat := ((acts T p).filter (fun a => openb l a.2)).map (·.1)
/-- the action in a slot, if the values let it happen -/
def slG {α : Type} (as : List (Nat × α)) (f : α → Bool) (s : Nat) : Option Nat := match as[s]? with
  | some a => if f a.2 = true then some a.1 else none
  | none => none
def slA (T : Tb) (p : Nat) (l : List Nat) (s : Nat) : Option Nat := slG (acts T p) (openb l) s
def ri : Option Nat → Int32
  | some a => nI a
  | none => -4
theorem slA_list {α : Type} (as : List (Nat × α)) (f : α → Bool) (h : as.length ≤ 3) : (as.filter (fun a => f a.2)).map (·.1) = (List.range 3).filterMap (slG as f) := by
  match as, h with
  | [], _ => rfl
  | [a], _ => by_cases h1 : f a.2 = true <;> simp [List.range_succ, List.filter_cons, List.filterMap_cons, slG, h1]
  | [a, b], _ => by_cases h1 : f a.2 = true <;> by_cases h2 : f b.2 = true <;> simp [List.range_succ, List.filter_cons, List.filterMap_cons, slG, h1, h2]
  | [a, b, d], _ => by_cases h1 : f a.2 = true <;> by_cases h2 : f b.2 = true <;> by_cases h3 : f d.2 = true <;> simp [List.range_succ, List.filter_cons, List.filterMap_cons, slG, h1, h2, h3]
theorem mvs_eq (hW : WF T n) {p : Nat} (hp : p < n) (l : List Nat) : mvs T p l = (List.range 3).filterMap (slA T p l) := by
  unfold mvs
  exact slA_list (acts T p) (openb l) (by rw [acts_len hW hp]; exact (hW.depth hp).2)
theorem slA_mem {p s a : Nat} {l : List Nat} (h : slA T p l s = some a) : ∃ gs, (a, gs) ∈ acts T p ∧ openb l gs = true := by
  unfold slA slG at h
  split at h
  · rename_i b hb
    split at h
    · rename_i ho
      cases h
      exact ⟨b.2, List.mem_of_getElem? hb, ho⟩
    · cases h
  · cases h
theorem mvs_mem (hW : WF T n) {p a : Nat} (hp : p < n) {l : List Nat} (h : a ∈ mvs T p l) : a ≤ p ∧ 0 < a ∧ 1 ≤ T 0 a ∧ T 0 a ≤ 3 ∧ T 5 a ≤ T 5 p ∧ T 7 a ≤ T 7 p := by
  obtain ⟨b, hb, rfl⟩ := List.mem_map.mp h
  obtain ⟨h1, h2, h3, h4, h5, h6, -⟩ := acts_mem hW hp b (List.mem_filter.mp hb).1
  exact ⟨h1, h2, h3, h4, h5, h6⟩
/-- an answer to an attack -/
def agr (T : Tb) (l : List Nat) (a b : Nat) : Bool := T 0 a == T 0 b && vl l (T 1 a) == vl l (T 1 b) && vl l (T 2 a) == vl l (T 2 b)
/-- the names that are chosen with an attack; 9: none -/
def nms (T : Tb) (rel a : Nat) (l : List Nat) : List Nat := if T 0 a = 3 ∧ rel = 1 then List.range (fr l + 1) else [9]
/-- behind an answer: the names that lead on, all of them the attacker's choice -/
def nxt (T : Tb) (rel a v : Nat) (l : List Nat) : List (List Nat) := if T 0 a = 3 then (if rel = 0 then [fr l :: l] else if rel = 1 then [v :: l] else (List.range (fr l + 1)).map (· :: l)) else [l]
/-- the attacker can force a win within so many rounds -/
def win (T : Tb) (rel : Nat) : Nat → Nat → Nat → List Nat → Bool
  | 0, _, _, _ => false
  | k + 1, p, q, l =>
    ((mvs T p l).any fun a => (nms T rel a l).any fun v => (mvs T q l).all fun b => !agr T l a b || (nxt T rel a v l).any fun l' => win T rel k (T 3 a) (T 3 b) l') ||
    ((mvs T q l).any fun a => (nms T rel a l).any fun v => (mvs T p l).all fun b => !agr T l a b || (nxt T rel a v l).any fun l' => win T rel k (T 3 a) (T 3 b) l')
def flw (T : Tb) (rel k a v b : Nat) (l : List Nat) : Bool := (nxt T rel a v l).any fun l' => win T rel k (T 3 a) (T 3 b) l'
def hld (T : Tb) (rel k a v q : Nat) (l : List Nat) : Bool := (mvs T q l).all fun b => !agr T l a b || flw T rel k a v b l
def sid (T : Tb) (rel k p q : Nat) (l : List Nat) : Bool := (mvs T p l).any fun a => (nms T rel a l).any fun v => hld T rel k a v q l
theorem win_eq (T : Tb) (rel k p q : Nat) (l : List Nat) : win T rel (k + 1) p q l = (sid T rel k p q l || sid T rel k q p l) := rfl
theorem agr_refl (l : List Nat) (a : Nat) : agr T l a a = true := by simp [agr]
theorem agr_symm (l : List Nat) (a b : Nat) : agr T l a b = agr T l b a := by
  simp only [agr, Bool.beq_comm]
theorem win_symm (rel : Nat) : ∀ (k p q : Nat) (l : List Nat), win T rel k p q l = win T rel k q p l := by
  intro k p q l
  cases k with
  | zero => rfl
  | succ k => rw [win_eq, win_eq, Bool.or_comm]
theorem win_refl (rel : Nat) : ∀ (k p : Nat) (l : List Nat), win T rel k p p l = false := by
  intro k
  induction k with
  | zero => intros; rfl
  | succ k ih =>
    intro p l
    rw [win_eq, Bool.or_self]
    unfold sid
    rw [List.any_eq_false]
    intro a ha
    rw [Bool.not_eq_true, List.any_eq_false]
    intro v hv
    rw [Bool.not_eq_true]
    unfold hld
    rw [List.all_eq_false]
    refine ⟨a, ha, ?_⟩
    rw [agr_refl]
    simp only [flw, Bool.not_true, Bool.false_or, Bool.not_eq_true, List.any_eq_false]
    intro l' _
    rw [ih]
theorem win_mono (rel : Nat) : ∀ (k p q : Nat) (l : List Nat), win T rel k p q l = true → win T rel (k + 1) p q l = true := by
  intro k
  induction k with
  | zero => intro p q l h; cases h
  | succ k ih =>
    have key : ∀ p q l, sid T rel k p q l = true → sid T rel (k + 1) p q l = true := by
      intro p q l h
      unfold sid at h ⊢
      obtain ⟨a, ha, h⟩ := List.any_eq_true.mp h
      obtain ⟨v, hv, h⟩ := List.any_eq_true.mp h
      refine List.any_eq_true.mpr ⟨a, ha, List.any_eq_true.mpr ⟨v, hv, ?_⟩⟩
      unfold hld at h ⊢
      refine List.all_eq_true.mpr fun b hb => ?_
      have h := List.all_eq_true.mp h b hb
      simp only [Bool.or_eq_true, flw, List.any_eq_true] at h ⊢
      rcases h with h | ⟨l', hl, h⟩
      · exact Or.inl h
      · exact Or.inr ⟨l', hl, ih _ _ _ h⟩
    intro p q l h
    rw [win_eq, Bool.or_eq_true] at h ⊢
    exact h.imp (key _ _ _) (key _ _ _)
theorem win_le (rel : Nat) {j k p q : Nat} {l : List Nat} (hjk : j ≤ k) (h : win T rel j p q l = true) : win T rel k p q l = true := by
  induction hjk with
  | refl => exact h
  | step _ ih => exact win_mono rel _ _ _ _ ih
/-- no more rounds than the depth -/
theorem win_depth (hW : WF T n) (rel : Nat) : ∀ (k p q : Nat) (l : List Nat), p < n → q < n → T 5 p ≤ k → T 5 q ≤ k → win T rel (k + 1) p q l = true → win T rel k p q l = true := by
  intro k
  induction k with
  | zero =>
    intro p q l hp hq h1 h2 h
    have e : ∀ p, p < n → T 5 p ≤ 0 → mvs T p l = [] := by
      intro p hp h5
      rcases hm : mvs T p l with _ | ⟨a, r⟩
      · rfl
      · obtain ⟨a1, a2, a3, a4, a5, a6⟩ := mvs_mem hW hp (l := l) (a := a) (by rw [hm]; exact List.mem_cons_self)
        have := act_facts hW (by omega) a3 a4
        omega
    rw [win_eq] at h
    simp [sid, e p hp h1, e q hq h2] at h
  | succ k ih =>
    have key : ∀ p q l, p < n → q < n → T 5 p ≤ k + 1 → T 5 q ≤ k + 1 → sid T rel (k + 1) p q l = true → sid T rel k p q l = true := by
      intro p q l hp hq h1 h2 h
      unfold sid at h ⊢
      obtain ⟨a, ha, h⟩ := List.any_eq_true.mp h
      obtain ⟨v, hv, h⟩ := List.any_eq_true.mp h
      refine List.any_eq_true.mpr ⟨a, ha, List.any_eq_true.mpr ⟨v, hv, ?_⟩⟩
      unfold hld at h ⊢
      refine List.all_eq_true.mpr fun b hb => ?_
      have h := List.all_eq_true.mp h b hb
      simp only [Bool.or_eq_true, flw, List.any_eq_true] at h ⊢
      rcases h with h | ⟨l', hl, h⟩
      · exact Or.inl h
      · obtain ⟨a1, a2, a3, a4, a5, a6⟩ := mvs_mem hW hp ha
        obtain ⟨b1, b2, b3, b4, b5, b6⟩ := mvs_mem hW hq hb
        obtain ⟨-, -, c3, c5, -⟩ := act_facts hW (by omega) a3 a4
        obtain ⟨-, -, d3, d5, -⟩ := act_facts hW (by omega) b3 b4
        exact Or.inr ⟨l', hl, ih _ _ _ (by omega) (by omega) (by omega) (by omega) h⟩
    intro p q l hp hq h1 h2 h
    rw [win_eq, Bool.or_eq_true] at h ⊢
    exact h.imp (key _ _ _ hp hq h1 h2) (key _ _ _ hq hp h2 h1)
theorem win_stop (hW : WF T n) (rel : Nat) {j k p q : Nat} {l : List Nat} (hp : p < n) (hq : q < n) (h1 : T 5 p ≤ j) (h2 : T 5 q ≤ j) (hjk : j ≤ k) : win T rel k p q l = win T rel j p q l := by
  induction hjk with
  | refl => rfl
  | @step m hm ih =>
    rw [← ih]
    rw [Bool.eq_iff_iff]
    exact ⟨win_depth hW rel _ _ _ _ hp hq (by have : j ≤ m := hm; omega) (by have : j ≤ m := hm; omega), win_mono rel _ _ _ _⟩
/-- the least number of rounds up to k, or 4 -/
def Sp (r : Nat) (P : Nat → Bool) (k : Nat) : Prop := (r ≤ k ∨ r = 4) ∧ ∀ j, j ≤ k → (r ≤ j ↔ P j = true)
/-- tables that agree below n say the same there -/
theorem acts_congr {T' : Tb} {n' : Nat} (hW : WF T n) (hW' : WF T' n') (hn : n ≤ n') (hT : ∀ f p, p < n → T' f p = T f p) : ∀ p, p < n → acts T' p = acts T p := by
  intro p
  induction p using Nat.strongRecOn with
  | ind p ih =>
    intro hp
    rw [acts_eq hW hp, acts_eq hW' (by omega)]
    simp only [hT _ _ hp]
    split
    · rfl
    · rename_i h0
      have hp0 : 0 < p := by
        rcases Nat.eq_zero_or_pos p with h | h
        · subst h; exact absurd hW.2.1.1 h0
        · exact h
      obtain ⟨⟨-, -, -, -, h3, h4⟩, -⟩ := hW.2.2 p hp0 hp
      split
      · rfl
      · split
        · rw [ih _ h3 (by omega)]
        · rw [ih _ h3 (by omega), ih _ h4 (by omega)]
theorem win_congr {T' : Tb} {n' : Nat} (hW : WF T n) (hW' : WF T' n') (hn : n ≤ n') (hT : ∀ f p, p < n → T' f p = T f p) (rel : Nat) : ∀ k p q l, p < n → q < n → win T' rel k p q l = win T rel k p q l := by
  have hm : ∀ p l, p < n → mvs T' p l = mvs T p l := fun p l hp => by unfold mvs; rw [acts_congr hW hW' hn hT p hp]
  intro k
  induction k with
  | zero => intros; rfl
  | succ k ih =>
    have key : ∀ p q l, p < n → q < n → sid T' rel k p q l = sid T rel k p q l := by
      intro p q l hp hq
      unfold sid
      rw [hm p l hp]
      refine List.any_congr_of ?_
      intro a ha
      obtain ⟨a1, a2, a3, a4, -⟩ := mvs_mem hW hp ha
      have han : a < n := by omega
      have hpa := (hW.part han).2.2.1
      have e1 : nms T' rel a l = nms T rel a l := by unfold nms; rw [hT _ _ han]
      rw [e1]
      refine List.any_congr_of ?_
      intro v hv
      unfold hld
      rw [hm q l hq]
      refine List.all_congr_of ?_
      intro b hb
      obtain ⟨b1, b2, b3, b4, -⟩ := mvs_mem hW hq hb
      have hbn : b < n := by omega
      have hpb := (hW.part hbn).2.2.1
      have e2 : agr T' l a b = agr T l a b := by unfold agr; simp only [hT _ _ han, hT _ _ hbn]
      have e3 : nxt T' rel a v l = nxt T rel a v l := by unfold nxt; simp only [hT _ _ han]
      unfold flw
      rw [e2, e3]
      congr 1
      refine List.any_congr_of ?_
      intro l' _
      rw [hT _ _ han, hT _ _ hbn]
      exact ih _ _ _ hpa hpb
    intro p q l hp hq
    rw [win_eq, win_eq, key p q l hp hq, key q p l hq hp]
end SPEC
end
section
section CLEAF
variable {g : Gm} {l : Launch} {μ : Mem}
theorem nI_or (a b : Nat) : nI a ||| nI b = nI (a ||| b) := by
  apply Int32.toBitVec_inj.1
  show BitVec.ofNat 32 a ||| BitVec.ofNat 32 b = BitVec.ofNat 32 (a ||| b)
  apply BitVec.eq_of_getLsbD_eq
  intro i hi
  simp [hi]
theorem or_sum8 {r v : Nat} (h : v < 8) : (r * 8) ||| v = 8 * r + v := by
  have := Nat.shiftLeft_add_eq_or_of_lt (b := v) (i := 3) (by simpa using h) r
  rw [Nat.shiftLeft_eq] at this
  rw [← this]; omega
theorem nI_nz {j : Nat} (hj : j < 2 ^ 31) (h : j ≠ 0) : ¬ nI j = 0 := by
  rw [← nI_0]; exact fun q => h ((nI_eq (by omega) (by omega)).mp q)
theorem and7 (r : Nat) : nI r &&& nI 7 = nI (r % 8) := by
  rw [nx_and]
  congr 1
  exact Nat.and_two_pow_sub_one_eq_mod r 3
theorem c_valueOf {x r : Nat} (hx : x < 6) (hr : r < 2 ^ 31) : Ct (GS g) l (0) yX1_valueOf cX1_valueOf 2 (some .int) [.int (nI x), .int (nI r)] μ (Is (.int (nI (xv r x))) μ) := by
  refine Ct.of (own := RX1) mi_X1_valueOf rfl [some (.int (nI x)), some (.int (nI r))] (Nat.le_of_ble_eq_true rfl) rfl (fun p₀ e₀ s₀ m₀ b₀ h₀ c₀ F => ?_)
  refine V_iload_n F dX1_valueOf_0 rfl ?_
  refine V_iconst F (v := nI 3) dX1_valueOf_1 (by decide) ?_
  refine V_icmp_ge_N F (tgt := 7) dX1_valueOf_2 (by decide) (by omega) (by omega) (fun h => ?_) (fun h => ?_)
  · skip
    refine V_iload_n F dX1_valueOf_7 rfl ?_
    refine V_iconst F (v := nI 3) dX1_valueOf_8 (by decide) ?_
    refine V_iload_n F dX1_valueOf_9 rfl ?_
    refine V_iconst F (v := nI 3) dX1_valueOf_10 (by decide) ?_
    refine V_isubN F (h) dX1_valueOf_11 ?_
    (first | refine V_imulN F dX1_valueOf_12 ?_ | refine V_imul F dX1_valueOf_12 ?_)
    have e : nI r >>> (nI (3 * (x - 3)) &&& 31) = nI (r / 8 ^ (x - 3)) := by
      rcases (by omega : x = 3 ∨ x = 4 ∨ x = 5) with rfl | rfl | rfl
      · exact pk_shrN hr _ 0 (by decide +kernel)
      · exact pk_shrN hr _ 3 (by decide +kernel)
      · exact pk_shrN hr _ 6 (by decide +kernel)
    refine V_ishr F dX1_valueOf_13 ?_
    refine V_val F (e) ?_
    refine V_bipush F (v := nI 7) dX1_valueOf_14 (by decide) ?_
    refine V_iand F dX1_valueOf_16 ?_
    refine V_val F (and7 _) ?_
    exact V_iret F dX1_valueOf_17 (⟨by rw [xv, if_neg (by omega)], rfl⟩)
  · skip
    refine V_iload_n F dX1_valueOf_5 rfl ?_
    exact V_iret F dX1_valueOf_6 (⟨by rw [xv, if_pos (by omega)], rfl⟩)
theorem c_with {r v : Nat} (hr : r < 2 ^ 27) (hv : v < 8) : Ct (GS g) l (0) yX1_with cX1_with 2 (some .int) [.int (nI r), .int (nI v)] μ (Is (.int (nI (8 * r + v))) μ) := by
  refine Ct.of (own := RX1) mi_X1_with rfl [some (.int (nI r)), some (.int (nI v))] (Nat.le_of_ble_eq_true rfl) rfl (fun p₀ e₀ s₀ m₀ b₀ h₀ c₀ F => ?_)
  refine V_iload_n F dX1_with_0 rfl ?_
  refine V_iconst F (v := nI 3) dX1_with_1 (by decide) ?_
  refine V_ishl F dX1_with_2 ?_
  refine V_val F (pk_shlN _ 3 (by decide +kernel) (by omega)) ?_
  refine V_iload_n F dX1_with_3 rfl ?_
  refine V_ior F dX1_with_4 ?_
  refine V_val F ((nI_or _ _).trans (congrArg nI (or_sum8 hv))) ?_
  exact V_iret F dX1_with_5 (⟨rfl, rfl⟩)
theorem c_areEqual {x y r : Nat} (hx : x < 6) (hy : y < 6) (hr : r < 2 ^ 31) : Ct (GS g) l (1) yX1_areEqual cX1_areEqual 3 (some .boolean) [.int (nI x), .int (nI y), .int (nI r)] μ (Is (.int (nI (if xv r x = xv r y then 1 else 0))) μ) := by
  have hb : ∀ x, x < 6 → xv r x < 8 := fun x hx => by unfold xv; split <;> omega
  have hbx := hb x hx
  have hby := hb y hy
  refine Ct.of (own := RX1) mi_X1_areEqual rfl [some (.int (nI x)), some (.int (nI y)), some (.int (nI r))] (Nat.le_of_ble_eq_true rfl) rfl (fun p₀ e₀ s₀ m₀ b₀ h₀ c₀ F => ?_)
  refine V_iload_n F dX1_areEqual_0 rfl ?_
  refine V_iload_n F dX1_areEqual_1 rfl ?_
  refine V_callSi F (c_valueOf hx hr) mi_X1_valueOf ms_X1_valueOf lk_X1_11 dX1_areEqual_2 (rmR (by omega)) rfl rfl (by decide) (Nat.le_of_ble_eq_true rfl) ?_
  refine V_iload_n F dX1_areEqual_5 rfl ?_
  refine V_iload_n F dX1_areEqual_6 rfl ?_
  refine V_callSi F (c_valueOf hy hr) mi_X1_valueOf ms_X1_valueOf lk_X1_11 dX1_areEqual_7 (rmR (by omega)) rfl rfl (by decide) (Nat.le_of_ble_eq_true rfl) ?_
  refine V_icmp_ne_N F (tgt := 17) dX1_areEqual_10 (by decide) (by omega) (by omega) (fun h => ?_) (fun h => ?_)
  · rw [if_neg h]
    refine V_iconst F (v := nI 0) dX1_areEqual_17 (by decide) ?_
    exact V_zret F dX1_areEqual_18 (rfl) (⟨rfl, rfl⟩)
  · rw [if_pos (Classical.not_not.mp h)]
    refine V_iconst F (v := nI 1) dX1_areEqual_13 (by decide) ?_
    refine V_goto F (tgt := 18) dX1_areEqual_14 (by decide) ?_
    exact V_zret F dX1_areEqual_18 (rfl) (⟨rfl, rfl⟩)
theorem c_nextFresh {r : Nat} (hr : r < 2 ^ 31) : Ct (GS g) l (1) yX1_nextFresh cX1_nextFresh 3 (some .int) [.int (nI r)] μ (Is (.int (nI (max (max (max 3 (xv r 3 + 1)) (xv r 4 + 1)) (xv r 5 + 1)))) μ) := by
  have hb : ∀ x, x < 6 → xv r x < 8 := fun x hx => by unfold xv; split <;> omega
  have hb3 := hb 3 (by omega)
  have hb4 := hb 4 (by omega)
  have hb5 := hb 5 (by omega)
  refine Ct.of (own := RX1) mi_X1_nextFresh rfl [some (.int (nI r)), none, none] (Nat.le_of_ble_eq_true rfl) rfl (fun p₀ e₀ s₀ m₀ b₀ h₀ c₀ F => ?_)
  refine V_iconst F (v := nI 3) dX1_nextFresh_0 (by decide) ?_
  refine V_istore_n F (lv' := [_, _, _]) dX1_nextFresh_1 (by decide) rfl rfl ?_
  refine V_iconst F (v := nI 3) dX1_nextFresh_2 (by decide) ?_
  refine V_istore_n F (lv' := [_, _, _]) dX1_nextFresh_3 (by decide) rfl rfl ?_
  refine V_iload_n F dX1_nextFresh_4 rfl ?_
  refine V_bipush F (v := nI 6) dX1_nextFresh_5 (by decide) ?_
  refine V_icmp_ge_f F (tgt := 28) dX1_nextFresh_7 (by decide) (by decide) ?_
  refine V_iload_n F dX1_nextFresh_10 rfl ?_
  refine V_iload_n F dX1_nextFresh_11 rfl ?_
  refine V_iload_n F dX1_nextFresh_12 rfl ?_
  refine V_callSi F (c_valueOf (by omega) hr) mi_X1_valueOf ms_X1_valueOf lk_X1_11 dX1_nextFresh_13 (rmR (by omega)) rfl rfl (by decide) (Nat.le_of_ble_eq_true rfl) ?_
  refine V_iconst F (v := nI 1) dX1_nextFresh_16 (by decide) ?_
  (first | refine V_iaddN F dX1_nextFresh_17 ?_ | refine V_iadd F dX1_nextFresh_17 ?_)
  refine V_maxN F lk_X1_15 dX1_nextFresh_18 (rmM (by omega) (Nat.le_of_ble_eq_true rfl)) (by omega) (by omega) ?_
  refine V_istore_n F (lv' := [_, _, _]) dX1_nextFresh_21 (by decide) rfl rfl ?_
  refine V_iinc F (lv' := [_, _, _]) dX1_nextFresh_22 rfl (by decide) rfl rfl ?_
  refine V_goto F (tgt := 4) dX1_nextFresh_25 (by decide) ?_
  refine V_iload_n F dX1_nextFresh_4 rfl ?_
  refine V_bipush F (v := nI 6) dX1_nextFresh_5 (by decide) ?_
  refine V_icmp_ge_f F (tgt := 28) dX1_nextFresh_7 (by decide) (by decide) ?_
  refine V_iload_n F dX1_nextFresh_10 rfl ?_
  refine V_iload_n F dX1_nextFresh_11 rfl ?_
  refine V_iload_n F dX1_nextFresh_12 rfl ?_
  refine V_callSi F (c_valueOf (x := 4) (by omega) hr) mi_X1_valueOf ms_X1_valueOf lk_X1_11 dX1_nextFresh_13 (rmR (by omega)) rfl rfl (by decide) (Nat.le_of_ble_eq_true rfl) ?_
  refine V_iconst F (v := nI 1) dX1_nextFresh_16 (by decide) ?_
  (first | refine V_iaddN F dX1_nextFresh_17 ?_ | refine V_iadd F dX1_nextFresh_17 ?_)
  refine V_maxN F lk_X1_15 dX1_nextFresh_18 (rmM (by omega) (Nat.le_of_ble_eq_true rfl)) (by omega) (by omega) ?_
  refine V_istore_n F (lv' := [_, _, _]) dX1_nextFresh_21 (by decide) rfl rfl ?_
  refine V_iinc F (lv' := [_, _, _]) dX1_nextFresh_22 rfl (by decide) rfl rfl ?_
  refine V_goto F (tgt := 4) dX1_nextFresh_25 (by decide) ?_
  refine V_iload_n F dX1_nextFresh_4 rfl ?_
  refine V_bipush F (v := nI 6) dX1_nextFresh_5 (by decide) ?_
  refine V_icmp_ge_f F (tgt := 28) dX1_nextFresh_7 (by decide) (by decide) ?_
  refine V_iload_n F dX1_nextFresh_10 rfl ?_
  refine V_iload_n F dX1_nextFresh_11 rfl ?_
  refine V_iload_n F dX1_nextFresh_12 rfl ?_
  refine V_callSi F (c_valueOf (x := 5) (by omega) hr) mi_X1_valueOf ms_X1_valueOf lk_X1_11 dX1_nextFresh_13 (rmR (by omega)) rfl rfl (by decide) (Nat.le_of_ble_eq_true rfl) ?_
  refine V_iconst F (v := nI 1) dX1_nextFresh_16 (by decide) ?_
  (first | refine V_iaddN F dX1_nextFresh_17 ?_ | refine V_iadd F dX1_nextFresh_17 ?_)
  refine V_maxN F lk_X1_15 dX1_nextFresh_18 (rmM (by omega) (Nat.le_of_ble_eq_true rfl)) (by omega) (by omega) ?_
  refine V_istore_n F (lv' := [_, _, _]) dX1_nextFresh_21 (by decide) rfl rfl ?_
  refine V_iinc F (lv' := [_, _, _]) dX1_nextFresh_22 rfl (by decide) rfl rfl ?_
  refine V_goto F (tgt := 4) dX1_nextFresh_25 (by decide) ?_
  refine V_iload_n F dX1_nextFresh_4 rfl ?_
  refine V_bipush F (v := nI 6) dX1_nextFresh_5 (by decide) ?_
  refine V_icmp_ge_t F (tgt := 28) dX1_nextFresh_7 (by decide) (by decide) ?_
  refine V_iload_n F dX1_nextFresh_28 rfl ?_
  exact V_iret F dX1_nextFresh_29 (⟨rfl, rfl⟩)
theorem c_isAction {k : Nat} (hk : k < 6) : Ct (GS g) l (0) yX2_isAction cX2_isAction 1 (some .boolean) [.int (nI k)] μ (Is (.int (nI (if 1 ≤ k ∧ k ≤ 3 then 1 else 0))) μ) := by
  refine Ct.of (own := RX2) mi_X2_isAction rfl [some (.int (nI k))] (Nat.le_of_ble_eq_true rfl) rfl (fun p₀ e₀ s₀ m₀ b₀ h₀ c₀ F => ?_)
  refine V_iload_n F dX2_isAction_0 rfl ?_
  refine V_iconst F (v := nI 1) dX2_isAction_1 (by decide) ?_
  refine V_icmp_eq_N F (tgt := 15) dX2_isAction_2 (by decide) (by omega) (by omega) (fun h => ?_) (fun h => ?_)
  · rw [if_pos (by omega)]
    refine V_iconst F (v := nI 1) dX2_isAction_15 (by decide) ?_
    refine V_goto F (tgt := 20) dX2_isAction_16 (by decide) ?_
    exact V_zret F dX2_isAction_20 (rfl) (⟨rfl, rfl⟩)
  · skip
    refine V_iload_n F dX2_isAction_5 rfl ?_
    refine V_iconst F (v := nI 2) dX2_isAction_6 (by decide) ?_
    refine V_icmp_eq_N F (tgt := 15) dX2_isAction_7 (by decide) (by omega) (by omega) (fun h => ?_) (fun h => ?_)
    · rw [if_pos (by omega)]
      refine V_iconst F (v := nI 1) dX2_isAction_15 (by decide) ?_
      refine V_goto F (tgt := 20) dX2_isAction_16 (by decide) ?_
      exact V_zret F dX2_isAction_20 (rfl) (⟨rfl, rfl⟩)
    · skip
      refine V_iload_n F dX2_isAction_10 rfl ?_
      refine V_iconst F (v := nI 3) dX2_isAction_11 (by decide) ?_
      refine V_icmp_ne_N F (tgt := 19) dX2_isAction_12 (by decide) (by omega) (by omega) (fun h => ?_) (fun h => ?_)
      · rw [if_neg (by omega)]
        refine V_iconst F (v := nI 0) dX2_isAction_19 (by decide) ?_
        exact V_zret F dX2_isAction_20 (rfl) (⟨rfl, rfl⟩)
      · rw [if_pos (by omega)]
        refine V_iconst F (v := nI 1) dX2_isAction_15 (by decide) ?_
        refine V_goto F (tgt := 20) dX2_isAction_16 (by decide) ?_
        exact V_zret F dX2_isAction_20 (rfl) (⟨rfl, rfl⟩)
theorem c_isName_t {j : Nat} (hj : j < 6) : Ct (GS g) l (0) yX3_isName cX3_isName 1 (some .boolean) [.int (nI j)] μ (Is (.int (nI 1)) μ) := by
  refine Ct.of (own := RX3) mi_X3_isName rfl [some (.int (nI j))] (Nat.le_of_ble_eq_true rfl) rfl (fun p₀ e₀ s₀ m₀ b₀ h₀ c₀ F => ?_)
  refine V_iload_n F dX3_isName_0 rfl ?_
  refine V_if_lt_f F (tgt := 14) dX3_isName_1 (by decide) (nI_nn (by omega)) ?_
  refine V_iload_n F dX3_isName_4 rfl ?_
  refine V_bipush F (v := nI 6) dX3_isName_5 (by decide) ?_
  refine V_icmp_ge_N F (tgt := 14) dX3_isName_7 (by decide) (by omega) (by omega) (fun h => ?_) (fun h => ?_)
  · omega
  · skip
    refine V_iconst F (v := nI 1) dX3_isName_10 (by decide) ?_
    refine V_goto F (tgt := 15) dX3_isName_11 (by decide) ?_
    exact V_zret F dX3_isName_15 (rfl) (⟨rfl, rfl⟩)
theorem c_isName_f {p : Int32} (hp : ¬ isP 6 p) : Ct (GS g) l (0) yX3_isName cX3_isName 1 (some .boolean) [.int p] μ (Is (.int (nI 0)) μ) := by
  refine Ct.of (own := RX3) mi_X3_isName rfl [some (.int p)] (Nat.le_of_ble_eq_true rfl) rfl (fun p₀ e₀ s₀ m₀ b₀ h₀ c₀ F => ?_)
  rcases not_isP (by omega) hp with h | ⟨h1, h2⟩
  · skip
    refine V_iload_n F dX3_isName_0 rfl ?_
    refine V_if_lt_t F (tgt := 14) dX3_isName_1 (by decide) (h) ?_
    refine V_iconst F (v := nI 0) dX3_isName_14 (by decide) ?_
    exact V_zret F dX3_isName_15 (rfl) (⟨rfl, rfl⟩)
  · skip
    refine V_iload_n F dX3_isName_0 rfl ?_
    refine V_if_lt_f F (tgt := 14) dX3_isName_1 (by decide) (h1) ?_
    refine V_iload_n F dX3_isName_4 rfl ?_
    refine V_bipush F (v := nI 6) dX3_isName_5 (by decide) ?_
    refine V_icmp_ge_t F (tgt := 14) dX3_isName_7 (by decide) (h2) ?_
    refine V_iconst F (v := nI 0) dX3_isName_14 (by decide) ?_
    exact V_zret F dX3_isName_15 (rfl) (⟨rfl, rfl⟩)
theorem c_isRel_t {j : Nat} (hj : j < 3) : Ct (GS g) l (0) yX3_isRelation cX3_isRelation 1 (some .boolean) [.int (nI j)] μ (Is (.int (nI 1)) μ) := by
  refine Ct.of (own := RX3) mi_X3_isRelation rfl [some (.int (nI j))] (Nat.le_of_ble_eq_true rfl) rfl (fun p₀ e₀ s₀ m₀ b₀ h₀ c₀ F => ?_)
  refine V_iload_n F dX3_isRelation_0 rfl ?_
  refine V_if_lt_f F (tgt := 13) dX3_isRelation_1 (by decide) (nI_nn (by omega)) ?_
  refine V_iload_n F dX3_isRelation_4 rfl ?_
  refine V_iconst F (v := nI 3) dX3_isRelation_5 (by decide) ?_
  refine V_icmp_ge_N F (tgt := 13) dX3_isRelation_6 (by decide) (by omega) (by omega) (fun h => ?_) (fun h => ?_)
  · omega
  · skip
    refine V_iconst F (v := nI 1) dX3_isRelation_9 (by decide) ?_
    refine V_goto F (tgt := 14) dX3_isRelation_10 (by decide) ?_
    exact V_zret F dX3_isRelation_14 (rfl) (⟨rfl, rfl⟩)
theorem c_isRel_f {p : Int32} (hp : ¬ isP 3 p) : Ct (GS g) l (0) yX3_isRelation cX3_isRelation 1 (some .boolean) [.int p] μ (Is (.int (nI 0)) μ) := by
  refine Ct.of (own := RX3) mi_X3_isRelation rfl [some (.int p)] (Nat.le_of_ble_eq_true rfl) rfl (fun p₀ e₀ s₀ m₀ b₀ h₀ c₀ F => ?_)
  rcases not_isP (by omega) hp with h | ⟨h1, h2⟩
  · skip
    refine V_iload_n F dX3_isRelation_0 rfl ?_
    refine V_if_lt_t F (tgt := 13) dX3_isRelation_1 (by decide) (h) ?_
    refine V_iconst F (v := nI 0) dX3_isRelation_13 (by decide) ?_
    exact V_zret F dX3_isRelation_14 (rfl) (⟨rfl, rfl⟩)
  · skip
    refine V_iload_n F dX3_isRelation_0 rfl ?_
    refine V_if_lt_f F (tgt := 13) dX3_isRelation_1 (by decide) (h1) ?_
    refine V_iload_n F dX3_isRelation_4 rfl ?_
    refine V_iconst F (v := nI 3) dX3_isRelation_5 (by decide) ?_
    refine V_icmp_ge_t F (tgt := 13) dX3_isRelation_6 (by decide) (h2) ?_
    refine V_iconst F (v := nI 0) dX3_isRelation_13 (by decide) ?_
    exact V_zret F dX3_isRelation_14 (rfl) (⟨rfl, rfl⟩)
/-- the guards' bits, read against packed values -/
def gsb (w r : Nat) : Bool := (List.range 36).all fun i => !(w.testBit i) || (xv r (i / 6) == xv r (i % 6))
theorem lN_0 : (0 : Int64) = lN 0 := rfl
theorem lN_eq0 {w : Nat} (hw : w < 2 ^ 63) : lN w = 0 ↔ w = 0 := by
  rw [lN_0]; exact pk_lEQ hw (by omega)
theorem c_isOpen {w r : Nat} (hw : w < 2 ^ 36) (hr : r < 2 ^ 31) : Ct (GS g) l (2) yX2_isOpen cX2_isOpen 6 (some .boolean) [.long (lN w), .int (nI r)] μ (Is (.int (nI (if gsb w r = true then 1 else 0))) μ) := by
  have hb : ∀ x, x < 6 → xv r x < 8 := fun x hx => by unfold xv; split <;> omega
  refine Ct.of (own := RX2) mi_X2_isOpen rfl [some (.long (lN w)), none, some (.int (nI r)), none, none, none] (Nat.le_of_ble_eq_true rfl) rfl (fun p₀ e₀ s₀ m₀ b₀ h₀ c₀ F => ?_)
  refine V_lload_n F dX2_isOpen_0 rfl ?_
  refine V_lconst F (v := 0) dX2_isOpen_1 rfl ?_
  refine V_lcmp F dX2_isOpen_2 ?_
  by_cases h0 : w = 0
  · subst h0
    have e : gsb 0 r = true := by simp [gsb]
    rw [if_pos e]
    refine V_if_ne_f F (tgt := 8) dX2_isOpen_3 (by decide) ((lg_cmp_eq _ _).mpr rfl) ?_
    refine V_iconst F (v := nI 1) dX2_isOpen_6 (by decide) ?_
    exact V_zret F dX2_isOpen_7 (rfl) (⟨rfl, rfl⟩)
  · skip
    refine V_if_ne_t F (tgt := 8) dX2_isOpen_3 (by decide) (fun q => h0 ((lN_eq0 (by omega)).mp ((lg_cmp_eq _ _).mp q))) ?_
    have loop : ∀ (k i : Nat), i + k = 36 → (∀ j, j < i → (!(w.testBit j) || (xv r (j / 6) == xv r (j % 6))) = true) → V (GS g) p₀ l e₀ (rmD (2)) s₀ m₀ (List.toArray [.long (lN w), .int (nI r)]) b₀ h₀ c₀ 6 0 0 (MQ b₀ (Qp (GS g) (Is (.int (nI (if gsb w r = true then 1 else 0))) μ)) (List.toArray [.long (lN w), .int (nI r)]) s₀ 0 0 (gA (GS g))) 10 ([some (.long (lN w)), none, some (.int (nI r)), some (.int (nI i)), none, none]) ([]) (μ) := by
      intro k
      induction k with
      | zero =>
        intro i hi hall
        have e : gsb w r = true := List.all_eq_true.mpr fun j hj => hall j (by have := List.mem_range.mp hj; omega)
        rw [if_pos e]
        refine V_iload_n F dX2_isOpen_10 rfl ?_
        refine V_bipush F (v := nI 36) dX2_isOpen_11 (by decide) ?_
        refine V_icmp_ge_N F (tgt := 57) dX2_isOpen_13 (by decide) (by omega) (by omega) (fun h => ?_) (fun h => ?_)
        · skip
          refine V_iconst F (v := nI 1) dX2_isOpen_57 (by decide) ?_
          exact V_zret F dX2_isOpen_58 (rfl) (⟨rfl, rfl⟩)
        · omega
      | succ k ih =>
        intro i hi hall
        refine V_iload_n F dX2_isOpen_10 rfl ?_
        refine V_bipush F (v := nI 36) dX2_isOpen_11 (by decide) ?_
        refine V_icmp_ge_N F (tgt := 57) dX2_isOpen_13 (by decide) (by omega) (by omega) (fun h => ?_) (fun h => ?_)
        · omega
        · skip
          refine V_iload_n F dX2_isOpen_16 rfl ?_
          refine V_bipush F (v := nI 6) dX2_isOpen_17 (by decide) ?_
          refine V_idiv F dX2_isOpen_19 (by decide) ?_
          refine V_val F (pk_div (by omega) (by omega) (by omega)) ?_
          refine V_istore F (lv' := [_, _, _, _, _, _]) dX2_isOpen_20 (by decide) rfl rfl ?_
          refine V_iload_n F dX2_isOpen_22 rfl ?_
          refine V_bipush F (v := nI 6) dX2_isOpen_23 (by decide) ?_
          refine V_irem F dX2_isOpen_25 (by decide) ?_
          refine V_val F (pk_rem (by omega) (by omega) (by omega)) ?_
          refine V_istore F (lv' := [_, _, _, _, _, _]) dX2_isOpen_26 (by decide) rfl rfl ?_
          refine V_lload_n F dX2_isOpen_28 rfl ?_
          refine V_iload_n F dX2_isOpen_29 rfl ?_
          refine V_lushr F dX2_isOpen_30 ?_
          refine V_lconst F (v := 1) dX2_isOpen_31 rfl ?_
          refine V_land F dX2_isOpen_32 ?_
          refine V_valL F (wb_bit (by omega) (by omega)) ?_
          refine V_lconst F (v := 0) dX2_isOpen_33 rfl ?_
          refine V_lcmp F dX2_isOpen_34 ?_
          have hnext : (!(w.testBit i) || (xv r (i / 6) == xv r (i % 6))) = true → V (GS g) p₀ l e₀ (rmD (2)) s₀ m₀ (List.toArray [.long (lN w), .int (nI r)]) b₀ h₀ c₀ 6 0 0 (MQ b₀ (Qp (GS g) (Is (.int (nI (if gsb w r = true then 1 else 0))) μ)) (List.toArray [.long (lN w), .int (nI r)]) s₀ 0 0 (gA (GS g))) 51 ([some (.long (lN w)), none, some (.int (nI r)), some (.int (nI i)), some (.int (nI (i / 6))), some (.int (nI (i % 6)))]) ([]) (μ) := by
            intro hi1
            refine V_iinc F (lv' := [_, _, _, _, _, _]) dX2_isOpen_51 rfl (by decide) rfl rfl ?_
            refine V_goto F (tgt := 10) dX2_isOpen_54 (by decide) ?_
            refine V_msk [true, true, true, true, false, false] (lv' := [some (.long (lN w)), none, some (.int (nI r)), some (.int (nI (i + 1))), none, none]) ?_ (ih (i + 1) (by omega) (fun j hj => ?_))
            · simp only [msk, List.zipWith]
              rw [show nI i + Int32.ofInt 1 = nI (i + 1) from nI_1 i]
              rfl
            · rcases Nat.lt_or_ge j i with h | h
              · exact hall j h
              · rw [show j = i by omega]; exact hi1
          have hbit : w.testBit i = decide (w / 2 ^ i % 2 = 1) := Nat.testBit_eq_decide_div_mod_eq
          by_cases hbi : w / 2 ^ i % 2 = 0
          · skip
            refine V_if_eq_t F (tgt := 51) dX2_isOpen_35 (by decide) ((lg_cmp_eq _ _).mpr (by rw [hbi]; rfl)) ?_
            exact hnext (by rw [hbit, hbi]; rfl)
          · skip
            refine V_if_eq_f F (tgt := 51) dX2_isOpen_35 (by decide) (fun q => hbi ((lN_eq0 (by omega)).mp ((lg_cmp_eq _ _).mp q))) ?_
            refine V_iload F dX2_isOpen_38 rfl ?_
            refine V_iload F dX2_isOpen_40 rfl ?_
            refine V_iload_n F dX2_isOpen_42 rfl ?_
            refine V_callSNi F (c_areEqual (by omega) (by omega) hr) mi_X1_areEqual ms_X1_areEqual nk_X2_106 dX2_isOpen_43 (rmR (by omega)) rfl rfl (by decide) (Nat.le_of_ble_eq_true rfl) ?_
            by_cases he : xv r (i / 6) = xv r (i % 6)
            · rw [if_pos he]
              refine V_if_ne_t F (tgt := 51) dX2_isOpen_46 (by decide) (by decide) ?_
              exact hnext (by simp [he])
            · rw [if_neg he]
              refine V_if_ne_f F (tgt := 51) dX2_isOpen_46 (by decide) (by decide) ?_
              have e : ¬ gsb w r = true := fun q => by
                have := List.all_eq_true.mp q i (List.mem_range.mpr (by omega))
                rw [hbit, show w / 2 ^ i % 2 = 1 by omega] at this
                simp [he] at this
              rw [if_neg e]
              refine V_iconst F (v := nI 0) dX2_isOpen_49 (by decide) ?_
              exact V_zret F dX2_isOpen_50 (rfl) (⟨rfl, rfl⟩)
    refine V_iconst F (v := nI 0) dX2_isOpen_8 (by decide) ?_
    refine V_istore_n F (lv' := [_, _, _, _, _, _]) dX2_isOpen_9 (by decide) rfl rfl ?_
    exact loop 36 0 rfl (fun j hj => absurd hj (Nat.not_lt_zero j))
end CLEAF
end
section
section INV
/-- guards as bits -/
def gm (w : Nat) (gs : List (Nat × Nat)) : Prop := w < 2 ^ 36 ∧ ∀ i, i < 36 → w.testBit i = decide ((i / 6, i % 6) ∈ gs)
/-- the class's store holds the table T of n processes -/
def XRep (T : Tb) (n : Nat) (μ : Mem) : Prop := WF T n ∧ μ.1 1 0 = nI n ∧ (∀ f p, f < 9 → p < n → μ.1 (3 + f) p = nI (T f p)) ∧
  ∀ p s a, p < n → (acts T p)[s]? = some a → μ.1 12 (3 * p + s) = nI a.1 ∧ ∃ w, μ.2 (3 * p + s) = lN w ∧ gm w a.2
/-- the model holds it -/
def MRep (T : Tb) (n : Nat) (μ : Mem) : Prop := μ.1 15 0 = nI n ∧ ∀ f p, f < 9 → p < n → μ.1 (16 + f) p = nI (T f p)
def sameM (μ μ' : Mem) : Prop := ∀ c, 15 ≤ c → μ'.1 c = μ.1 c
def sameX (μ μ' : Mem) : Prop := (∀ c, c < 15 → μ'.1 c = μ.1 c) ∧ μ'.2 = μ.2
/-- only the class's kept worths differ -/
def sameW (μ μ' : Mem) : Prop := (∀ c, c ≠ 14 → μ'.1 c = μ.1 c) ∧ μ'.2 = μ.2
theorem sameW.rfl' (μ : Mem) : sameW μ μ := ⟨fun _ _ => rfl, rfl⟩
theorem sameW.trans {a b d : Mem} (h : sameW a b) (h2 : sameW b d) : sameW a d := ⟨fun c hc => (h2.1 c hc).trans (h.1 c hc), h2.2.trans h.2⟩
theorem XRep.of_sameW {T : Tb} {n : Nat} {μ μ' : Mem} (h : XRep T n μ) (s : sameW μ μ') : XRep T n μ' := by
  obtain ⟨h1, h2, h3, h4⟩ := h
  refine ⟨h1, by rw [s.1 1 (by omega)]; exact h2, fun f p hf hp => by rw [s.1 _ (by omega)]; exact h3 f p hf hp, fun p t a hp ha => ?_⟩
  rw [s.1 12 (by omega), s.2]
  exact h4 p t a hp ha
theorem XRep.of_sameX {T : Tb} {n : Nat} {μ μ' : Mem} (h : XRep T n μ) (s : sameX μ μ') : XRep T n μ' := by
  obtain ⟨h1, h2, h3, h4⟩ := h
  refine ⟨h1, by rw [s.1 1 (by omega)]; exact h2, fun f p hf hp => by rw [s.1 _ (by omega)]; exact h3 f p hf hp, fun p t a hp ha => ?_⟩
  rw [s.1 12 (by omega), s.2]
  exact h4 p t a hp ha
theorem MRep.of_sameM {T : Tb} {n : Nat} {μ μ' : Mem} (h : MRep T n μ) (s : sameM μ μ') : MRep T n μ' :=
  ⟨by rw [s 15 (by omega)]; exact h.1, fun f p hf hp => by rw [s _ (by omega)]; exact h.2 f p hf hp⟩
theorem gsb_open {w : Nat} {gs : List (Nat × Nat)} {l : List Nat} (h : gm w gs) (hl : lok l) (h3 : l.length ≤ 3) (hn : ∀ q ∈ gs, q.1 < 3 + l.length ∧ q.2 < 3 + l.length ∧ q.1 < 6 ∧ q.2 < 6) : gsb w (rc l) = openb l gs := by
  rw [Bool.eq_iff_iff]
  unfold gsb openb
  rw [List.all_eq_true, List.all_eq_true]
  constructor
  · intro hg q hq
    obtain ⟨a1, a2, a3, a4⟩ := hn q hq
    have hd : (6 * q.1 + q.2) / 6 = q.1 := by omega
    have hm : (6 * q.1 + q.2) % 6 = q.2 := by omega
    have h1 := hg (6 * q.1 + q.2) (List.mem_range.mpr (by omega))
    rw [h.2 _ (by omega), hd, hm, decide_eq_true (by exact hq : (q.1, q.2) ∈ gs), xv_rc hl h3 a1, xv_rc hl h3 a2] at h1
    simpa using h1
  · intro hg i hi
    have hi := List.mem_range.mp hi
    rw [h.2 i hi]
    by_cases hm : (i / 6, i % 6) ∈ gs
    · obtain ⟨a1, a2, a3, a4⟩ := hn _ hm
      have h1 := hg _ hm
      rw [xv_rc hl h3 a1, xv_rc hl h3 a2]
      simp only [hm, decide_true, Bool.not_true, Bool.false_or]
      exact h1
    · simp [hm]
/-- the number that is meant, if there is one below n -/
def pj (n : Nat) (p : Int32) : Option Nat := if p < 0 then none else if p.toNatClampNeg < n then some p.toNatClampNeg else none
theorem pj_nI {n j : Nat} (hj : j < n) (hn : n < 2 ^ 31) : pj n (nI j) = some j := by
  unfold pj
  rw [if_neg (nI_nn (by omega)), nI_clamp (by omega), if_pos hj]
theorem pj_some {n j : Nat} {p : Int32} (h : pj n p = some j) (hn : n < 2 ^ 31) : j < n ∧ p = nI j := by
  unfold pj at h
  split at h
  · cases h
  · rename_i h0
    obtain ⟨i, hi, rfl⟩ := nI_of h0
    rw [nI_clamp hi] at h
    split at h
    · cases h
      exact ⟨by assumption, rfl⟩
    · cases h
theorem pj_none {n : Nat} {p : Int32} (h : pj n p = none) (hn : n < 2 ^ 31) : ¬ isP n p := by
  rintro ⟨j, hj, rfl⟩
  rw [pj_nI hj hn] at h
  cases h
theorem XRep.n24 {T : Tb} {n : Nat} {μ : Mem} (h : XRep T n μ) : n ≤ 24 ∧ 1 ≤ n := ⟨h.1.1.2, h.1.1.1⟩
theorem XRep.fld {T : Tb} {n : Nat} {μ : Mem} (h : XRep T n μ) (f : Nat) {p c : Nat} (hc : c = 3 + f) (hf : f < 9) (hp : p < n) : μ.1 c p = nI (T f p) := hc ▸ h.2.2.1 f p hf hp
end INV
section STORE
variable {g : Gm} {l : Launch} {μ : Mem} {T : Tb} {n : Nat}
theorem slA_none {p s : Nat} {r : List Nat} (hX : WF T n) (hp : p < n) (h : T 6 p ≤ s) : slA T p r s = none := by
  unfold slA slG
  rw [List.getElem?_eq_none (by rw [acts_len hX hp]; exact h)]
theorem mvs_eq' (hX : WF T n) {p : Nat} (hp : p < n) (r : List Nat) : mvs T p r = (List.range (T 6 p)).filterMap (slA T p r) := by
  rw [mvs_eq hX hp]
  have h6 := (hX.depth hp).2
  have hz : ∀ s, T 6 p ≤ s → slA T p r s = none := fun s hs => slA_none hX hp hs
  rcases (by omega : T 6 p = 0 ∨ T 6 p = 1 ∨ T 6 p = 2 ∨ T 6 p = 3) with h | h | h | h <;> rw [h]
  · simp [List.range_succ, List.filterMap_cons, hz 0 (by omega), hz 1 (by omega), hz 2 (by omega)]
  · simp only [List.range_succ, List.range_zero, List.nil_append, List.cons_append, List.filterMap_cons, hz 1 (by omega), hz 2 (by omega), List.filterMap_nil]
  · simp only [List.range_succ, List.range_zero, List.nil_append, List.cons_append, List.filterMap_cons, hz 2 (by omega), List.filterMap_nil]
theorem pre_succ (p i : Nat) (r : List Nat) : (List.range (i + 1)).filterMap (slA T p r) = (List.range i).filterMap (slA T p r) ++ (slA T p r i).toList := by
  rw [List.range_succ, List.filterMap_append]
  congr 1
theorem c_actionIn {p s : Nat} {r : List Nat} (hX : XRep T n μ) (hp : p < n) (hs : s < 3) (hl : lok r) (h3 : r.length ≤ 3) (hnd : T 7 p ≤ r.length) : Ct (GS g) l (3) yX2_actionIn cX2_actionIn 5 (some .int) [.ref (g.1 1), .int (nI p), .int (nI s), .int (nI (rc r))] μ (Is (.int (ri (slA T p r s))) μ) := by
  have hn := hX.n24
  have hr := (rc_lt hl h3).1
  have h6 := (hX.1.depth hp).2
  refine Ct.of (own := RX2) mi_X2_actionIn rfl [some (.ref (g.1 1)), some (.int (nI p)), some (.int (nI s)), some (.int (nI (rc r))), none] (Nat.le_of_ble_eq_true rfl) rfl (fun p₀ e₀ s₀ m₀ b₀ h₀ c₀ F => ?_)
  refine V_iload_n F dX2_actionIn_0 rfl ?_
  refine V_if_lt_f F (tgt := 16) dX2_actionIn_1 (by decide) (nI_nn (by omega)) ?_
  refine V_iload_n F dX2_actionIn_4 rfl ?_
  refine V_aload_n F dX2_actionIn_5 rfl ?_
  refine V_getf F (q0 := 1) (j := 7) lk_X2_30 dX2_actionIn_6 ig_X2 rfl rfl (by decide) rfl rfl ?_
  refine V_iload_n F dX2_actionIn_9 rfl ?_
  refine V_callSNi F (c_at (q := 9) rfl (show p < 24 by omega) (hX.fld 6 rfl (by omega) hp)) mi_X3_at ms_X3_at nk_X2_68 dX2_actionIn_10 (rmR (by omega)) rfl rfl (by decide) (Nat.le_of_ble_eq_true rfl) ?_
  refine V_icmp_lt_N F (tgt := 19) dX2_actionIn_13 (by decide) (by omega) (by omega) (fun h => ?_) (fun h => ?_)
  · obtain ⟨a, ha⟩ : ∃ a, (acts T p)[s]? = some a := ⟨_, List.getElem?_eq_getElem (by rw [acts_len hX.1 hp]; exact h)⟩
    obtain ⟨hm1, w, hm2, hw⟩ := hX.2.2.2 p s a hp ha
    have hf := acts_mem hX.1 hp a (List.mem_of_getElem? ha)
    have ho := gsb_open hw hl h3 (fun q hq => by have := hf.2.2.2.2.2.2 q hq; omega)
    have hsl : slA T p r s = if openb r a.2 = true then some a.1 else none := by unfold slA slG; rw [ha]
    refine V_iload_n F dX2_actionIn_19 rfl ?_
    refine V_iconst F (v := nI 3) dX2_actionIn_20 (by decide) ?_
    (first | refine V_imulN F dX2_actionIn_21 ?_ | refine V_imul F dX2_actionIn_21 ?_)
    refine V_iload_n F dX2_actionIn_22 rfl ?_
    (first | refine V_iaddN F dX2_actionIn_23 ?_ | refine V_iadd F dX2_actionIn_23 ?_)
    refine V_val F ((by rw [Nat.mul_comm p 3])) ?_
    refine V_istore F (lv' := [_, _, _, _, _]) dX2_actionIn_24 (by decide) rfl rfl ?_
    refine V_aload_n F dX2_actionIn_26 rfl ?_
    refine V_getf F (q0 := 1) (j := 11) lk_X2_46 dX2_actionIn_27 ig_X2 rfl rfl (by decide) rfl rfl ?_
    refine V_iload F dX2_actionIn_30 rfl ?_
    refine V_callSNi F (c_atL (show 3 * p + s < 72 by omega) hm2) mi_X3_at_ ms_X3_at_ nk_X2_103 dX2_actionIn_32 (rmR (by omega)) rfl rfl (by decide) (Nat.le_of_ble_eq_true rfl) ?_
    refine V_iload_n F dX2_actionIn_35 rfl ?_
    refine V_callSi F (c_isOpen hw.1 (by omega)) mi_X2_isOpen ms_X2_isOpen lk_X2_110 dX2_actionIn_36 (rmR (by omega)) rfl rfl (by decide) (Nat.le_of_ble_eq_true rfl) ?_
    rw [ho, hsl]
    by_cases hb : openb r a.2 = true
    · rw [if_pos hb, if_pos hb]
      refine V_if_eq_f F (tgt := 54) dX2_actionIn_39 (by decide) (by decide) ?_
      refine V_aload_n F dX2_actionIn_42 rfl ?_
      refine V_getf F (q0 := 1) (j := 10) lk_X2_43 dX2_actionIn_43 ig_X2 rfl rfl (by decide) rfl rfl ?_
      refine V_iload F dX2_actionIn_46 rfl ?_
      refine V_callSNi F (c_at (q := 12) rfl (show 3 * p + s < 72 by omega) hm1) mi_X3_at ms_X3_at nk_X2_68 dX2_actionIn_48 (rmR (by omega)) rfl rfl (by decide) (Nat.le_of_ble_eq_true rfl) ?_
      refine V_goto F (tgt := 56) dX2_actionIn_51 (by decide) ?_
      exact V_iret F dX2_actionIn_56 (⟨rfl, rfl⟩)
    · rw [if_neg hb, if_neg hb]
      refine V_if_eq_t F (tgt := 54) dX2_actionIn_39 (by decide) (by decide) ?_
      refine V_bipush F (v := (-4)) dX2_actionIn_54 (by decide) ?_
      exact V_iret F dX2_actionIn_56 (⟨rfl, rfl⟩)
  · rw [slA_none hX.1 hp (by omega)]
    refine V_bipush F (v := (-4)) dX2_actionIn_16 (by decide) ?_
    exact V_iret F dX2_actionIn_18 (⟨rfl, rfl⟩)
theorem rc_nil : nI 1 = nI (rc []) := rfl
theorem ri_ne {o : Option Nat} (h : ∀ a, o = some a → a < 24) : ri o = -4 ↔ o = none := by
  cases o with
  | none => exact ⟨fun _ => rfl, fun _ => rfl⟩
  | some a =>
    refine ⟨fun q => ?_, fun q => by cases q⟩
    exfalso
    have ha := h a rfl
    have : ∀ a, a < 24 → nI a ≠ -4 := by decide +kernel
    exact this a ha q
theorem slA_lt (hX : WF T n) {p s : Nat} (hp : p < n) {r : List Nat} : ∀ a, slA T p r s = some a → a < 24 := fun a h => by
  obtain ⟨gs, h1, -⟩ := slA_mem h
  have := acts_mem hX hp _ h1
  have := hX.1.2
  omega
theorem c_movesOf {p : Nat} (hX : XRep T n μ) (hp : p < n) (hnd : T 7 p = 0) : Ct (GS g) l (4) yX2_movesOf cX2_movesOf 4 (some .int) [.ref (g.1 1), .int (nI p)] μ (Is (.int (nI (mvs T p []).length)) μ) := by
  have hn := hX.n24
  have h6 := (hX.1.depth hp).2
  refine Ct.of (own := RX2) mi_X2_movesOf rfl [some (.ref (g.1 1)), some (.int (nI p)), none, none] (Nat.le_of_ble_eq_true rfl) rfl (fun p₀ e₀ s₀ m₀ b₀ h₀ c₀ F => ?_)
  have loop : ∀ (k i : Nat), i + k = T 6 p → V (GS g) p₀ l e₀ (rmD (4)) s₀ m₀ (List.toArray [.ref (g.1 1), .int (nI p)]) b₀ h₀ c₀ 4 0 0 (MQ b₀ (Qp (GS g) (Is (.int (nI (mvs T p []).length)) μ)) (List.toArray [.ref (g.1 1), .int (nI p)]) s₀ 0 0 (gA (GS g))) 4 ([some (.ref (g.1 1)), some (.int (nI p)), some (.int (nI ((List.range i).filterMap (slA T p [])).length)), some (.int (nI i))]) ([]) (μ) := by
    intro k
    induction k with
    | zero =>
      intro i hi
      refine V_iload_n F dX2_movesOf_4 rfl ?_
      refine V_aload_n F dX2_movesOf_5 rfl ?_
      refine V_getf F (q0 := 1) (j := 7) lk_X2_30 dX2_movesOf_6 ig_X2 rfl rfl (by decide) rfl rfl ?_
      refine V_iload_n F dX2_movesOf_9 rfl ?_
      refine V_callSNi F (c_at (q := 9) rfl (show p < 24 by omega) (hX.fld 6 rfl (by omega) hp)) mi_X3_at ms_X3_at nk_X2_68 dX2_movesOf_10 (rmR (by omega)) rfl rfl (by decide) (Nat.le_of_ble_eq_true rfl) ?_
      refine V_icmp_ge_N F (tgt := 37) dX2_movesOf_13 (by decide) (by omega) (by omega) (fun h => ?_) (fun h => ?_)
      · skip
        refine V_iload_n F dX2_movesOf_37 rfl ?_
        exact V_iret F dX2_movesOf_38 (⟨by rw [mvs_eq' hX.1 hp, show i = T 6 p by omega], rfl⟩)
      · omega
    | succ k ih =>
      intro i hi
      refine V_iload_n F dX2_movesOf_4 rfl ?_
      refine V_aload_n F dX2_movesOf_5 rfl ?_
      refine V_getf F (q0 := 1) (j := 7) lk_X2_30 dX2_movesOf_6 ig_X2 rfl rfl (by decide) rfl rfl ?_
      refine V_iload_n F dX2_movesOf_9 rfl ?_
      refine V_callSNi F (c_at (q := 9) rfl (show p < 24 by omega) (hX.fld 6 rfl (by omega) hp)) mi_X3_at ms_X3_at nk_X2_68 dX2_movesOf_10 (rmR (by omega)) rfl rfl (by decide) (Nat.le_of_ble_eq_true rfl) ?_
      refine V_icmp_ge_N F (tgt := 37) dX2_movesOf_13 (by decide) (by omega) (by omega) (fun h => ?_) (fun h => ?_)
      · omega
      · skip
        refine V_aload_n F dX2_movesOf_16 rfl ?_
        refine V_iload_n F dX2_movesOf_17 rfl ?_
        refine V_iload_n F dX2_movesOf_18 rfl ?_
        refine V_iconst F (v := nI 1) dX2_movesOf_19 (by decide) ?_
        refine V_callVi F (q0 := 1) (c_actionIn (r := []) hX hp (by omega) trivial (by simp) (by simp [hnd])) mi_X2_actionIn mm_X2_actionIn lk_X2_114 dX2_movesOf_20 (rmR (by omega)) rfl rfl (by decide) (Nat.le_of_ble_eq_true rfl) rfl rfl rfl ?_
        refine V_bipush F (v := (-4)) dX2_movesOf_23 (by decide) ?_
        have e := ih (i + 1) (by omega)
        rw [pre_succ] at e
        cases hs : slA T p [] i with
        | none =>
          rw [hs] at e
          simp only [Option.toList, List.append_nil] at e
          refine V_icmp_eq_t F (tgt := 31) dX2_movesOf_25 (by decide) (rfl) ?_
          refine V_iinc F (lv' := [_, _, _, _]) dX2_movesOf_31 rfl (by decide) rfl rfl ?_
          rw [show nI i + Int32.ofInt 1 = nI (i + 1) from nI_1 i]
          refine V_goto F (tgt := 4) dX2_movesOf_34 (by decide) ?_
          exact e
        | some a =>
          rw [hs] at e
          simp only [Option.toList, List.length_append, List.length_singleton] at e
          refine V_icmp_eq_f F (tgt := 31) dX2_movesOf_25 (by decide) (fun q => by have := (ri_ne (by intro b hb; cases hb; exact slA_lt hX.1 hp a hs)).mp q; cases this) ?_
          refine V_iinc F (lv' := [_, _, _, _]) dX2_movesOf_28 rfl (by decide) rfl rfl ?_
          refine V_iinc F (lv' := [_, _, _, _]) dX2_movesOf_31 rfl (by decide) rfl rfl ?_
          rw [show nI i + Int32.ofInt 1 = nI (i + 1) from nI_1 i, show ∀ z, nI z + Int32.ofInt 1 = nI (z + 1) from nI_1]
          refine V_goto F (tgt := 4) dX2_movesOf_34 (by decide) ?_
          exact e
  refine V_iconst F (v := nI 0) dX2_movesOf_0 (by decide) ?_
  refine V_istore_n F (lv' := [_, _, _, _]) dX2_movesOf_1 (by decide) rfl rfl ?_
  refine V_iconst F (v := nI 0) dX2_movesOf_2 (by decide) ?_
  refine V_istore_n F (lv' := [_, _, _, _]) dX2_movesOf_3 (by decide) rfl rfl ?_
  exact loop (T 6 p) 0 (by omega)
end STORE
end
section
section RES
def rFld (T : Tb) (n f : Nat) (p : Int32) : Int32 := match pj n p with
  | none => -1
  | some j => nI (T f j)
def rPart (T : Tb) (n : Nat) (p i : Int32) : Int32 := match pj n p with
  | none => -1
  | some j => match pj 2 i with
    | none => -1
    | some d => if d = 0 then (if T 0 j = 0 then -4 else nI (T 3 j)) else if T 0 j = 5 then nI (T 4 j) else -4
def rMC (T : Tb) (n : Nat) (p : Int32) : Int32 := match pj n p with
  | none => -1
  | some j => if T 7 j = 0 then nI (mvs T j []).length else -2
def rMv (f : Nat → Nat) (T : Tb) (n : Nat) (p mv : Int32) : Int32 := match pj n p with
  | none => -1
  | some j => if mv < 0 then -1 else if T 7 j = 0 then (match (mvs T j [])[mv.toNatClampNeg]? with
    | none => -4
    | some a => nI (f a)) else -2
def nmf (T : Tb) (a : Nat) : Nat := if T 0 a = 1 then 99 else if T 0 a = 2 then 10 * T 1 a + T 2 a else 10 * T 1 a + 9
end RES
section QUERY
variable {g : Gm} {l : Launch} {μ : Mem} {T : Tb} {n : Nat}
theorem nI_ge0 {j : Nat} (hj : j < 2 ^ 31) : 0 ≤ nI j := by rw [← nI_0]; exact (nI_leI (by omega) hj).mpr (Nat.zero_le _)
theorem mvs_at (hX : WF T n) {p i a : Nat} (hp : p < n) {r : List Nat} (h : (mvs T p r)[i]? = some a) : 0 < a ∧ a < n ∧ 1 ≤ T 0 a ∧ T 0 a ≤ 3 ∧ T 7 a ≤ T 7 p := by
  obtain ⟨h1, h2, h3, h4, h5, h6⟩ := mvs_mem hX hp (List.mem_of_getElem? h)
  exact ⟨h2, by omega, h3, h4, h6⟩
theorem c_depthOf (hX : XRep T n μ) (p : Int32) : Ct (GS g) l (1) yX3_depthOf cX3_depthOf 2 (some .int) [.ref (g.1 0), .int p] μ (Is (.int (rFld T n 5 p)) μ) := by
  have hn := hX.n24
  refine Ct.of (own := RX3) mi_X3_depthOf rfl [some (.ref (g.1 0)), some (.int p)] (Nat.le_of_ble_eq_true rfl) rfl (fun p₀ e₀ s₀ m₀ b₀ h₀ c₀ F => ?_)
  refine V_aload_n F dX3_depthOf_0 rfl ?_
  refine V_getf F (q0 := 0) (j := 0) lk_X3_10 dX3_depthOf_1 ig_X3 rfl rfl (by decide) rfl rfl ?_
  refine V_iload_n F dX3_depthOf_4 rfl ?_
  cases h : pj n p with
  | none =>
    have e : rFld T n 5 p = -1 := by unfold rFld; rw [h]
    rw [e]
    refine V_callVNi F (q0 := 1) (c_holds_f hX.2.1 (by omega) (pj_none h (by omega))) mi_X2_holds mm_X2_holds nk_X3_25 dX3_depthOf_5 (rmR (by omega)) rfl rfl (by decide) (Nat.le_of_ble_eq_true rfl) rfl rfl rfl ?_
    refine V_if_eq_t F (tgt := 25) dX3_depthOf_8 (by decide) (by decide) ?_
    refine V_iconst F (v := (-1)) dX3_depthOf_25 (by decide) ?_
    exact V_iret F dX3_depthOf_26 (⟨rfl, rfl⟩)
  | some j =>
    obtain ⟨hj, rfl⟩ := pj_some h (by omega)
    have e : rFld T n 5 (nI j) = nI (T 5 j) := by unfold rFld; rw [h]
    rw [e]
    refine V_callVNi F (q0 := 1) (c_holds_t hX.2.1 (by omega) hj) mi_X2_holds mm_X2_holds nk_X3_25 dX3_depthOf_5 (rmR (by omega)) rfl rfl (by decide) (Nat.le_of_ble_eq_true rfl) rfl rfl rfl ?_
    refine V_if_eq_f F (tgt := 25) dX3_depthOf_8 (by decide) (by decide) ?_
    refine V_aload_n F dX3_depthOf_11 rfl ?_
    refine V_getf F (q0 := 0) (j := 0) lk_X3_10 dX3_depthOf_12 ig_X3 rfl rfl (by decide) rfl rfl ?_
    refine V_getN F (q0 := 1) (j := 6) nk_X3_62 dX3_depthOf_15 ig_X2 rfl rfl (by decide) rfl rfl ?_
    refine V_iload_n F dX3_depthOf_18 rfl ?_
    refine V_callSi F (c_at (q := 8) rfl (show j < 24 by omega) (hX.fld 5 rfl (by omega) hj)) mi_X3_at ms_X3_at lk_X3_48 dX3_depthOf_19 (rmR (by omega)) rfl rfl (by decide) (Nat.le_of_ble_eq_true rfl) ?_
    refine V_goto F (tgt := 26) dX3_depthOf_22 (by decide) ?_
    exact V_iret F dX3_depthOf_26 (⟨rfl, rfl⟩)
theorem c_needOf (hX : XRep T n μ) (p : Int32) : Ct (GS g) l (1) yX3_needOf cX3_needOf 2 (some .int) [.ref (g.1 0), .int p] μ (Is (.int (rFld T n 7 p)) μ) := by
  have hn := hX.n24
  refine Ct.of (own := RX3) mi_X3_needOf rfl [some (.ref (g.1 0)), some (.int p)] (Nat.le_of_ble_eq_true rfl) rfl (fun p₀ e₀ s₀ m₀ b₀ h₀ c₀ F => ?_)
  refine V_aload_n F dX3_needOf_0 rfl ?_
  refine V_getf F (q0 := 0) (j := 0) lk_X3_10 dX3_needOf_1 ig_X3 rfl rfl (by decide) rfl rfl ?_
  refine V_iload_n F dX3_needOf_4 rfl ?_
  cases h : pj n p with
  | none =>
    have e : rFld T n 7 p = -1 := by unfold rFld; rw [h]
    rw [e]
    refine V_callVNi F (q0 := 1) (c_holds_f hX.2.1 (by omega) (pj_none h (by omega))) mi_X2_holds mm_X2_holds nk_X3_25 dX3_needOf_5 (rmR (by omega)) rfl rfl (by decide) (Nat.le_of_ble_eq_true rfl) rfl rfl rfl ?_
    refine V_if_eq_t F (tgt := 25) dX3_needOf_8 (by decide) (by decide) ?_
    refine V_iconst F (v := (-1)) dX3_needOf_25 (by decide) ?_
    exact V_iret F dX3_needOf_26 (⟨rfl, rfl⟩)
  | some j =>
    obtain ⟨hj, rfl⟩ := pj_some h (by omega)
    have e : rFld T n 7 (nI j) = nI (T 7 j) := by unfold rFld; rw [h]
    rw [e]
    refine V_callVNi F (q0 := 1) (c_holds_t hX.2.1 (by omega) hj) mi_X2_holds mm_X2_holds nk_X3_25 dX3_needOf_5 (rmR (by omega)) rfl rfl (by decide) (Nat.le_of_ble_eq_true rfl) rfl rfl rfl ?_
    refine V_if_eq_f F (tgt := 25) dX3_needOf_8 (by decide) (by decide) ?_
    refine V_aload_n F dX3_needOf_11 rfl ?_
    refine V_getf F (q0 := 0) (j := 0) lk_X3_10 dX3_needOf_12 ig_X3 rfl rfl (by decide) rfl rfl ?_
    refine V_getN F (q0 := 1) (j := 8) nk_X3_65 dX3_needOf_15 ig_X2 rfl rfl (by decide) rfl rfl ?_
    refine V_iload_n F dX3_needOf_18 rfl ?_
    refine V_callSi F (c_at (q := 10) rfl (show j < 24 by omega) (hX.fld 7 rfl (by omega) hj)) mi_X3_at ms_X3_at lk_X3_48 dX3_needOf_19 (rmR (by omega)) rfl rfl (by decide) (Nat.le_of_ble_eq_true rfl) ?_
    refine V_goto F (tgt := 26) dX3_needOf_22 (by decide) ?_
    exact V_iret F dX3_needOf_26 (⟨rfl, rfl⟩)
theorem c_textLength (hX : XRep T n μ) (p : Int32) : Ct (GS g) l (1) yX3_textLength cX3_textLength 2 (some .int) [.ref (g.1 0), .int p] μ (Is (.int (rFld T n 8 p)) μ) := by
  have hn := hX.n24
  refine Ct.of (own := RX3) mi_X3_textLength rfl [some (.ref (g.1 0)), some (.int p)] (Nat.le_of_ble_eq_true rfl) rfl (fun p₀ e₀ s₀ m₀ b₀ h₀ c₀ F => ?_)
  refine V_aload_n F dX3_textLength_0 rfl ?_
  refine V_getf F (q0 := 0) (j := 0) lk_X3_10 dX3_textLength_1 ig_X3 rfl rfl (by decide) rfl rfl ?_
  refine V_iload_n F dX3_textLength_4 rfl ?_
  cases h : pj n p with
  | none =>
    have e : rFld T n 8 p = -1 := by unfold rFld; rw [h]
    rw [e]
    refine V_callVNi F (q0 := 1) (c_holds_f hX.2.1 (by omega) (pj_none h (by omega))) mi_X2_holds mm_X2_holds nk_X3_25 dX3_textLength_5 (rmR (by omega)) rfl rfl (by decide) (Nat.le_of_ble_eq_true rfl) rfl rfl rfl ?_
    refine V_if_eq_t F (tgt := 25) dX3_textLength_8 (by decide) (by decide) ?_
    refine V_iconst F (v := (-1)) dX3_textLength_25 (by decide) ?_
    exact V_iret F dX3_textLength_26 (⟨rfl, rfl⟩)
  | some j =>
    obtain ⟨hj, rfl⟩ := pj_some h (by omega)
    have e : rFld T n 8 (nI j) = nI (T 8 j) := by unfold rFld; rw [h]
    rw [e]
    refine V_callVNi F (q0 := 1) (c_holds_t hX.2.1 (by omega) hj) mi_X2_holds mm_X2_holds nk_X3_25 dX3_textLength_5 (rmR (by omega)) rfl rfl (by decide) (Nat.le_of_ble_eq_true rfl) rfl rfl rfl ?_
    refine V_if_eq_f F (tgt := 25) dX3_textLength_8 (by decide) (by decide) ?_
    refine V_aload_n F dX3_textLength_11 rfl ?_
    refine V_getf F (q0 := 0) (j := 0) lk_X3_10 dX3_textLength_12 ig_X3 rfl rfl (by decide) rfl rfl ?_
    refine V_getN F (q0 := 1) (j := 9) nk_X3_68 dX3_textLength_15 ig_X2 rfl rfl (by decide) rfl rfl ?_
    refine V_iload_n F dX3_textLength_18 rfl ?_
    refine V_callSi F (c_at (q := 11) rfl (show j < 24 by omega) (hX.fld 8 rfl (by omega) hj)) mi_X3_at ms_X3_at lk_X3_48 dX3_textLength_19 (rmR (by omega)) rfl rfl (by decide) (Nat.le_of_ble_eq_true rfl) ?_
    refine V_goto F (tgt := 26) dX3_textLength_22 (by decide) ?_
    exact V_iret F dX3_textLength_26 (⟨rfl, rfl⟩)
theorem c_processCount (hX : XRep T n μ) : Ct (GS g) l (0) yX3_processCount cX3_processCount 1 (some .int) [.ref (g.1 0)] μ (Is (.int (nI n)) μ) := by
  refine Ct.of (own := RX3) mi_X3_processCount rfl [some (.ref (g.1 0))] (Nat.le_of_ble_eq_true rfl) rfl (fun p₀ e₀ s₀ m₀ b₀ h₀ c₀ F => ?_)
  refine V_aload_n F dX3_processCount_0 rfl ?_
  refine V_getf F (q0 := 0) (j := 0) lk_X3_10 dX3_processCount_1 ig_X3 rfl rfl (by decide) rfl rfl ?_
  refine V_getN F (q0 := 1) (j := 0) nk_X3_36 dX3_processCount_4 ig_X2 rfl rfl (by decide) rfl rfl ?_
  refine V_val F (hX.2.1) ?_
  exact V_iret F dX3_processCount_7 (⟨rfl, rfl⟩)
theorem c_moveCount (hX : XRep T n μ) (p : Int32) : Ct (GS g) l (5) yX3_moveCount cX3_moveCount 2 (some .int) [.ref (g.1 0), .int p] μ (Is (.int (rMC T n p)) μ) := by
  have hn := hX.n24
  refine Ct.of (own := RX3) mi_X3_moveCount rfl [some (.ref (g.1 0)), some (.int p)] (Nat.le_of_ble_eq_true rfl) rfl (fun p₀ e₀ s₀ m₀ b₀ h₀ c₀ F => ?_)
  refine V_aload_n F dX3_moveCount_0 rfl ?_
  refine V_getf F (q0 := 0) (j := 0) lk_X3_10 dX3_moveCount_1 ig_X3 rfl rfl (by decide) rfl rfl ?_
  refine V_iload_n F dX3_moveCount_4 rfl ?_
  cases h : pj n p with
  | none =>
    have e : rMC T n p = -1 := by unfold rMC; rw [h]
    rw [e]
    refine V_callVNi F (q0 := 1) (c_holds_f hX.2.1 (by omega) (pj_none h (by omega))) mi_X2_holds mm_X2_holds nk_X3_25 dX3_moveCount_5 (rmR (by omega)) rfl rfl (by decide) (Nat.le_of_ble_eq_true rfl) rfl rfl rfl ?_
    refine V_if_ne_f F (tgt := 13) dX3_moveCount_8 (by decide) (by decide) ?_
    refine V_iconst F (v := (-1)) dX3_moveCount_11 (by decide) ?_
    exact V_iret F dX3_moveCount_12 (⟨rfl, rfl⟩)
  | some j =>
    obtain ⟨hj, rfl⟩ := pj_some h (by omega)
    have h7 := hX.1.need hj
    have e : rMC T n (nI j) = if T 7 j = 0 then nI (mvs T j []).length else -2 := by unfold rMC; rw [h]
    rw [e]
    refine V_callVNi F (q0 := 1) (c_holds_t hX.2.1 (by omega) hj) mi_X2_holds mm_X2_holds nk_X3_25 dX3_moveCount_5 (rmR (by omega)) rfl rfl (by decide) (Nat.le_of_ble_eq_true rfl) rfl rfl rfl ?_
    refine V_if_ne_t F (tgt := 13) dX3_moveCount_8 (by decide) (by decide) ?_
    refine V_aload_n F dX3_moveCount_13 rfl ?_
    refine V_getf F (q0 := 0) (j := 0) lk_X3_10 dX3_moveCount_14 ig_X3 rfl rfl (by decide) rfl rfl ?_
    refine V_iload_n F dX3_moveCount_17 rfl ?_
    refine V_callVNi F (q0 := 1) (c_isClosed (d := T 7 j) (by omega) (hX.fld 7 rfl (by omega) hj) (by omega)) mi_X2_isClosed mm_X2_isClosed nk_X3_75 dX3_moveCount_18 (rmR (by omega)) rfl rfl (by decide) (Nat.le_of_ble_eq_true rfl) rfl rfl rfl ?_
    by_cases h0 : T 7 j = 0
    · rw [if_pos h0, if_pos h0]
      refine V_if_eq_f F (tgt := 35) dX3_moveCount_21 (by decide) (by decide) ?_
      refine V_aload_n F dX3_moveCount_24 rfl ?_
      refine V_getf F (q0 := 0) (j := 0) lk_X3_10 dX3_moveCount_25 ig_X3 rfl rfl (by decide) rfl rfl ?_
      refine V_iload_n F dX3_moveCount_28 rfl ?_
      refine V_callVNi F (q0 := 1) (c_movesOf hX hj h0) mi_X2_movesOf mm_X2_movesOf nk_X3_78 dX3_moveCount_29 (rmR (by omega)) rfl rfl (by decide) (Nat.le_of_ble_eq_true rfl) rfl rfl rfl ?_
      refine V_goto F (tgt := 37) dX3_moveCount_32 (by decide) ?_
      exact V_iret F dX3_moveCount_37 (⟨rfl, rfl⟩)
    · rw [if_neg h0, if_neg h0]
      refine V_if_eq_t F (tgt := 35) dX3_moveCount_21 (by decide) (by decide) ?_
      refine V_bipush F (v := (-2)) dX3_moveCount_35 (by decide) ?_
      exact V_iret F dX3_moveCount_37 (⟨rfl, rfl⟩)
end QUERY
end
section
section STRROWS
variable {G : Geo} {p : Program} {l : Launch} {e : Env} {R : Room} {s : State} {m : MethodId} {args : Array Value} {below : List Frame} {meth : Method} {c : Code} {k n : Nat} {Z : State → Prop} {own : String} {cc : ByteArray} {nL pc : Nat} {ret : Option FieldType} {lv : List (Option Value)} {st : List Value} {μ : Mem}
theorem V_compact (F : Fx G p R s m args meth c own cc nL ret k n) {index : Nat} (hlink : Cond.fieldLink own index "java/lang/String" "COMPACT_STRINGS" "Z" ∈ wsG) (d : decode cc pc = .ok (.getstatic index, 3)) (kk : V G p l e R s m args below meth c nL k n Z (pc + 3) lv (.int 1 :: st) μ) : V G p l e R s m args below meth c nL k n Z pc lv st μ := by
  intro H locs ls hP hS hl
  exact va_gets F.1 F.2.1 F.2.2.2.2.2.2.2.1.2.2.2.2.2.1 hS F.2.2.2.2.2.1 (F.2.2.2.2.2.2.1 _ hlink) (fun _ h => h) d (kk H locs ls hP hS hl)
theorem V_svalue (F : Fx G p R s m args meth c own cc nL ret k n) {i index : Nat} (hi : i < 6) (hlink : Cond.fieldLink own index "java/lang/String" "value" "[B" ∈ wsG) (d : decode cc pc = .ok (.getfield index, 3)) (kk : V G p l e R s m args below meth c nL k n Z (pc + 3) lv (.ref (gV G i) :: st) μ) : V G p l e R s m args below meth c nL k n Z pc lv (.ref (gK G i) :: st) μ := by
  intro H locs ls hP hS hl
  exact vk_getf F.1 F.2.1 (F.2.2.2.2.2.2.2.1.2.2.2.1.1 i hi).2.2.1 hS F.2.2.2.2.2.1 (F.2.2.2.2.2.2.1 _ hlink) (fun _ h => h) d (kk H locs ls hP hS hl)
theorem V_scoder (F : Fx G p R s m args meth c own cc nL ret k n) {i index : Nat} (hi : i < 6) (hlink : Cond.fieldLink own index "java/lang/String" "coder" "B" ∈ wsG) (d : decode cc pc = .ok (.getfield index, 3)) (kk : V G p l e R s m args below meth c nL k n Z (pc + 3) lv (.int 0 :: st) μ) : V G p l e R s m args below meth c nL k n Z pc lv (.ref (gK G i) :: st) μ := by
  intro H locs ls hP hS hl
  exact vk_getf F.1 F.2.1 (F.2.2.2.2.2.2.2.1.2.2.2.1.1 i hi).2.1 hS F.2.2.2.2.2.1 (F.2.2.2.2.2.2.1 _ hlink) (fun _ h => h) d (kk H locs ls hP hS hl)
theorem V_slen (F : Fx G p R s m args meth c own cc nL ret k n) {i : Nat} (hi : i < 6) (d : decode cc pc = .ok (.arraylength, 1)) (kk : V G p l e R s m args below meth c nL k n Z (pc + 1) lv (.int (nI (sLen.getD i 0)) :: st) μ) : V G p l e R s m args below meth c nL k n Z pc lv (.ref (gV G i) :: st) μ := by
  intro H locs ls hP hS hl
  exact va_tlen F.1 F.2.1 (F.2.2.2.2.2.2.2.1.2.2.2.1.1 i hi).2.2.2 hS rfl d (kk H locs ls hP hS hl)
theorem V_sbald (F : Fx G p R s m args meth c own cc nL ret k n) {i j : Nat} (hi : i < 6) (hj : j < sLen.getD i 0) (hj2 : j < 2 ^ 30) (d : decode cc pc = .ok (.baload, 1)) (kk : V G p l e R s m args below meth c nL k n Z (pc + 1) lv (.int ((sByt.getD i []).getD j 0) :: st) μ) : V G p l e R s m args below meth c nL k n Z pc lv (.int (nI j) :: .ref (gV G i) :: st) μ := by
  intro H locs ls hP hS hl
  refine va_tb F.1 F.2.1 (F.2.2.2.2.2.2.2.1.2.2.2.1.1 i hi).2.2.2 hS ?_ (v := .int ((sByt.getD i []).getD j 0)) (by rw [nI_clamp (by omega)]) d (kk H locs ls hP hS hl)
  refine vp_in_nI hj ?_
  have : ∀ i, i < 6 → sLen.getD i 0 < 2 ^ 31 := by decide +kernel
  exact this i hi
/-- a call on a String constant -/
theorem V_callK (F : Fx G p R s m args meth c own cc nL ret k n) {y : MethodName} {b : ByteArray} {nLc dp index j i : Nat} {retc : Option FieldType} {As : List Value} {v : Value} (hi : i < 6) (hC : Ct G l dp y b nLc retc (.ref (gK G i) :: As) μ (Is v μ)) (hM : MI y b nLc retc j) (hs : Cond.instanceMethod y ∈ wsG ∧ Cond.selects y.cls y y ∈ wsG) (hlink : Cond.methodLink own index y ∈ wsG) (d : decode cc pc = .ok (.invokevirtual index, 3)) (hR : dp + 1 ≤ R.frames ∧ (dp + 1) * 40 ≤ R.locals) {st0 : List Value} (hst : st0 = As.reverse ++ .ref (gK G i) :: st) (hn : As.length = j) (hnl : nLc ≤ 21) (hw : (st.map fun v => v.category).sum ≤ 8)
    (hqc : "java/lang/String" = y.cls) (kk : V G p l e R s m args below meth c nL k n Z (pc + 3) lv (v :: st) μ) : V G p l e R s m args below meth c nL k n Z pc lv st0 μ := by
  refine V_run (st := st) (As := (Value.ref (gK G i) :: As).toArray) (Qc := Is v μ) (fun H locs ls hP hS hz => ?_) (fun r μ' h => by obtain ⟨rfl, rfl⟩ := h; exact kk)
  subst hst
  exact va_runV ⟨F.1, F.2.1, F.2.2.2.2.1, F.2.2.2.2.2.1, F.2.2.2.2.2.2.1⟩ hC ⟨callB_of j F.2.2.2.2.2.2.1 (good_code hM.1) rfl rfl rfl (F.2.2.2.2.2.2.1 _ hM.2.1) (F.2.2.2.2.2.2.1 _ hlink) hM.2.2.1 (room_ok hR hnl), F.2.2.2.2.2.2.1 _ hs.1, F.2.2.2.2.2.2.1 _ hs.2⟩
    ⟨Pp.blind, hqc ▸ vk_recv F.2.2.2.2.2.2.2.1.2.2.2.1 hi hS, fun U hU hW => ⟨rfl, by rw [hU]; exact hP, by rw [hU]; exact F.2.2.2.2.2.2.2.1.step hS hW⟩⟩ rfl hn hz rfl (lv_room hw) d F.2.2.2.2.2.2.2.2
end STRROWS
section STR
variable {G : Geo} {g : Gm} {l : Launch} {μ : Mem}
theorem c_coder {i : Nat} (hi : i < 6) : Ct G l (0) yJ0_coder_7d493 cJ0_coder_7d493 1 (some .byte) [.ref (gK G i)] μ (Is (.int 0) μ) := by
  refine Ct.of (own := RJ0) mi_J0_coder_7d493 rfl [some (.ref (gK G i))] (Nat.le_of_ble_eq_true rfl) rfl (fun p₀ e₀ s₀ m₀ b₀ h₀ c₀ F => ?_)
  refine V_compact F lk_J0_38 dJ0_coder_7d493_0 ?_
  refine V_if_eq_f F (tgt := 13) dJ0_coder_7d493_3 (by decide) (by decide) ?_
  refine V_aload_n F dJ0_coder_7d493_6 rfl ?_
  refine V_scoder F hi lk_J0_15 dJ0_coder_7d493_7 ?_
  refine V_goto F (tgt := 14) dJ0_coder_7d493_10 (by decide) ?_
  exact V_xret F dJ0_coder_7d493_14 (rfl) (⟨rfl, rfl⟩)
theorem c_slen {i : Nat} (hi : i < 6) : Ct G l (1) yJ0_length_8abf5 cJ0_length_8abf5 1 (some .int) [.ref (gK G i)] μ (Is (.int (nI (sLen.getD i 0))) μ) := by
  have hb : ∀ i, i < 6 → sLen.getD i 0 < 2 ^ 31 := by decide +kernel
  refine Ct.of (own := RJ0) mi_J0_length_8abf5 rfl [some (.ref (gK G i))] (Nat.le_of_ble_eq_true rfl) rfl (fun p₀ e₀ s₀ m₀ b₀ h₀ c₀ F => ?_)
  refine V_aload_n F dJ0_length_8abf5_0 rfl ?_
  refine V_svalue F hi lk_J0_9 dJ0_length_8abf5_1 ?_
  refine V_slen F hi dJ0_length_8abf5_4 ?_
  refine V_aload_n F dJ0_length_8abf5_5 rfl ?_
  refine V_callK F hi (c_coder hi) mi_J0_coder_7d493 mm_J0_coder_7d493 lk_J0_335 dJ0_length_8abf5_6 (rmR (by omega)) rfl rfl (by decide) (Nat.le_of_ble_eq_true rfl) rfl ?_
  refine V_ishr F dJ0_length_8abf5_9 ?_
  refine V_val F (sc_shr0 (hb i hi)) ?_
  exact V_iret F dJ0_length_8abf5_10 (⟨rfl, rfl⟩)
/-- which constant stands ahead of a process of a kind -/
def hix : Nat → Nat
  | 1 => 0
  | 2 => 1
  | 3 => 2
  | 4 => 3
  | 5 => 4
  | _ => 5
theorem hix_len : ∀ k, k < 6 → sLen.getD (hix k) 0 = hdl k ∧ hix k < 6 := by decide +kernel
theorem c_headOf {k : Nat} (hk : k < 6) : Ct G l (0) yX2_headOf cX2_headOf 1 (some (.object "java/lang/String")) [.int (nI k)] μ (Is (.ref (gK G (hix k))) μ) := by
  have e : (nI k).toInt = (k : Int) := nI_toInt (by omega)
  refine Ct.of (own := RX2) mi_X2_headOf rfl [some (.int (nI k))] (Nat.le_of_ble_eq_true rfl) rfl (fun p₀ e₀ s₀ m₀ b₀ h₀ c₀ F => ?_)
  refine V_iload_n F dX2_headOf_0 rfl ?_
  rcases (by omega : k = 0 ∨ k = 1 ∨ k = 2 ∨ k = 3 ∨ k = 4 ∨ k = 5) with rfl | rfl | rfl | rfl | rfl | rfl
  · refine V_tableOut F (tgt := 51) dX2_headOf_1 (by rw [e]; omega) (by decide) ?_
    refine V_ldcS F (i := 5) (by decide) rfl dX2_headOf_51 ?_
    exact V_aret F dX2_headOf_53 (⟨rfl, rfl⟩)
  · refine V_tableIn F (off := 35) (tgt := 36) dX2_headOf_1 (by rw [e]; omega) (by rw [e]; omega) (by rw [e]; rfl) (by decide) ?_
    refine V_ldcS F (i := 0) (by decide) rfl dX2_headOf_36 ?_
    exact V_aret F dX2_headOf_38 (⟨rfl, rfl⟩)
  · refine V_tableIn F (off := 38) (tgt := 39) dX2_headOf_1 (by rw [e]; omega) (by rw [e]; omega) (by rw [e]; rfl) (by decide) ?_
    refine V_ldcS F (i := 1) (by decide) rfl dX2_headOf_39 ?_
    exact V_aret F dX2_headOf_41 (⟨rfl, rfl⟩)
  · refine V_tableIn F (off := 41) (tgt := 42) dX2_headOf_1 (by rw [e]; omega) (by rw [e]; omega) (by rw [e]; rfl) (by decide) ?_
    refine V_ldcS F (i := 2) (by decide) rfl dX2_headOf_42 ?_
    exact V_aret F dX2_headOf_44 (⟨rfl, rfl⟩)
  · refine V_tableIn F (off := 44) (tgt := 45) dX2_headOf_1 (by rw [e]; omega) (by rw [e]; omega) (by rw [e]; rfl) (by decide) ?_
    refine V_ldcS F (i := 3) (by decide) rfl dX2_headOf_45 ?_
    exact V_aret F dX2_headOf_47 (⟨rfl, rfl⟩)
  · refine V_tableIn F (off := 47) (tgt := 48) dX2_headOf_1 (by rw [e]; omega) (by rw [e]; omega) (by rw [e]; rfl) (by decide) ?_
    refine V_ldcS F (i := 4) (by decide) rfl dX2_headOf_48 ?_
    exact V_aret F dX2_headOf_50 (⟨rfl, rfl⟩)
end STR
end
section
section BUILDS
variable {T : Tb} {n : Nat}
def bD (T : Tb) (k p q : Nat) : Nat := max (T 5 p) (T 5 q) + (if k ≤ 3 then 1 else 0)
def bB (T : Tb) (k p q : Nat) : Nat := if k ≤ 3 then 1 else T 6 p + T 6 q
def bN (T : Tb) (k x y p q : Nat) : Nat := max (max x y - 2) (max (T 7 p - (if k = 3 then 1 else 0)) (T 7 q))
def bL (T : Tb) (k p q : Nat) : Nat := hdl k + T 8 p + (if k = 5 then T 8 q + 2 else 0)
def bT (T : Tb) (n k x y p q : Nat) : Tb := fun f j => if j = n then (match f with
  | 0 => k
  | 1 => x
  | 2 => y
  | 3 => p
  | 4 => q
  | 5 => bD T k p q
  | 6 => bB T k p q
  | 7 => bN T k x y p q
  | 8 => bL T k p q
  | _ => 0) else T f j
/-- what can be asked to be built -/
def bOk (n k x y p q : Nat) : Prop := 1 ≤ k ∧ k ≤ 5 ∧ x < 6 ∧ y < 6 ∧ p < n ∧ q < n ∧ (k = 1 → x = 0 ∧ y = 0) ∧ (k = 3 → y = 0) ∧ (k = 5 → x = 0 ∧ y = 0) ∧ (k ≠ 5 → q = 0)
def bFit (T : Tb) (n k p q : Nat) : Prop := n < 24 ∧ bD T k p q ≤ 3 ∧ bB T k p q ≤ 3
theorem bT_old {k x y p q f j : Nat} (h : j ≠ n) : bT T n k x y p q f j = T f j := by unfold bT; rw [if_neg h]
theorem bT_wf {k x y p q : Nat} (hW : WF T n) (ho : bOk n k x y p q) (hf : bFit T n k p q) : WF (bT T n k x y p q) (n + 1) := by
  obtain ⟨o1, o2, o3, o4, o5, o6, o7, o8, o9, o10⟩ := ho
  obtain ⟨f1, f2, f3⟩ := hf
  refine ⟨by omega, ?_, fun j hj hjn => ?_⟩
  · simp only [bT_old (show 0 ≠ n by omega)]
    exact hW.2.1
  · by_cases he : j = n
    · subst he
      have ep : ∀ f, bT T j k x y p q f p = T f p := fun f => bT_old (by omega)
      have eq : ∀ f, bT T j k x y p q f q = T f q := fun f => bT_old (by omega)
      have e0 : bT T j k x y p q 0 j = k := by simp [bT]
      have e1 : bT T j k x y p q 1 j = x := by simp [bT]
      have e2 : bT T j k x y p q 2 j = y := by simp [bT]
      have e3 : bT T j k x y p q 3 j = p := by simp [bT]
      have e4 : bT T j k x y p q 4 j = q := by simp [bT]
      have e5 : bT T j k x y p q 5 j = bD T k p q := by simp [bT]
      have e6 : bT T j k x y p q 6 j = bB T k p q := by simp [bT]
      have e7 : bT T j k x y p q 7 j = bN T k x y p q := by simp [bT]
      have e8 : bT T j k x y p q 8 j = bL T k p q := by simp [bT]
      unfold WFp
      rw [e0, e1, e2, e3, e4, e5, e6, e7, e8]
      simp only [ep, eq]
      exact ⟨⟨o1, o2, o3, o4, o5, o6⟩, ⟨o7, o8, o9, o10⟩, ⟨rfl, f2⟩, ⟨rfl, f3⟩, rfl, rfl⟩
    · have hw := hW.2.2 j hj (by omega)
      have e : ∀ f, bT T n k x y p q f j = T f j := fun f => bT_old he
      obtain ⟨⟨-, -, -, -, h3, h4⟩, -⟩ := id hw
      have ep : ∀ f, bT T n k x y p q f (T 3 j) = T f (T 3 j) := fun f => bT_old (by omega)
      have eq : ∀ f, bT T n k x y p q f (T 4 j) = T f (T 4 j) := fun f => bT_old (by omega)
      unfold WFp at hw ⊢
      simp only [e, ep, eq]
      exact hw
/-- which worths are kept where -/
def plc (hi lo rel view : Nat) : Nat := hi * (hi - 1) / 2 * 15 + lo * 15 + (rel * 5 + view)
def vls : Nat → List Nat
  | 0 => []
  | v + 1 => [v]
def Memo (T : Tb) (n : Nat) (μ : Mem) : Prop := ∀ hi lo rel view, hi < 24 → lo < hi → rel < 3 → view < 5 → μ.1 14 (plc hi lo rel view) = 0 ∨
  (hi < n ∧ T 7 hi ≤ (vls view).length ∧ T 7 lo ≤ (vls view).length ∧ ∃ r, μ.1 14 (plc hi lo rel view) = nI r ∧ r ≤ 4 ∧ Sp r (fun k => win T rel k hi lo (vls view)) 3)
def XInv (T : Tb) (n : Nat) (μ : Mem) : Prop := XRep T n μ ∧ Memo T n μ
theorem Memo.grow {T' : Tb} {n' : Nat} {μ μ' : Mem} (hW : WF T n) (hW' : WF T' n') (hn : n ≤ n') (hT : ∀ f p, p < n → T' f p = T f p) (h : Memo T n μ) (hm : μ'.1 14 = μ.1 14) : Memo T' n' μ' := by
  intro hi lo rel view h1 h2 h3 h4
  rw [hm]
  rcases h hi lo rel view h1 h2 h3 h4 with h | ⟨a1, a2, a3, r, a4, a5, a6⟩
  · exact Or.inl h
  · refine Or.inr ⟨by omega, by rw [hT _ _ a1]; exact a2, by rw [hT _ _ (by omega)]; exact a3, r, a4, a5, a6.1, fun j hj => ?_⟩
    show r ≤ j ↔ win T' rel j hi lo (vls view) = true
    rw [win_congr hW hW' hn hT rel j hi lo _ a1 (by omega)]
    exact a6.2 j hj
theorem XInv.of_sameX {μ μ' : Mem} (h : XInv T n μ) (s : sameX μ μ') : XInv T n μ' := ⟨h.1.of_sameX s, h.2.grow h.1.1 h.1.1 (Nat.le_refl _) (fun _ _ _ => rfl) (s.1 14 (by omega))⟩
theorem gm_cons {w x y : Nat} {gs : List (Nat × Nat)} (h : gm w gs) (hx : x < 6) (hy : y < 6) : gm (w ||| 2 ^ (x * 6 + y)) ((x, y) :: gs) := by
  refine ⟨Nat.or_lt_two_pow h.1 (Nat.pow_lt_pow_right (by omega) (by omega)), fun i hi => ?_⟩
  rw [Nat.testBit_or, h.2 i hi, Nat.testBit_two_pow]
  rw [Bool.eq_iff_iff]
  simp only [Bool.or_eq_true, decide_eq_true_eq, List.mem_cons, Prod.mk.injEq]
  constructor
  · rintro (h | h)
    · exact Or.inr h
    · left; omega
  · rintro (h | h)
    · right; omega
    · exact Or.inl h
theorem gm_nil : gm 0 [] := ⟨by omega, fun i hi => by simp⟩
theorem needE : ∀ m, m < 6 → ∀ a, a < 4 → ∀ s, s < 2 → ∀ c, c < 4 →
    (if nI 0 < (if nI m - nI 2 < (if nI a - nI s < nI c then nI c else nI a - nI s) then (if nI a - nI s < nI c then nI c else nI a - nI s) else nI m - nI 2) then (if nI m - nI 2 < (if nI a - nI s < nI c then nI c else nI a - nI s) then (if nI a - nI s < nI c then nI c else nI a - nI s) else nI m - nI 2) else nI 0) = nI (max (m - 2) (max (a - s) c)) := by decide +kernel
theorem wr_ne {μ : Mem} {c i d j : Nat} {v : Int32} (h : ¬ (d = c ∧ j = i)) : (wr μ c i v).1 d j = μ.1 d j := by rw [wr_at, if_neg h]
theorem wr_eq {μ : Mem} {c i : Nat} {v : Int32} : (wr μ c i v).1 c i = v := by rw [wr_at, if_pos ⟨rfl, rfl⟩]
end BUILDS
section BUILD
variable {g : Gm} {l : Launch} {μ : Mem} {T : Tb} {n : Nat}
theorem c_needFor {k x y p q a c : Nat} (hk : k < 6) (hx : x < 6) (hy : y < 6) (hp : p < 24) (hq : q < 24) (ha : a < 4) (hc : c < 4) (h1 : μ.1 10 p = nI a) (h2 : μ.1 10 q = nI c) : Ct (GS g) l (1) yX2_needFor cX2_needFor 9 (some .int) [.ref (g.1 1), .int (nI k), .int (nI x), .int (nI y), .int (nI p), .int (nI q)] μ (Is (.int (nI (max (max x y - 2) (max (a - (if k = 3 then 1 else 0)) c)))) μ) := by
  refine Ct.of (own := RX2) mi_X2_needFor rfl [some (.ref (g.1 1)), some (.int (nI k)), some (.int (nI x)), some (.int (nI y)), some (.int (nI p)), some (.int (nI q)), none, none, none] (Nat.le_of_ble_eq_true rfl) rfl (fun p₀ e₀ s₀ m₀ b₀ h₀ c₀ F => ?_)
  refine V_iload_n F dX2_needFor_0 rfl ?_
  refine V_iload_n F dX2_needFor_1 rfl ?_
  refine V_maxN F lk_X2_72 dX2_needFor_2 (rmM (by omega) (Nat.le_of_ble_eq_true rfl)) (by omega) (by omega) ?_
  refine V_iconst F (v := nI 2) dX2_needFor_5 (by decide) ?_
  refine V_isub F dX2_needFor_6 ?_
  refine V_istore F (lv' := [_, _, _, _, _, _, _, _, _]) dX2_needFor_7 (by decide) rfl rfl ?_
  refine V_aload_n F dX2_needFor_9 rfl ?_
  refine V_getf F (q0 := 1) (j := 8) lk_X2_33 dX2_needFor_10 ig_X2 rfl rfl (by decide) rfl rfl ?_
  refine V_iload F dX2_needFor_13 rfl ?_
  refine V_callSNi F (c_at (q := 10) rfl hp h1) mi_X3_at ms_X3_at nk_X2_68 dX2_needFor_15 (rmR (by omega)) rfl rfl (by decide) (Nat.le_of_ble_eq_true rfl) ?_
  refine V_iload_n F dX2_needFor_18 rfl ?_
  refine V_iconst F (v := nI 3) dX2_needFor_19 (by decide) ?_
  have hm : max x y < 6 := by omega
  refine V_icmp_ne_N F (tgt := 27) dX2_needFor_20 (by decide) (by omega) (by omega) (fun h3 => ?_) (fun h3 => ?_)
  · rw [if_neg h3]
    refine V_iconst F (v := nI 0) dX2_needFor_27 (by decide) ?_
    refine V_isub F dX2_needFor_28 ?_
    refine V_istore F (lv' := [_, _, _, _, _, _, _, _, _]) dX2_needFor_29 (by decide) rfl rfl ?_
    refine V_iload F dX2_needFor_31 rfl ?_
    refine V_aload_n F dX2_needFor_33 rfl ?_
    refine V_getf F (q0 := 1) (j := 8) lk_X2_33 dX2_needFor_34 ig_X2 rfl rfl (by decide) rfl rfl ?_
    refine V_iload F dX2_needFor_37 rfl ?_
    refine V_callSNi F (c_at (q := 10) rfl hq h2) mi_X3_at ms_X3_at nk_X2_68 dX2_needFor_39 (rmR (by omega)) rfl rfl (by decide) (Nat.le_of_ble_eq_true rfl) ?_
    refine V_max F lk_X2_72 dX2_needFor_42 (rmM (by omega) (Nat.le_of_ble_eq_true rfl)) ?_
    refine V_istore F (lv' := [_, _, _, _, _, _, _, _, _]) dX2_needFor_45 (by decide) rfl rfl ?_
    refine V_iconst F (v := nI 0) dX2_needFor_47 (by decide) ?_
    refine V_iload F dX2_needFor_48 rfl ?_
    refine V_iload F dX2_needFor_50 rfl ?_
    refine V_max F lk_X2_72 dX2_needFor_52 (rmM (by omega) (Nat.le_of_ble_eq_true rfl)) ?_
    refine V_max F lk_X2_72 dX2_needFor_55 (rmM (by omega) (Nat.le_of_ble_eq_true rfl)) ?_
    refine V_val F (needE _ hm a ha 0 (by omega) c hc) ?_
    exact V_iret F dX2_needFor_58 (⟨rfl, rfl⟩)
  · rw [if_pos (Classical.not_not.mp h3)]
    refine V_iconst F (v := nI 1) dX2_needFor_23 (by decide) ?_
    refine V_goto F (tgt := 28) dX2_needFor_24 (by decide) ?_
    refine V_isub F dX2_needFor_28 ?_
    refine V_istore F (lv' := [_, _, _, _, _, _, _, _, _]) dX2_needFor_29 (by decide) rfl rfl ?_
    refine V_iload F dX2_needFor_31 rfl ?_
    refine V_aload_n F dX2_needFor_33 rfl ?_
    refine V_getf F (q0 := 1) (j := 8) lk_X2_33 dX2_needFor_34 ig_X2 rfl rfl (by decide) rfl rfl ?_
    refine V_iload F dX2_needFor_37 rfl ?_
    refine V_callSNi F (c_at (q := 10) rfl hq h2) mi_X3_at ms_X3_at nk_X2_68 dX2_needFor_39 (rmR (by omega)) rfl rfl (by decide) (Nat.le_of_ble_eq_true rfl) ?_
    refine V_max F lk_X2_72 dX2_needFor_42 (rmM (by omega) (Nat.le_of_ble_eq_true rfl)) ?_
    refine V_istore F (lv' := [_, _, _, _, _, _, _, _, _]) dX2_needFor_45 (by decide) rfl rfl ?_
    refine V_iconst F (v := nI 0) dX2_needFor_47 (by decide) ?_
    refine V_iload F dX2_needFor_48 rfl ?_
    refine V_iload F dX2_needFor_50 rfl ?_
    refine V_max F lk_X2_72 dX2_needFor_52 (rmM (by omega) (Nat.le_of_ble_eq_true rfl)) ?_
    refine V_max F lk_X2_72 dX2_needFor_55 (rmM (by omega) (Nat.le_of_ble_eq_true rfl)) ?_
    refine V_val F (needE _ hm a ha 1 (by omega) c hc) ?_
    exact V_iret F dX2_needFor_58 (⟨rfl, rfl⟩)
theorem c_lengthFor {k p q a c : Nat} (hk : k < 6) (hp : p < 24) (hq : q < 24) (h1 : μ.1 11 p = nI a) (h2 : μ.1 11 q = nI c) : Ct (GS g) l (2) yX2_lengthFor cX2_lengthFor 5 (some .int) [.ref (g.1 1), .int (nI k), .int (nI p), .int (nI q)] μ (Is (.int (nI (hdl k + a + (if k = 5 then c + 2 else 0)))) μ) := by
  obtain ⟨hx1, hx2⟩ := hix_len k hk
  refine Ct.of (own := RX2) mi_X2_lengthFor rfl [some (.ref (g.1 1)), some (.int (nI k)), some (.int (nI p)), some (.int (nI q)), none] (Nat.le_of_ble_eq_true rfl) rfl (fun p₀ e₀ s₀ m₀ b₀ h₀ c₀ F => ?_)
  refine V_iload_n F dX2_lengthFor_0 rfl ?_
  refine V_callSi F (c_headOf hk) mi_X2_headOf ms_X2_headOf lk_X2_54 dX2_lengthFor_1 (rmR (by omega)) rfl rfl (by decide) (Nat.le_of_ble_eq_true rfl) ?_
  refine V_callK F hx2 (c_slen hx2) mi_J0_length_8abf5 mm_J0_length_8abf5 lk_X2_58 dX2_lengthFor_4 (rmR (by omega)) rfl rfl (by decide) (Nat.le_of_ble_eq_true rfl) rfl ?_
  rw [hx1]
  refine V_aload_n F dX2_lengthFor_7 rfl ?_
  refine V_getf F (q0 := 1) (j := 9) lk_X2_40 dX2_lengthFor_8 ig_X2 rfl rfl (by decide) rfl rfl ?_
  refine V_iload_n F dX2_lengthFor_11 rfl ?_
  refine V_callSNi F (c_at (q := 11) rfl hp h1) mi_X3_at ms_X3_at nk_X2_68 dX2_lengthFor_12 (rmR (by omega)) rfl rfl (by decide) (Nat.le_of_ble_eq_true rfl) ?_
  (first | refine V_iaddN F dX2_lengthFor_15 ?_ | refine V_iadd F dX2_lengthFor_15 ?_)
  refine V_istore F (lv' := [_, _, _, _, _]) dX2_lengthFor_16 (by decide) rfl rfl ?_
  refine V_iload_n F dX2_lengthFor_18 rfl ?_
  refine V_iconst F (v := nI 5) dX2_lengthFor_19 (by decide) ?_
  refine V_icmp_ne_N F (tgt := 38) dX2_lengthFor_20 (by decide) (by omega) (by omega) (fun h3 => ?_) (fun h3 => ?_)
  · rw [if_neg h3]
    refine V_iload F dX2_lengthFor_38 rfl ?_
    exact V_iret F dX2_lengthFor_40 (⟨rfl, rfl⟩)
  · rw [if_pos (Classical.not_not.mp h3)]
    refine V_iload F dX2_lengthFor_23 rfl ?_
    refine V_aload_n F dX2_lengthFor_25 rfl ?_
    refine V_getf F (q0 := 1) (j := 9) lk_X2_40 dX2_lengthFor_26 ig_X2 rfl rfl (by decide) rfl rfl ?_
    refine V_iload_n F dX2_lengthFor_29 rfl ?_
    refine V_callSNi F (c_at (q := 11) rfl hq h2) mi_X3_at ms_X3_at nk_X2_68 dX2_lengthFor_30 (rmR (by omega)) rfl rfl (by decide) (Nat.le_of_ble_eq_true rfl) ?_
    refine V_iconst F (v := nI 2) dX2_lengthFor_33 (by decide) ?_
    (first | refine V_iaddN F dX2_lengthFor_34 ?_ | refine V_iadd F dX2_lengthFor_34 ?_)
    (first | refine V_iaddN F dX2_lengthFor_35 ?_ | refine V_iadd F dX2_lengthFor_35 ?_)
    refine V_istore F (lv' := [_, _, _, _, _]) dX2_lengthFor_36 (by decide) rfl rfl ?_
    refine V_iload F dX2_lengthFor_38 rfl ?_
    exact V_iret F dX2_lengthFor_40 (⟨rfl, rfl⟩)
/-- some actions copied behind a place, a guard put to each -/
def CpA (μ μ' : Mem) (part base : Nat) (w : Int64) (b : Nat) : Prop := (∀ c j, ¬ (c = 12 ∧ base ≤ j ∧ j < base + b) → μ'.1 c j = μ.1 c j) ∧ (∀ j, ¬ (base ≤ j ∧ j < base + b) → μ'.2 j = μ.2 j) ∧
  ∀ s, s < b → μ'.1 12 (base + s) = μ.1 12 (3 * part + s) ∧ μ'.2 (base + s) = μ.2 (3 * part + s) ||| w
theorem c_copy {part made behind b : Nat} {w : Int64} (hb : μ.1 9 part = nI b) (hpm : part < made) (hm : made < 24) (hbb : behind + b ≤ 3) : Ct (GS g) l (1) yX2_copyActions cX2_copyActions 9 none [.ref (g.1 1), .int (nI part), .int (nI made), .int (nI behind), .long w] μ ((fun r μ' => r = none ∧ CpA μ μ' part (3 * made + behind) w b)) := by
  refine Ct.of (own := RX2) mi_X2_copyActions rfl [some (.ref (g.1 1)), some (.int (nI part)), some (.int (nI made)), some (.int (nI behind)), some (.long w), none, none, none, none] (Nat.le_of_ble_eq_true rfl) rfl (fun p₀ e₀ s₀ m₀ b₀ h₀ c₀ F => ?_)
  have loop : ∀ (k i : Nat) (ν : Mem), i + k = b → CpA μ ν part (3 * made + behind) w i → V (GS g) p₀ l e₀ (rmD (1)) s₀ m₀ (List.toArray [.ref (g.1 1), .int (nI part), .int (nI made), .int (nI behind), .long w]) b₀ h₀ c₀ 9 0 0 (MQ b₀ (Qp (GS g) ((fun r μ' => r = none ∧ CpA μ μ' part (3 * made + behind) w b))) (List.toArray [.ref (g.1 1), .int (nI part), .int (nI made), .int (nI behind), .long w]) s₀ 0 0 (gA (GS g))) 3 ([some (.ref (g.1 1)), some (.int (nI part)), some (.int (nI made)), some (.int (nI behind)), some (.long w), none, some (.int (nI i)), none, none]) ([]) (ν) := by
    intro k
    induction k with
    | zero =>
      intro i ν hi hν
      refine V_iload F dX2_copyActions_3 rfl ?_
      refine V_aload_n F dX2_copyActions_5 rfl ?_
      refine V_getf F (q0 := 1) (j := 7) lk_X2_30 dX2_copyActions_6 ig_X2 rfl rfl (by decide) rfl rfl ?_
      refine V_iload_n F dX2_copyActions_9 rfl ?_
      refine V_callSNi F (c_at (q := 9) (v := nI b) rfl (show part < 24 by omega) (by rw [hν.1 _ _ (by omega)]; exact hb)) mi_X3_at ms_X3_at nk_X2_68 dX2_copyActions_10 (rmR (by omega)) rfl rfl (by decide) (Nat.le_of_ble_eq_true rfl) ?_
      refine V_icmp_ge_N F (tgt := 79) dX2_copyActions_13 (by decide) (by omega) (by omega) (fun h => ?_) (fun h => ?_)
      · skip
        exact V_vret F dX2_copyActions_79 (⟨rfl, by rw [show b = i by omega]; exact hν⟩)
      · omega
    | succ k ih =>
      intro i ν hi hν
      refine V_iload F dX2_copyActions_3 rfl ?_
      refine V_aload_n F dX2_copyActions_5 rfl ?_
      refine V_getf F (q0 := 1) (j := 7) lk_X2_30 dX2_copyActions_6 ig_X2 rfl rfl (by decide) rfl rfl ?_
      refine V_iload_n F dX2_copyActions_9 rfl ?_
      refine V_callSNi F (c_at (q := 9) (v := nI b) rfl (show part < 24 by omega) (by rw [hν.1 _ _ (by omega)]; exact hb)) mi_X3_at ms_X3_at nk_X2_68 dX2_copyActions_10 (rmR (by omega)) rfl rfl (by decide) (Nat.le_of_ble_eq_true rfl) ?_
      refine V_icmp_ge_N F (tgt := 79) dX2_copyActions_13 (by decide) (by omega) (by omega) (fun h => ?_) (fun h => ?_)
      · omega
      · have e1 : part * 3 + i = 3 * part + i := by omega
        have e2 : made * 3 + behind + i = 3 * made + behind + i := by omega
        refine V_iload_n F dX2_copyActions_16 rfl ?_
        refine V_iconst F (v := nI 3) dX2_copyActions_17 (by decide) ?_
        (first | refine V_imulN F dX2_copyActions_18 ?_ | refine V_imul F dX2_copyActions_18 ?_)
        refine V_iload F dX2_copyActions_19 rfl ?_
        (first | refine V_iaddN F dX2_copyActions_21 ?_ | refine V_iadd F dX2_copyActions_21 ?_)
        rw [e1]
        refine V_istore F (lv' := [_, _, _, _, _, _, _, _, _]) dX2_copyActions_22 (by decide) rfl rfl ?_
        refine V_iload_n F dX2_copyActions_24 rfl ?_
        refine V_iconst F (v := nI 3) dX2_copyActions_25 (by decide) ?_
        (first | refine V_imulN F dX2_copyActions_26 ?_ | refine V_imul F dX2_copyActions_26 ?_)
        refine V_iload_n F dX2_copyActions_27 rfl ?_
        (first | refine V_iaddN F dX2_copyActions_28 ?_ | refine V_iadd F dX2_copyActions_28 ?_)
        refine V_iload F dX2_copyActions_29 rfl ?_
        (first | refine V_iaddN F dX2_copyActions_31 ?_ | refine V_iadd F dX2_copyActions_31 ?_)
        rw [e2]
        refine V_istore F (lv' := [_, _, _, _, _, _, _, _, _]) dX2_copyActions_32 (by decide) rfl rfl ?_
        refine V_aload_n F dX2_copyActions_34 rfl ?_
        refine V_getf F (q0 := 1) (j := 10) lk_X2_43 dX2_copyActions_35 ig_X2 rfl rfl (by decide) rfl rfl ?_
        refine V_iload F dX2_copyActions_38 rfl ?_
        refine V_aload_n F dX2_copyActions_40 rfl ?_
        refine V_getf F (q0 := 1) (j := 10) lk_X2_43 dX2_copyActions_41 ig_X2 rfl rfl (by decide) rfl rfl ?_
        refine V_iload F dX2_copyActions_44 rfl ?_
        refine V_callSNi F (c_at (q := 12) rfl (show 3 * part + i < 72 by omega) (hν.1 12 _ (by omega))) mi_X3_at ms_X3_at nk_X2_68 dX2_copyActions_46 (rmR (by omega)) rfl rfl (by decide) (Nat.le_of_ble_eq_true rfl) ?_
        refine V_callSN0 F (c_put (q := 12) rfl (show 3 * made + behind + i < 72 by omega)) mi_X3_put ms_X3_put nk_X2_64 dX2_copyActions_49 (rmR (by omega)) rfl rfl (by decide) (Nat.le_of_ble_eq_true rfl) ?_
        refine V_aload_n F dX2_copyActions_52 rfl ?_
        refine V_getf F (q0 := 1) (j := 11) lk_X2_46 dX2_copyActions_53 ig_X2 rfl rfl (by decide) rfl rfl ?_
        refine V_iload F dX2_copyActions_56 rfl ?_
        refine V_aload_n F dX2_copyActions_58 rfl ?_
        refine V_getf F (q0 := 1) (j := 11) lk_X2_46 dX2_copyActions_59 ig_X2 rfl rfl (by decide) rfl rfl ?_
        refine V_iload F dX2_copyActions_62 rfl ?_
        refine V_callSNi F (c_atL (j := 3 * part + i) (v := μ.2 (3 * part + i)) (by omega) (by rw [wr_2]; exact hν.2.1 _ (by omega))) mi_X3_at_ ms_X3_at_ nk_X2_103 dX2_copyActions_64 (rmR (by omega)) rfl rfl (by decide) (Nat.le_of_ble_eq_true rfl) ?_
        refine V_lload F dX2_copyActions_67 rfl ?_
        refine V_lor F dX2_copyActions_69 ?_
        refine V_callSN0 F (c_putL (show 3 * made + behind + i < 72 by omega)) mi_X3_put_ ms_X3_put_ nk_X2_96 dX2_copyActions_70 (rmR (by omega)) rfl rfl (by decide) (Nat.le_of_ble_eq_true rfl) ?_
        refine V_iinc F (lv' := [_, _, _, _, _, _, _, _, _]) dX2_copyActions_73 rfl (by decide) rfl rfl ?_
        refine V_goto F (tgt := 3) dX2_copyActions_76 (by decide) ?_
        rw [show nI i + Int32.ofInt 1 = nI (i + 1) from nI_1 i]
        refine V_msk [true, true, true, true, true, false, true, false, false] (lv' := [_, _, _, _, _, _, _, _, _]) rfl ?_
        refine ih (i + 1) _ (by omega) ⟨fun c j hj => ?_, fun j hj => ?_, fun s hs => ?_⟩
        · rw [wrL_1, wr_ne (by omega)]; exact hν.1 c j (by omega)
        · rw [wrL_at, if_neg (by omega), wr_2]; exact hν.2.1 j (by omega)
        · by_cases hsi : s = i
          · subst hsi
            rw [wrL_1, wr_eq, wrL_at, if_pos rfl]
            exact ⟨rfl, rfl⟩
          · rw [wrL_1, wr_ne (by omega), wrL_at, if_neg (by omega), wr_2]
            exact hν.2.2 s (by omega)
  refine V_iconst F (v := nI 0) dX2_copyActions_0 (by decide) ?_
  refine V_istore F (lv' := [_, _, _, _, _, _, _, _, _]) dX2_copyActions_1 (by decide) rfl rfl ?_
  exact loop b 0 μ (by omega) ⟨fun _ _ _ => rfl, fun _ _ => rfl, fun s hs => absurd hs (Nat.not_lt_zero s)⟩
theorem or_0L (x : Int64) : x ||| lN 0 = x := by
  apply Int64.toBitVec_inj.1
  show x.toBitVec ||| BitVec.ofNat 64 0 = x.toBitVec
  simp
/-- the actions of the process that is built -/
def PtA (T' : Tb) (μ μ' : Mem) (made : Nat) : Prop := (∀ c j, ¬ (c = 12 ∧ 3 * made ≤ j ∧ j < 3 * made + 3) → μ'.1 c j = μ.1 c j) ∧ (∀ j, ¬ (3 * made ≤ j ∧ j < 3 * made + 3) → μ'.2 j = μ.2 j) ∧
  ∀ s a, (acts T' made)[s]? = some a → μ'.1 12 (3 * made + s) = nI a.1 ∧ ∃ w, μ'.2 (3 * made + s) = lN w ∧ gm w a.2
theorem c_putActions {k x y p q : Nat} (hW : WF T n) (ho : bOk n k x y p q) (hf : bFit T n k p q) (h9 : ∀ j, j < n → μ.1 9 j = nI (T 6 j)) (hA : ∀ p s a, p < n → (acts T p)[s]? = some a → μ.1 12 (3 * p + s) = nI a.1 ∧ ∃ w, μ.2 (3 * p + s) = lN w ∧ gm w a.2) : Ct (GS g) l (2) yX2_putActions cX2_putActions 9 none [.ref (g.1 1), .int (nI n), .int (nI k), .int (nI x), .int (nI y), .int (nI p), .int (nI q)] μ ((fun r μ' => r = none ∧ PtA (bT T n k x y p q) μ μ' n)) := by
  have hW' := bT_wf hW ho hf
  have hac := acts_eq hW' (Nat.lt_succ_self n)
  have hcg : ∀ j, j < n → acts (bT T n k x y p q) j = acts T j := fun j hj => acts_congr hW hW' (by omega) (fun f i hi => bT_old (by omega)) j hj
  have e0 : bT T n k x y p q 0 n = k := by simp [bT]
  have e1 : bT T n k x y p q 1 n = x := by simp [bT]
  have e2 : bT T n k x y p q 2 n = y := by simp [bT]
  have e3 : bT T n k x y p q 3 n = p := by simp [bT]
  have e4 : bT T n k x y p q 4 n = q := by simp [bT]
  obtain ⟨o1, o2, o3, o4, o5, o6, o7, o8, o9, o10⟩ := ho
  obtain ⟨f1, f2, f3⟩ := hf
  rw [e0, e1, e2, e3, e4, hcg p o5, hcg q o6, if_neg (by omega)] at hac
  refine Ct.of (own := RX2) mi_X2_putActions rfl [some (.ref (g.1 1)), some (.int (nI n)), some (.int (nI k)), some (.int (nI x)), some (.int (nI y)), some (.int (nI p)), some (.int (nI q)), none, none] (Nat.le_of_ble_eq_true rfl) rfl (fun p₀ e₀ s₀ m₀ b₀ h₀ c₀ F => ?_)
  refine V_iload_n F dX2_putActions_0 rfl ?_
  refine V_callSi F (c_isAction (by omega)) mi_X2_isAction ms_X2_isAction lk_X2_78 dX2_putActions_1 (rmR (by omega)) rfl rfl (by decide) (Nat.le_of_ble_eq_true rfl) ?_
  by_cases hk3 : k ≤ 3
  · rw [if_pos ⟨o1, hk3⟩]
    rw [if_pos hk3] at hac
    refine V_if_eq_f F (tgt := 30) dX2_putActions_4 (by decide) (by decide) ?_
    refine V_aload_n F dX2_putActions_7 rfl ?_
    refine V_getf F (q0 := 1) (j := 10) lk_X2_43 dX2_putActions_8 ig_X2 rfl rfl (by decide) rfl rfl ?_
    refine V_iload_n F dX2_putActions_11 rfl ?_
    refine V_iconst F (v := nI 3) dX2_putActions_12 (by decide) ?_
    (first | refine V_imulN F dX2_putActions_13 ?_ | refine V_imul F dX2_putActions_13 ?_)
    refine V_iload_n F dX2_putActions_14 rfl ?_
    rw [Nat.mul_comm n 3]
    refine V_callSN0 F (c_put (q := 12) rfl (show 3 * n < 72 by omega)) mi_X3_put ms_X3_put nk_X2_64 dX2_putActions_15 (rmR (by omega)) rfl rfl (by decide) (Nat.le_of_ble_eq_true rfl) ?_
    refine V_aload_n F dX2_putActions_18 rfl ?_
    refine V_getf F (q0 := 1) (j := 11) lk_X2_46 dX2_putActions_19 ig_X2 rfl rfl (by decide) rfl rfl ?_
    refine V_iload_n F dX2_putActions_22 rfl ?_
    refine V_iconst F (v := nI 3) dX2_putActions_23 (by decide) ?_
    (first | refine V_imulN F dX2_putActions_24 ?_ | refine V_imul F dX2_putActions_24 ?_)
    refine V_lconst F (v := 0) dX2_putActions_25 rfl ?_
    rw [Nat.mul_comm n 3]
    refine V_callSN0 F (c_putL (show 3 * n < 72 by omega)) mi_X3_put_ ms_X3_put_ nk_X2_96 dX2_putActions_26 (rmR (by omega)) rfl rfl (by decide) (Nat.le_of_ble_eq_true rfl) ?_
    refine V_vret F dX2_putActions_29 ⟨rfl, fun c j hj => ?_, fun j hj => ?_, fun s a hs => ?_⟩
    · rw [wrL_1, wr_ne (by omega)]
    · rw [wrL_at, if_neg (by omega), wr_2]
    · rw [hac] at hs
      cases s with
      | zero =>
        cases hs
        exact ⟨by rw [wrL_1]; exact wr_eq, 0, by rw [wrL_at]; exact if_pos rfl, gm_nil⟩
      | succ s => simp at hs
  · rw [if_neg (by omega)]
    rw [if_neg hk3] at hac
    unfold bB at f3
    rw [if_neg hk3] at f3
    refine V_if_eq_t F (tgt := 30) dX2_putActions_4 (by decide) (by decide) ?_
    refine V_iload_n F dX2_putActions_30 rfl ?_
    refine V_iconst F (v := nI 4) dX2_putActions_31 (by decide) ?_
    refine V_icmp_ne_N F (tgt := 47) dX2_putActions_32 (by decide) (by omega) (by omega) (fun h4 => ?_) (fun h4 => ?_)
    · have hk5 : k = 5 := by omega
      rw [if_neg (by omega)] at hac
      refine V_lconst F (v := 0) dX2_putActions_47 rfl ?_
      refine V_lstore F (lv' := [_, _, _, _, _, _, _, _, _]) dX2_putActions_48 (by decide) rfl rfl ?_
      refine V_aload_n F dX2_putActions_50 rfl ?_
      refine V_iload F dX2_putActions_51 rfl ?_
      refine V_iload_n F dX2_putActions_53 rfl ?_
      refine V_iconst F (v := nI 0) dX2_putActions_54 (by decide) ?_
      refine V_lload F dX2_putActions_55 rfl ?_
      refine V_callV F (q0 := 1) (c_copy (part := p) (made := n) (behind := 0) (b := T 6 p) (h9 p o5) o5 f1 (by omega)) mi_X2_copyActions mm_X2_copyActions lk_X2_99 dX2_putActions_57 (rmR (by omega)) rfl rfl (by decide) (Nat.le_of_ble_eq_true rfl) rfl rfl rfl (fun r μ' h => ?_)
      obtain ⟨rfl, hC⟩ := h
      refine V_aload_n F dX2_putActions_60 rfl ?_
      refine V_iload F dX2_putActions_61 rfl ?_
      refine V_iload_n F dX2_putActions_63 rfl ?_
      refine V_aload_n F dX2_putActions_64 rfl ?_
      refine V_getf F (q0 := 1) (j := 7) lk_X2_30 dX2_putActions_65 ig_X2 rfl rfl (by decide) rfl rfl ?_
      refine V_iload F dX2_putActions_68 rfl ?_
      refine V_callSNi F (c_at (q := 9) (v := nI (T 6 p)) rfl (show p < 24 by omega) (by rw [hC.1 _ _ (by omega)]; exact h9 p o5)) mi_X3_at ms_X3_at nk_X2_68 dX2_putActions_70 (rmR (by omega)) rfl rfl (by decide) (Nat.le_of_ble_eq_true rfl) ?_
      refine V_lload F dX2_putActions_73 rfl ?_
      refine V_callV F (q0 := 1) (c_copy (part := q) (made := n) (behind := T 6 p) (b := T 6 q) (by rw [hC.1 _ _ (by omega)]; exact h9 q o6) o6 f1 (by omega)) mi_X2_copyActions mm_X2_copyActions lk_X2_99 dX2_putActions_75 (rmR (by omega)) rfl rfl (by decide) (Nat.le_of_ble_eq_true rfl) rfl rfl rfl (fun r μ' h => ?_)
      obtain ⟨rfl, hD⟩ := h
      refine V_vret F dX2_putActions_78 ⟨rfl, fun c j hj => ?_, fun j hj => ?_, fun s a hs => ?_⟩
      · rw [hD.1 _ _ (by omega), hC.1 _ _ (by omega)]
      · rw [hD.2.1 _ (by omega), hC.2.1 _ (by omega)]
      · rw [hac] at hs
        have hl := acts_len hW o5
        have hl2 := acts_len hW o6
        by_cases hsl : s < T 6 p
        · rw [List.getElem?_append_left (by omega)] at hs
          obtain ⟨b1, w, b2, b3⟩ := hA p s a o5 hs
          obtain ⟨c1, c2⟩ := hC.2.2 s hsl
          rw [hD.1 _ _ (by omega), hD.2.1 _ (by omega)]
          exact ⟨c1.trans b1, w, by rw [show 3 * n + s = 3 * n + 0 + s by omega, c2, b2]; exact or_0L _, b3⟩
        · rw [List.getElem?_append_right (by omega), hl] at hs
          obtain ⟨b1, w, b2, b3⟩ := hA q _ a o6 hs
          have hlt := (List.getElem?_eq_some_iff.mp hs).1
          obtain ⟨c1, c2⟩ := hD.2.2 (s - T 6 p) (by omega)
          rw [show 3 * n + T 6 p + (s - T 6 p) = 3 * n + s by omega] at c1 c2
          rw [c1, c2, hC.1 _ _ (by omega), hC.2.1 _ (by omega)]
          exact ⟨b1, w, by rw [b2]; exact or_0L _, b3⟩
    · have h4 := Classical.not_not.mp h4
      have hq0 := o10 (by omega)
      have h60 : T 6 q = 0 := by rw [hq0]; exact hW.2.1.2.2.2.2.2.2.1
      rw [if_pos h4] at hac
      refine V_lconst F (v := 1) dX2_putActions_35 rfl ?_
      refine V_iload_n F dX2_putActions_36 rfl ?_
      refine V_bipush F (v := nI 6) dX2_putActions_37 (by decide) ?_
      (first | refine V_imulN F dX2_putActions_39 ?_ | refine V_imul F dX2_putActions_39 ?_)
      refine V_iload F dX2_putActions_40 rfl ?_
      (first | refine V_iaddN F dX2_putActions_42 ?_ | refine V_iadd F dX2_putActions_42 ?_)
      refine V_lshl F dX2_putActions_43 ?_
      refine V_valL F (wb_shl 1 (show x * 6 + y < 64 by omega)) ?_
      refine V_goto F (tgt := 48) dX2_putActions_44 (by decide) ?_
      refine V_lstore F (lv' := [_, _, _, _, _, _, _, _, _]) dX2_putActions_48 (by decide) rfl rfl ?_
      refine V_aload_n F dX2_putActions_50 rfl ?_
      refine V_iload F dX2_putActions_51 rfl ?_
      refine V_iload_n F dX2_putActions_53 rfl ?_
      refine V_iconst F (v := nI 0) dX2_putActions_54 (by decide) ?_
      refine V_lload F dX2_putActions_55 rfl ?_
      refine V_callV F (q0 := 1) (c_copy (part := p) (made := n) (behind := 0) (b := T 6 p) (h9 p o5) o5 f1 (by omega)) mi_X2_copyActions mm_X2_copyActions lk_X2_99 dX2_putActions_57 (rmR (by omega)) rfl rfl (by decide) (Nat.le_of_ble_eq_true rfl) rfl rfl rfl (fun r μ' h => ?_)
      obtain ⟨rfl, hC⟩ := h
      refine V_aload_n F dX2_putActions_60 rfl ?_
      refine V_iload F dX2_putActions_61 rfl ?_
      refine V_iload_n F dX2_putActions_63 rfl ?_
      refine V_aload_n F dX2_putActions_64 rfl ?_
      refine V_getf F (q0 := 1) (j := 7) lk_X2_30 dX2_putActions_65 ig_X2 rfl rfl (by decide) rfl rfl ?_
      refine V_iload F dX2_putActions_68 rfl ?_
      refine V_callSNi F (c_at (q := 9) (v := nI (T 6 p)) rfl (show p < 24 by omega) (by rw [hC.1 _ _ (by omega)]; exact h9 p o5)) mi_X3_at ms_X3_at nk_X2_68 dX2_putActions_70 (rmR (by omega)) rfl rfl (by decide) (Nat.le_of_ble_eq_true rfl) ?_
      refine V_lload F dX2_putActions_73 rfl ?_
      refine V_callV F (q0 := 1) (c_copy (part := q) (made := n) (behind := T 6 p) (b := T 6 q) (by rw [hC.1 _ _ (by omega)]; exact h9 q o6) o6 f1 (by omega)) mi_X2_copyActions mm_X2_copyActions lk_X2_99 dX2_putActions_75 (rmR (by omega)) rfl rfl (by decide) (Nat.le_of_ble_eq_true rfl) rfl rfl rfl (fun r μ' h => ?_)
      obtain ⟨rfl, hD⟩ := h
      refine V_vret F dX2_putActions_78 ⟨rfl, fun c j hj => ?_, fun j hj => ?_, fun s a hs => ?_⟩
      · rw [hD.1 _ _ (by omega), hC.1 _ _ (by omega)]
      · rw [hD.2.1 _ (by omega), hC.2.1 _ (by omega)]
      · rw [hac, List.getElem?_map] at hs
        have hl := acts_len hW o5
        cases ha : (acts T p)[s]? with
        | none => rw [ha] at hs; cases hs
        | some a' =>
          rw [ha] at hs
          cases hs
          have hlt := (List.getElem?_eq_some_iff.mp ha).1
          obtain ⟨b1, w, b2, b3⟩ := hA p s a' o5 ha
          obtain ⟨c1, c2⟩ := hC.2.2 s (by omega)
          rw [hD.1 _ _ (by omega), hD.2.1 _ (by omega)]
          refine ⟨c1.trans b1, w ||| 2 ^ (x * 6 + y), ?_, gm_cons b3 o3 o4⟩
          rw [show 3 * n + s = 3 * n + 0 + s by omega, c2, b2, wb_or (by have := b3.1; omega) (by rw [Nat.one_mul]; exact Nat.pow_lt_pow_right (by omega) (by omega)), Nat.one_mul]
end BUILD
end
section
section MAKE0
variable {T : Tb} {n : Nat}
def BQ (T : Tb) (n k x y p q : Nat) (μ : Mem) : Option Value → Mem → Prop := fun r μ' => (bFit T n k p q ∧ r = some (.int (nI n)) ∧ XInv (bT T n k x y p q) (n + 1) μ' ∧ sameM μ μ') ∨ (¬ bFit T n k p q ∧ r = some (.int (-3)) ∧ μ' = μ)
def oTau (n : Nat) (p : Int32) : Option (Nat × Nat × Nat × Nat × Nat) := match pj n p with
  | some j => some (1, 0, 0, j, 0)
  | none => none
def oOut (n : Nat) (x y p : Int32) : Option (Nat × Nat × Nat × Nat × Nat) := match pj 6 x with
  | none => none
  | some a => match pj 6 y with
    | none => none
    | some b => match pj n p with
      | some j => some (2, a, b, j, 0)
      | none => none
def oIn (n : Nat) (x p : Int32) : Option (Nat × Nat × Nat × Nat × Nat) := match pj 6 x with
  | none => none
  | some a => match pj n p with
    | some j => some (3, a, 0, j, 0)
    | none => none
def oMat (n : Nat) (x y p : Int32) : Option (Nat × Nat × Nat × Nat × Nat) := match pj 6 x with
  | none => none
  | some a => match pj 6 y with
    | none => none
    | some b => match pj n p with
      | some j => some (4, a, b, j, 0)
      | none => none
def oSum (n : Nat) (p q : Int32) : Option (Nat × Nat × Nat × Nat × Nat) := match pj n p with
  | none => none
  | some i => match pj n q with
    | some j => some (5, 0, 0, i, j)
    | none => none
def BP (T : Tb) (n : Nat) (o : Option (Nat × Nat × Nat × Nat × Nat)) (μ : Mem) : Option Value → Mem → Prop := match o with
  | none => Is (.int (-1)) μ
  | some (k, x, y, p, q) => BQ T n k x y p q μ
theorem bOk_tau {j : Nat} (hj : j < n) : bOk n 1 0 0 j 0 := by unfold bOk; omega
theorem bOk_out {a b j : Nat} (ha : a < 6) (hb : b < 6) (hj : j < n) : bOk n 2 a b j 0 := by unfold bOk; omega
theorem bOk_in {a j : Nat} (ha : a < 6) (hj : j < n) : bOk n 3 a 0 j 0 := by unfold bOk; omega
theorem bOk_mat {a b j : Nat} (ha : a < 6) (hb : b < 6) (hj : j < n) : bOk n 4 a b j 0 := by unfold bOk; omega
theorem bOk_sum {i j : Nat} (hi : i < n) (hj : j < n) : bOk n 5 0 0 i j := by unfold bOk; omega
theorem hk3_iff {k : Nat} (h1 : 1 ≤ k) : (1 ≤ k ∧ k ≤ 3) ↔ k ≤ 3 := by omega
end MAKE0
section MAKE
variable {g : Gm} {l : Launch} {μ : Mem} {T : Tb} {n : Nat}
theorem c_build {k x y p q : Nat} (hI : XInv T n μ) (ho : bOk n k x y p q) : Ct (GS g) l (3) yX2_build cX2_build 9 (some .int) [.ref (g.1 1), .int (nI k), .int (nI x), .int (nI y), .int (nI p), .int (nI q)] μ (BQ T n k x y p q μ) := by
  have hX := hI.1
  have hn := hX.n24
  have hW := hX.1
  obtain ⟨o1, o2, o3, o4, o5, o6, o7, o8, o9, o10⟩ := id ho
  have hd1 := hW.depth o5
  have hd2 := hW.depth o6
  have hn1 := hW.need o5
  have hn2 := hW.need o6
  refine Ct.of (own := RX2) mi_X2_build rfl [some (.ref (g.1 1)), some (.int (nI k)), some (.int (nI x)), some (.int (nI y)), some (.int (nI p)), some (.int (nI q)), none, none, none] (Nat.le_of_ble_eq_true rfl) rfl (fun p₀ e₀ s₀ m₀ b₀ h₀ c₀ F => ?_)
  have hbD : bD T k p q ≤ 4 := by unfold bD; split <;> omega
  have hbB : bB T k p q ≤ 6 := by unfold bB; split <;> omega
  have main : V (GS g) p₀ l e₀ (rmD (3)) s₀ m₀ (List.toArray [.ref (g.1 1), .int (nI k), .int (nI x), .int (nI y), .int (nI p), .int (nI q)]) b₀ h₀ c₀ 9 0 0 (MQ b₀ (Qp (GS g) (BQ T n k x y p q μ)) (List.toArray [.ref (g.1 1), .int (nI k), .int (nI x), .int (nI y), .int (nI p), .int (nI q)]) s₀ 0 0 (gA (GS g))) 68 ([some (.ref (g.1 1)), some (.int (nI k)), some (.int (nI x)), some (.int (nI y)), some (.int (nI p)), some (.int (nI q)), some (.int (nI (bD T k p q))), some (.int (nI (bB T k p q))), none]) ([]) (μ) := by
    refine V_aload_n F dX2_build_68 rfl ?_
    refine V_getf F (q0 := 1) (j := 0) lk_X2_50 dX2_build_69 ig_X2 rfl rfl (by decide) rfl rfl ?_
    refine V_val F (hX.2.1) ?_
    refine V_bipush F (v := nI 24) dX2_build_72 (by decide) ?_
    have bad : ¬ bFit T n k p q → V (GS g) p₀ l e₀ (rmD (3)) s₀ m₀ (List.toArray [.ref (g.1 1), .int (nI k), .int (nI x), .int (nI y), .int (nI p), .int (nI q)]) b₀ h₀ c₀ 9 0 0 (MQ b₀ (Qp (GS g) (BQ T n k x y p q μ)) (List.toArray [.ref (g.1 1), .int (nI k), .int (nI x), .int (nI y), .int (nI p), .int (nI q)]) s₀ 0 0 (gA (GS g))) 89 ([some (.ref (g.1 1)), some (.int (nI k)), some (.int (nI x)), some (.int (nI y)), some (.int (nI p)), some (.int (nI q)), some (.int (nI (bD T k p q))), some (.int (nI (bB T k p q))), none]) ([]) (μ) := by
      intro hf
      refine V_bipush F (v := (-3)) dX2_build_89 (by decide) ?_
      exact V_iret F dX2_build_91 (Or.inr ⟨hf, rfl, rfl⟩)
    refine V_icmp_ge_N F (tgt := 89) dX2_build_74 (by decide) (by omega) (by omega) (fun h1 => ?_) (fun h1 => ?_)
    · exact bad (fun hf => by have := hf.1; omega)
    · skip
      refine V_iload F dX2_build_77 rfl ?_
      refine V_iconst F (v := nI 3) dX2_build_79 (by decide) ?_
      refine V_icmp_gt_N F (tgt := 89) dX2_build_80 (by decide) (by omega) (by omega) (fun h2 => ?_) (fun h2 => ?_)
      · exact bad (fun hf => by have := hf.2.1; omega)
      · skip
        refine V_iload F dX2_build_83 rfl ?_
        refine V_iconst F (v := nI 3) dX2_build_85 (by decide) ?_
        refine V_icmp_le_N F (tgt := 92) dX2_build_86 (by decide) (by omega) (by omega) (fun h3 => ?_) (fun h3 => ?_)
        · have hf : bFit T n k p q := ⟨by omega, by omega, h3⟩
          have hn24 : n < 24 := hf.1
          have eN : max (max x y - 2) (max (T 7 p - (if k = 3 then 1 else 0)) (T 7 q)) = bN T k x y p q := rfl
          have eL : hdl k + T 8 p + (if k = 5 then T 8 q + 2 else 0) = bL T k p q := rfl
          refine V_aload_n F dX2_build_92 rfl ?_
          refine V_getf F (q0 := 1) (j := 0) lk_X2_50 dX2_build_93 ig_X2 rfl rfl (by decide) rfl rfl ?_
          refine V_val F (hX.2.1) ?_
          refine V_istore F (lv' := [_, _, _, _, _, _, _, _, _]) dX2_build_96 (by decide) rfl rfl ?_
          refine V_aload_n F dX2_build_98 rfl ?_
          refine V_iload F dX2_build_99 rfl ?_
          refine V_iconst F (v := nI 1) dX2_build_101 (by decide) ?_
          (first | refine V_iaddN F dX2_build_102 ?_ | refine V_iadd F dX2_build_102 ?_)
          refine V_pff_1_0 F (host := "") lk_X2_50 dX2_build_103 ?_
          refine V_aload_n F dX2_build_106 rfl ?_
          refine V_getf F (q0 := 1) (j := 1) lk_X2_9 dX2_build_107 ig_X2 rfl rfl (by decide) rfl rfl ?_
          refine V_iload F dX2_build_110 rfl ?_
          refine V_iload_n F dX2_build_112 rfl ?_
          refine V_callSN0 F (c_put (q := 3) rfl (show n < 24 by omega)) mi_X3_put ms_X3_put nk_X2_64 dX2_build_113 (rmR (by omega)) rfl rfl (by decide) (Nat.le_of_ble_eq_true rfl) ?_
          refine V_aload_n F dX2_build_116 rfl ?_
          refine V_getf F (q0 := 1) (j := 2) lk_X2_15 dX2_build_117 ig_X2 rfl rfl (by decide) rfl rfl ?_
          refine V_iload F dX2_build_120 rfl ?_
          refine V_iload_n F dX2_build_122 rfl ?_
          refine V_callSN0 F (c_put (q := 4) rfl (show n < 24 by omega)) mi_X3_put ms_X3_put nk_X2_64 dX2_build_123 (rmR (by omega)) rfl rfl (by decide) (Nat.le_of_ble_eq_true rfl) ?_
          refine V_aload_n F dX2_build_126 rfl ?_
          refine V_getf F (q0 := 1) (j := 3) lk_X2_18 dX2_build_127 ig_X2 rfl rfl (by decide) rfl rfl ?_
          refine V_iload F dX2_build_130 rfl ?_
          refine V_iload_n F dX2_build_132 rfl ?_
          refine V_callSN0 F (c_put (q := 5) rfl (show n < 24 by omega)) mi_X3_put ms_X3_put nk_X2_64 dX2_build_133 (rmR (by omega)) rfl rfl (by decide) (Nat.le_of_ble_eq_true rfl) ?_
          refine V_aload_n F dX2_build_136 rfl ?_
          refine V_getf F (q0 := 1) (j := 4) lk_X2_21 dX2_build_137 ig_X2 rfl rfl (by decide) rfl rfl ?_
          refine V_iload F dX2_build_140 rfl ?_
          refine V_iload F dX2_build_142 rfl ?_
          refine V_callSN0 F (c_put (q := 6) rfl (show n < 24 by omega)) mi_X3_put ms_X3_put nk_X2_64 dX2_build_144 (rmR (by omega)) rfl rfl (by decide) (Nat.le_of_ble_eq_true rfl) ?_
          refine V_aload_n F dX2_build_147 rfl ?_
          refine V_getf F (q0 := 1) (j := 5) lk_X2_24 dX2_build_148 ig_X2 rfl rfl (by decide) rfl rfl ?_
          refine V_iload F dX2_build_151 rfl ?_
          refine V_iload F dX2_build_153 rfl ?_
          refine V_callSN0 F (c_put (q := 7) rfl (show n < 24 by omega)) mi_X3_put ms_X3_put nk_X2_64 dX2_build_155 (rmR (by omega)) rfl rfl (by decide) (Nat.le_of_ble_eq_true rfl) ?_
          refine V_aload_n F dX2_build_158 rfl ?_
          refine V_getf F (q0 := 1) (j := 6) lk_X2_27 dX2_build_159 ig_X2 rfl rfl (by decide) rfl rfl ?_
          refine V_iload F dX2_build_162 rfl ?_
          refine V_iload F dX2_build_164 rfl ?_
          refine V_callSN0 F (c_put (q := 8) rfl (show n < 24 by omega)) mi_X3_put ms_X3_put nk_X2_64 dX2_build_166 (rmR (by omega)) rfl rfl (by decide) (Nat.le_of_ble_eq_true rfl) ?_
          refine V_aload_n F dX2_build_169 rfl ?_
          refine V_getf F (q0 := 1) (j := 7) lk_X2_30 dX2_build_170 ig_X2 rfl rfl (by decide) rfl rfl ?_
          refine V_iload F dX2_build_173 rfl ?_
          refine V_iload F dX2_build_175 rfl ?_
          refine V_callSN0 F (c_put (q := 9) rfl (show n < 24 by omega)) mi_X3_put ms_X3_put nk_X2_64 dX2_build_177 (rmR (by omega)) rfl rfl (by decide) (Nat.le_of_ble_eq_true rfl) ?_
          refine V_aload_n F dX2_build_180 rfl ?_
          refine V_getf F (q0 := 1) (j := 8) lk_X2_33 dX2_build_181 ig_X2 rfl rfl (by decide) rfl rfl ?_
          refine V_iload F dX2_build_184 rfl ?_
          refine V_aload_n F dX2_build_186 rfl ?_
          refine V_iload_n F dX2_build_187 rfl ?_
          refine V_iload_n F dX2_build_188 rfl ?_
          refine V_iload_n F dX2_build_189 rfl ?_
          refine V_iload F dX2_build_190 rfl ?_
          refine V_iload F dX2_build_192 rfl ?_
          refine V_callVi F (q0 := 1) (c_needFor (k := k) (x := x) (y := y) (p := p) (q := q) (a := T 7 p) (c := T 7 q) (by omega) o3 o4 (by omega) (by omega) (by omega) (by omega) (by (repeat rw [wr_ne (by omega)]); exact hX.fld 7 rfl (by omega) o5) (by (repeat rw [wr_ne (by omega)]); exact hX.fld 7 rfl (by omega) o6)) mi_X2_needFor mm_X2_needFor lk_X2_82 dX2_build_194 (rmR (by omega)) rfl rfl (by decide) (Nat.le_of_ble_eq_true rfl) rfl rfl rfl ?_
          rw [eN]
          refine V_callSN0 F (c_put (q := 10) rfl (show n < 24 by omega)) mi_X3_put ms_X3_put nk_X2_64 dX2_build_197 (rmR (by omega)) rfl rfl (by decide) (Nat.le_of_ble_eq_true rfl) ?_
          refine V_aload_n F dX2_build_200 rfl ?_
          refine V_getf F (q0 := 1) (j := 9) lk_X2_40 dX2_build_201 ig_X2 rfl rfl (by decide) rfl rfl ?_
          refine V_iload F dX2_build_204 rfl ?_
          refine V_aload_n F dX2_build_206 rfl ?_
          refine V_iload_n F dX2_build_207 rfl ?_
          refine V_iload F dX2_build_208 rfl ?_
          refine V_iload F dX2_build_210 rfl ?_
          refine V_callVi F (q0 := 1) (c_lengthFor (k := k) (p := p) (q := q) (a := T 8 p) (c := T 8 q) (by omega) (by omega) (by omega) (by (repeat rw [wr_ne (by omega)]); exact hX.fld 8 rfl (by omega) o5) (by (repeat rw [wr_ne (by omega)]); exact hX.fld 8 rfl (by omega) o6)) mi_X2_lengthFor mm_X2_lengthFor lk_X2_86 dX2_build_212 (rmR (by omega)) rfl rfl (by decide) (Nat.le_of_ble_eq_true rfl) rfl rfl rfl ?_
          rw [eL]
          refine V_callSN0 F (c_put (q := 11) rfl (show n < 24 by omega)) mi_X3_put ms_X3_put nk_X2_64 dX2_build_215 (rmR (by omega)) rfl rfl (by decide) (Nat.le_of_ble_eq_true rfl) ?_
          refine V_aload_n F dX2_build_218 rfl ?_
          refine V_iload F dX2_build_219 rfl ?_
          refine V_iload_n F dX2_build_221 rfl ?_
          refine V_iload_n F dX2_build_222 rfl ?_
          refine V_iload_n F dX2_build_223 rfl ?_
          refine V_iload F dX2_build_224 rfl ?_
          refine V_iload F dX2_build_226 rfl ?_
          refine V_callV F (q0 := 1) (c_putActions (T := T) hW ho hf (fun j hj => by (repeat rw [wr_ne (by omega)]); exact hX.fld 6 rfl (by omega) hj) (fun i s a hi ha => by have := hX.2.2.2 i s a hi ha; (repeat rw [wr_ne (by omega)]); exact this)) mi_X2_putActions mm_X2_putActions lk_X2_90 dX2_build_228 (rmR (by omega)) rfl rfl (by decide) (Nat.le_of_ble_eq_true rfl) rfl rfl rfl (fun r μ' h => ?_)
          obtain ⟨rfl, hP⟩ := h
          refine V_iload F dX2_build_231 rfl ?_
          refine V_iret F dX2_build_233 (Or.inl ⟨hf, rfl, ⟨⟨bT_wf hW ho hf, ?_, fun f j hf9 hj => ?_, fun i s a hi ha => ?_⟩, ?_⟩, fun c hc => ?_⟩)
          · rw [hP.1 _ _ (by omega)]
            repeat rw [wr_ne (by omega)]
            exact wr_eq
          · rw [hP.1 _ _ (by omega)]
            by_cases hjn : j = n
            · subst hjn
              rcases (by omega : f = 0 ∨ f = 1 ∨ f = 2 ∨ f = 3 ∨ f = 4 ∨ f = 5 ∨ f = 6 ∨ f = 7 ∨ f = 8) with rfl | rfl | rfl | rfl | rfl | rfl | rfl | rfl | rfl <;> simp [wr_at, bT]
            · rw [bT_old hjn]
              repeat rw [wr_ne (by omega)]
              exact hX.2.2.1 f j hf9 (by omega)
          · by_cases hin : i = n
            · subst hin
              exact hP.2.2 s a ha
            · rw [acts_congr hW (bT_wf hW ho hf) (by omega) (fun f j hj => bT_old (by omega)) i (by omega)] at ha
              have hlt := (List.getElem?_eq_some_iff.mp ha).1
              rw [acts_len hW (by omega)] at hlt
              have h63 := (hW.depth (show i < n by omega)).2
              have := hX.2.2.2 i s a (by omega) ha
              rw [hP.1 _ _ (by omega), hP.2.1 _ (by omega)]
              repeat rw [wr_ne (by omega)]
              exact this
          · refine hI.2.grow hW (bT_wf hW ho hf) (by omega) (fun f j hj => bT_old (by omega)) ?_
            funext j
            rw [hP.1 _ _ (by omega)]
            repeat rw [wr_ne (by omega)]
          · funext j
            rw [hP.1 _ _ (by omega)]
            repeat rw [wr_ne (by omega)]
        · exact bad (fun hf => by have := hf.2.2; omega)
  have eD1 : k ≤ 3 → max (T 5 p) (T 5 q) + 1 = bD T k p q := fun h => by unfold bD; rw [if_pos h]
  have eD0 : ¬ k ≤ 3 → max (T 5 p) (T 5 q) + 0 = bD T k p q := fun h => by unfold bD; rw [if_neg h]
  refine V_aload_n F dX2_build_0 rfl ?_
  refine V_getf F (q0 := 1) (j := 6) lk_X2_27 dX2_build_1 ig_X2 rfl rfl (by decide) rfl rfl ?_
  refine V_iload F dX2_build_4 rfl ?_
  refine V_callSNi F (c_at (q := 8) rfl (show p < 24 by omega) (hX.fld 5 rfl (by omega) o5)) mi_X3_at ms_X3_at nk_X2_68 dX2_build_6 (rmR (by omega)) rfl rfl (by decide) (Nat.le_of_ble_eq_true rfl) ?_
  refine V_aload_n F dX2_build_9 rfl ?_
  refine V_getf F (q0 := 1) (j := 6) lk_X2_27 dX2_build_10 ig_X2 rfl rfl (by decide) rfl rfl ?_
  refine V_iload F dX2_build_13 rfl ?_
  refine V_callSNi F (c_at (q := 8) rfl (show q < 24 by omega) (hX.fld 5 rfl (by omega) o6)) mi_X3_at ms_X3_at nk_X2_68 dX2_build_15 (rmR (by omega)) rfl rfl (by decide) (Nat.le_of_ble_eq_true rfl) ?_
  refine V_maxN F lk_X2_72 dX2_build_18 (rmM (by omega) (Nat.le_of_ble_eq_true rfl)) (by omega) (by omega) ?_
  refine V_iload_n F dX2_build_21 rfl ?_
  refine V_callSi F (c_isAction (by omega)) mi_X2_isAction ms_X2_isAction lk_X2_78 dX2_build_22 (rmR (by omega)) rfl rfl (by decide) (Nat.le_of_ble_eq_true rfl) ?_
  by_cases hk3 : k ≤ 3
  · rw [if_pos ⟨o1, hk3⟩]
    refine V_if_eq_f F (tgt := 32) dX2_build_25 (by decide) (by decide) ?_
    refine V_iconst F (v := nI 1) dX2_build_28 (by decide) ?_
    refine V_goto F (tgt := 33) dX2_build_29 (by decide) ?_
    (first | refine V_iaddN F dX2_build_33 ?_ | refine V_iadd F dX2_build_33 ?_)
    rw [eD1 hk3]
    refine V_istore F (lv' := [_, _, _, _, _, _, _, _, _]) dX2_build_34 (by decide) rfl rfl ?_
    refine V_iload_n F dX2_build_36 rfl ?_
    refine V_callSi F (c_isAction (by omega)) mi_X2_isAction ms_X2_isAction lk_X2_78 dX2_build_37 (rmR (by omega)) rfl rfl (by decide) (Nat.le_of_ble_eq_true rfl) ?_
    rw [if_pos ⟨o1, hk3⟩]
    refine V_if_eq_f F (tgt := 47) dX2_build_40 (by decide) (by decide) ?_
    refine V_iconst F (v := nI 1) dX2_build_43 (by decide) ?_
    refine V_goto F (tgt := 66) dX2_build_44 (by decide) ?_
    refine V_istore F (lv' := [_, _, _, _, _, _, _, _, _]) dX2_build_66 (by decide) rfl rfl ?_
    rw [show bB T k p q = 1 from if_pos hk3] at main
    exact main
  · rw [if_neg (by omega)]
    refine V_if_eq_t F (tgt := 32) dX2_build_25 (by decide) (by decide) ?_
    refine V_iconst F (v := nI 0) dX2_build_32 (by decide) ?_
    (first | refine V_iaddN F dX2_build_33 ?_ | refine V_iadd F dX2_build_33 ?_)
    rw [eD0 hk3]
    refine V_istore F (lv' := [_, _, _, _, _, _, _, _, _]) dX2_build_34 (by decide) rfl rfl ?_
    refine V_iload_n F dX2_build_36 rfl ?_
    refine V_callSi F (c_isAction (by omega)) mi_X2_isAction ms_X2_isAction lk_X2_78 dX2_build_37 (rmR (by omega)) rfl rfl (by decide) (Nat.le_of_ble_eq_true rfl) ?_
    rw [if_neg (by omega)]
    refine V_if_eq_t F (tgt := 47) dX2_build_40 (by decide) (by decide) ?_
    refine V_aload_n F dX2_build_47 rfl ?_
    refine V_getf F (q0 := 1) (j := 7) lk_X2_30 dX2_build_48 ig_X2 rfl rfl (by decide) rfl rfl ?_
    refine V_iload F dX2_build_51 rfl ?_
    refine V_callSNi F (c_at (q := 9) rfl (show p < 24 by omega) (hX.fld 6 rfl (by omega) o5)) mi_X3_at ms_X3_at nk_X2_68 dX2_build_53 (rmR (by omega)) rfl rfl (by decide) (Nat.le_of_ble_eq_true rfl) ?_
    refine V_aload_n F dX2_build_56 rfl ?_
    refine V_getf F (q0 := 1) (j := 7) lk_X2_30 dX2_build_57 ig_X2 rfl rfl (by decide) rfl rfl ?_
    refine V_iload F dX2_build_60 rfl ?_
    refine V_callSNi F (c_at (q := 9) rfl (show q < 24 by omega) (hX.fld 6 rfl (by omega) o6)) mi_X3_at ms_X3_at nk_X2_68 dX2_build_62 (rmR (by omega)) rfl rfl (by decide) (Nat.le_of_ble_eq_true rfl) ?_
    (first | refine V_iaddN F dX2_build_65 ?_ | refine V_iadd F dX2_build_65 ?_)
    refine V_istore F (lv' := [_, _, _, _, _, _, _, _, _]) dX2_build_66 (by decide) rfl rfl ?_
    rw [show bB T k p q = T 6 p + T 6 q from if_neg hk3] at main
    exact main
theorem c_tau (hI : XInv T n μ) (p : Int32) : Ct (GS g) l (4) yX3_tau cX3_tau 2 (some .int) [.ref (g.1 0), .int p] μ (BP T n (oTau n p) μ) := by
  have hX := hI.1
  have hn := hX.n24
  refine Ct.of (own := RX3) mi_X3_tau rfl [some (.ref (g.1 0)), some (.int p)] (Nat.le_of_ble_eq_true rfl) rfl (fun p₀ e₀ s₀ m₀ b₀ h₀ c₀ F => ?_)
  refine V_aload_n F dX3_tau_0 rfl ?_
  refine V_getf F (q0 := 0) (j := 0) lk_X3_10 dX3_tau_1 ig_X3 rfl rfl (by decide) rfl rfl ?_
  refine V_iload_n F dX3_tau_4 rfl ?_
  cases h : pj n p with
  | none =>
    have e : oTau n p = none := by unfold oTau; rw [h]
    refine V_callVNi F (q0 := 1) (c_holds_f hX.2.1 (by omega) (pj_none h (by omega))) mi_X2_holds mm_X2_holds nk_X3_25 dX3_tau_5 (rmR (by omega)) rfl rfl (by decide) (Nat.le_of_ble_eq_true rfl) rfl rfl rfl ?_
    refine V_if_ne_f F (tgt := 13) dX3_tau_8 (by decide) (by decide) ?_
    refine V_iconst F (v := (-1)) dX3_tau_11 (by decide) ?_
    exact V_iret F dX3_tau_12 (by rw [e]; exact ⟨rfl, rfl⟩)
  | some j =>
    obtain ⟨hj, rfl⟩ := pj_some h (by omega)
    have e : oTau n (nI j) = some (1, 0, 0, j, 0) := by unfold oTau; rw [h]
    refine V_callVNi F (q0 := 1) (c_holds_t hX.2.1 (by omega) hj) mi_X2_holds mm_X2_holds nk_X3_25 dX3_tau_5 (rmR (by omega)) rfl rfl (by decide) (Nat.le_of_ble_eq_true rfl) rfl rfl rfl ?_
    refine V_if_ne_t F (tgt := 13) dX3_tau_8 (by decide) (by decide) ?_
    refine V_aload_n F dX3_tau_13 rfl ?_
    refine V_getf F (q0 := 0) (j := 0) lk_X3_10 dX3_tau_14 ig_X3 rfl rfl (by decide) rfl rfl ?_
    refine V_iconst F (v := nI 1) dX3_tau_17 (by decide) ?_
    refine V_iconst F (v := nI 0) dX3_tau_18 (by decide) ?_
    refine V_iconst F (v := nI 0) dX3_tau_19 (by decide) ?_
    refine V_iload_n F dX3_tau_20 rfl ?_
    refine V_iconst F (v := nI 0) dX3_tau_21 (by decide) ?_
    refine V_callVN F (q0 := 1) (c_build hI (bOk_tau hj)) mi_X2_build mm_X2_build nk_X3_29 dX3_tau_22 (rmR (by omega)) rfl rfl (by decide) (Nat.le_of_ble_eq_true rfl) rfl rfl rfl (fun r μ' h => ?_)
    rcases h with ⟨h1, rfl, h2⟩ | ⟨h1, rfl, h2⟩
    · skip
      exact V_iret F dX3_tau_25 (by rw [e]; exact Or.inl ⟨h1, rfl, h2⟩)
    · skip
      exact V_iret F dX3_tau_25 (by rw [e]; exact Or.inr ⟨h1, rfl, h2⟩)
theorem c_input (hI : XInv T n μ) (x p : Int32) : Ct (GS g) l (4) yX3_input cX3_input 3 (some .int) [.ref (g.1 0), .int x, .int p] μ (BP T n (oIn n x p) μ) := by
  have hX := hI.1
  have hn := hX.n24
  refine Ct.of (own := RX3) mi_X3_input rfl [some (.ref (g.1 0)), some (.int x), some (.int p)] (Nat.le_of_ble_eq_true rfl) rfl (fun p₀ e₀ s₀ m₀ b₀ h₀ c₀ F => ?_)
  refine V_iload_n F dX3_input_0 rfl ?_
  cases hx : pj 6 x with
  | none =>
    have e : oIn n x p = none := by unfold oIn; rw [hx]
    refine V_callSi F (c_isName_f (pj_none hx (by omega))) mi_X3_isName ms_X3_isName lk_X3_33 dX3_input_1 (rmR (by omega)) rfl rfl (by decide) (Nat.le_of_ble_eq_true rfl) ?_
    refine V_if_eq_t F (tgt := 18) dX3_input_4 (by decide) (by decide) ?_
    refine V_iconst F (v := (-1)) dX3_input_18 (by decide) ?_
    exact V_iret F dX3_input_19 (by rw [e]; exact ⟨rfl, rfl⟩)
  | some a =>
    obtain ⟨ha, rfl⟩ := pj_some hx (by omega)
    refine V_callSi F (c_isName_t ha) mi_X3_isName ms_X3_isName lk_X3_33 dX3_input_1 (rmR (by omega)) rfl rfl (by decide) (Nat.le_of_ble_eq_true rfl) ?_
    refine V_if_eq_f F (tgt := 18) dX3_input_4 (by decide) (by decide) ?_
    refine V_aload_n F dX3_input_7 rfl ?_
    refine V_getf F (q0 := 0) (j := 0) lk_X3_10 dX3_input_8 ig_X3 rfl rfl (by decide) rfl rfl ?_
    refine V_iload_n F dX3_input_11 rfl ?_
    cases h : pj n p with
    | none =>
      have e : oIn n (nI a) p = none := by unfold oIn; rw [hx]; simp only [h]
      refine V_callVNi F (q0 := 1) (c_holds_f hX.2.1 (by omega) (pj_none h (by omega))) mi_X2_holds mm_X2_holds nk_X3_25 dX3_input_12 (rmR (by omega)) rfl rfl (by decide) (Nat.le_of_ble_eq_true rfl) rfl rfl rfl ?_
      refine V_if_ne_f F (tgt := 20) dX3_input_15 (by decide) (by decide) ?_
      refine V_iconst F (v := (-1)) dX3_input_18 (by decide) ?_
      exact V_iret F dX3_input_19 (by rw [e]; exact ⟨rfl, rfl⟩)
    | some j =>
      obtain ⟨hj, rfl⟩ := pj_some h (by omega)
      have e : oIn n (nI a) (nI j) = some (3, a, 0, j, 0) := by unfold oIn; rw [hx]; simp only [h]
      refine V_callVNi F (q0 := 1) (c_holds_t hX.2.1 (by omega) hj) mi_X2_holds mm_X2_holds nk_X3_25 dX3_input_12 (rmR (by omega)) rfl rfl (by decide) (Nat.le_of_ble_eq_true rfl) rfl rfl rfl ?_
      refine V_if_ne_t F (tgt := 20) dX3_input_15 (by decide) (by decide) ?_
      refine V_aload_n F dX3_input_20 rfl ?_
      refine V_getf F (q0 := 0) (j := 0) lk_X3_10 dX3_input_21 ig_X3 rfl rfl (by decide) rfl rfl ?_
      refine V_iconst F (v := nI 3) dX3_input_24 (by decide) ?_
      refine V_iload_n F dX3_input_25 rfl ?_
      refine V_iconst F (v := nI 0) dX3_input_26 (by decide) ?_
      refine V_iload_n F dX3_input_27 rfl ?_
      refine V_iconst F (v := nI 0) dX3_input_28 (by decide) ?_
      refine V_callVN F (q0 := 1) (c_build hI (bOk_in ha hj)) mi_X2_build mm_X2_build nk_X3_29 dX3_input_29 (rmR (by omega)) rfl rfl (by decide) (Nat.le_of_ble_eq_true rfl) rfl rfl rfl (fun r μ' h => ?_)
      rcases h with ⟨h1, rfl, h2⟩ | ⟨h1, rfl, h2⟩
      · skip
        exact V_iret F dX3_input_32 (by rw [e]; exact Or.inl ⟨h1, rfl, h2⟩)
      · skip
        exact V_iret F dX3_input_32 (by rw [e]; exact Or.inr ⟨h1, rfl, h2⟩)
theorem c_output (hI : XInv T n μ) (x y p : Int32) : Ct (GS g) l (4) yX3_output cX3_output 4 (some .int) [.ref (g.1 0), .int x, .int y, .int p] μ (BP T n (oOut n x y p) μ) := by
  have hX := hI.1
  have hn := hX.n24
  refine Ct.of (own := RX3) mi_X3_output rfl [some (.ref (g.1 0)), some (.int x), some (.int y), some (.int p)] (Nat.le_of_ble_eq_true rfl) rfl (fun p₀ e₀ s₀ m₀ b₀ h₀ c₀ F => ?_)
  refine V_iload_n F dX3_output_0 rfl ?_
  cases hx : pj 6 x with
  | none =>
    have e : oOut n x y p = none := by unfold oOut; rw [hx]
    refine V_callSi F (c_isName_f (pj_none hx (by omega))) mi_X3_isName ms_X3_isName lk_X3_33 dX3_output_1 (rmR (by omega)) rfl rfl (by decide) (Nat.le_of_ble_eq_true rfl) ?_
    refine V_if_eq_t F (tgt := 25) dX3_output_4 (by decide) (by decide) ?_
    refine V_iconst F (v := (-1)) dX3_output_25 (by decide) ?_
    exact V_iret F dX3_output_26 (by rw [e]; exact ⟨rfl, rfl⟩)
  | some a =>
    obtain ⟨ha, rfl⟩ := pj_some hx (by omega)
    refine V_callSi F (c_isName_t ha) mi_X3_isName ms_X3_isName lk_X3_33 dX3_output_1 (rmR (by omega)) rfl rfl (by decide) (Nat.le_of_ble_eq_true rfl) ?_
    refine V_if_eq_f F (tgt := 25) dX3_output_4 (by decide) (by decide) ?_
    refine V_iload_n F dX3_output_7 rfl ?_
    cases hy : pj 6 y with
    | none =>
      have e : oOut n (nI a) y p = none := by unfold oOut; rw [hx]; simp only [hy]
      refine V_callSi F (c_isName_f (pj_none hy (by omega))) mi_X3_isName ms_X3_isName lk_X3_33 dX3_output_8 (rmR (by omega)) rfl rfl (by decide) (Nat.le_of_ble_eq_true rfl) ?_
      refine V_if_eq_t F (tgt := 25) dX3_output_11 (by decide) (by decide) ?_
      refine V_iconst F (v := (-1)) dX3_output_25 (by decide) ?_
      exact V_iret F dX3_output_26 (by rw [e]; exact ⟨rfl, rfl⟩)
    | some b =>
      obtain ⟨hb, rfl⟩ := pj_some hy (by omega)
      refine V_callSi F (c_isName_t hb) mi_X3_isName ms_X3_isName lk_X3_33 dX3_output_8 (rmR (by omega)) rfl rfl (by decide) (Nat.le_of_ble_eq_true rfl) ?_
      refine V_if_eq_f F (tgt := 25) dX3_output_11 (by decide) (by decide) ?_
      refine V_aload_n F dX3_output_14 rfl ?_
      refine V_getf F (q0 := 0) (j := 0) lk_X3_10 dX3_output_15 ig_X3 rfl rfl (by decide) rfl rfl ?_
      refine V_iload_n F dX3_output_18 rfl ?_
      cases h : pj n p with
      | none =>
        have e : oOut n (nI a) (nI b) p = none := by unfold oOut; rw [hx]; simp only [hy, h]
        refine V_callVNi F (q0 := 1) (c_holds_f hX.2.1 (by omega) (pj_none h (by omega))) mi_X2_holds mm_X2_holds nk_X3_25 dX3_output_19 (rmR (by omega)) rfl rfl (by decide) (Nat.le_of_ble_eq_true rfl) rfl rfl rfl ?_
        refine V_if_ne_f F (tgt := 27) dX3_output_22 (by decide) (by decide) ?_
        refine V_iconst F (v := (-1)) dX3_output_25 (by decide) ?_
        exact V_iret F dX3_output_26 (by rw [e]; exact ⟨rfl, rfl⟩)
      | some j =>
        obtain ⟨hj, rfl⟩ := pj_some h (by omega)
        have e : oOut n (nI a) (nI b) (nI j) = some (2, a, b, j, 0) := by unfold oOut; rw [hx]; simp only [hy, h]
        refine V_callVNi F (q0 := 1) (c_holds_t hX.2.1 (by omega) hj) mi_X2_holds mm_X2_holds nk_X3_25 dX3_output_19 (rmR (by omega)) rfl rfl (by decide) (Nat.le_of_ble_eq_true rfl) rfl rfl rfl ?_
        refine V_if_ne_t F (tgt := 27) dX3_output_22 (by decide) (by decide) ?_
        refine V_aload_n F dX3_output_27 rfl ?_
        refine V_getf F (q0 := 0) (j := 0) lk_X3_10 dX3_output_28 ig_X3 rfl rfl (by decide) rfl rfl ?_
        refine V_iconst F (v := nI 2) dX3_output_31 (by decide) ?_
        refine V_iload_n F dX3_output_32 rfl ?_
        refine V_iload_n F dX3_output_33 rfl ?_
        refine V_iload_n F dX3_output_34 rfl ?_
        refine V_iconst F (v := nI 0) dX3_output_35 (by decide) ?_
        refine V_callVN F (q0 := 1) (c_build hI (bOk_out ha hb hj)) mi_X2_build mm_X2_build nk_X3_29 dX3_output_36 (rmR (by omega)) rfl rfl (by decide) (Nat.le_of_ble_eq_true rfl) rfl rfl rfl (fun r μ' h => ?_)
        rcases h with ⟨h1, rfl, h2⟩ | ⟨h1, rfl, h2⟩
        · skip
          exact V_iret F dX3_output_39 (by rw [e]; exact Or.inl ⟨h1, rfl, h2⟩)
        · skip
          exact V_iret F dX3_output_39 (by rw [e]; exact Or.inr ⟨h1, rfl, h2⟩)
theorem c_match (hI : XInv T n μ) (x y p : Int32) : Ct (GS g) l (4) yX3_match cX3_match 4 (some .int) [.ref (g.1 0), .int x, .int y, .int p] μ (BP T n (oMat n x y p) μ) := by
  have hX := hI.1
  have hn := hX.n24
  refine Ct.of (own := RX3) mi_X3_match rfl [some (.ref (g.1 0)), some (.int x), some (.int y), some (.int p)] (Nat.le_of_ble_eq_true rfl) rfl (fun p₀ e₀ s₀ m₀ b₀ h₀ c₀ F => ?_)
  refine V_iload_n F dX3_match_0 rfl ?_
  cases hx : pj 6 x with
  | none =>
    have e : oMat n x y p = none := by unfold oMat; rw [hx]
    refine V_callSi F (c_isName_f (pj_none hx (by omega))) mi_X3_isName ms_X3_isName lk_X3_33 dX3_match_1 (rmR (by omega)) rfl rfl (by decide) (Nat.le_of_ble_eq_true rfl) ?_
    refine V_if_eq_t F (tgt := 25) dX3_match_4 (by decide) (by decide) ?_
    refine V_iconst F (v := (-1)) dX3_match_25 (by decide) ?_
    exact V_iret F dX3_match_26 (by rw [e]; exact ⟨rfl, rfl⟩)
  | some a =>
    obtain ⟨ha, rfl⟩ := pj_some hx (by omega)
    refine V_callSi F (c_isName_t ha) mi_X3_isName ms_X3_isName lk_X3_33 dX3_match_1 (rmR (by omega)) rfl rfl (by decide) (Nat.le_of_ble_eq_true rfl) ?_
    refine V_if_eq_f F (tgt := 25) dX3_match_4 (by decide) (by decide) ?_
    refine V_iload_n F dX3_match_7 rfl ?_
    cases hy : pj 6 y with
    | none =>
      have e : oMat n (nI a) y p = none := by unfold oMat; rw [hx]; simp only [hy]
      refine V_callSi F (c_isName_f (pj_none hy (by omega))) mi_X3_isName ms_X3_isName lk_X3_33 dX3_match_8 (rmR (by omega)) rfl rfl (by decide) (Nat.le_of_ble_eq_true rfl) ?_
      refine V_if_eq_t F (tgt := 25) dX3_match_11 (by decide) (by decide) ?_
      refine V_iconst F (v := (-1)) dX3_match_25 (by decide) ?_
      exact V_iret F dX3_match_26 (by rw [e]; exact ⟨rfl, rfl⟩)
    | some b =>
      obtain ⟨hb, rfl⟩ := pj_some hy (by omega)
      refine V_callSi F (c_isName_t hb) mi_X3_isName ms_X3_isName lk_X3_33 dX3_match_8 (rmR (by omega)) rfl rfl (by decide) (Nat.le_of_ble_eq_true rfl) ?_
      refine V_if_eq_f F (tgt := 25) dX3_match_11 (by decide) (by decide) ?_
      refine V_aload_n F dX3_match_14 rfl ?_
      refine V_getf F (q0 := 0) (j := 0) lk_X3_10 dX3_match_15 ig_X3 rfl rfl (by decide) rfl rfl ?_
      refine V_iload_n F dX3_match_18 rfl ?_
      cases h : pj n p with
      | none =>
        have e : oMat n (nI a) (nI b) p = none := by unfold oMat; rw [hx]; simp only [hy, h]
        refine V_callVNi F (q0 := 1) (c_holds_f hX.2.1 (by omega) (pj_none h (by omega))) mi_X2_holds mm_X2_holds nk_X3_25 dX3_match_19 (rmR (by omega)) rfl rfl (by decide) (Nat.le_of_ble_eq_true rfl) rfl rfl rfl ?_
        refine V_if_ne_f F (tgt := 27) dX3_match_22 (by decide) (by decide) ?_
        refine V_iconst F (v := (-1)) dX3_match_25 (by decide) ?_
        exact V_iret F dX3_match_26 (by rw [e]; exact ⟨rfl, rfl⟩)
      | some j =>
        obtain ⟨hj, rfl⟩ := pj_some h (by omega)
        have e : oMat n (nI a) (nI b) (nI j) = some (4, a, b, j, 0) := by unfold oMat; rw [hx]; simp only [hy, h]
        refine V_callVNi F (q0 := 1) (c_holds_t hX.2.1 (by omega) hj) mi_X2_holds mm_X2_holds nk_X3_25 dX3_match_19 (rmR (by omega)) rfl rfl (by decide) (Nat.le_of_ble_eq_true rfl) rfl rfl rfl ?_
        refine V_if_ne_t F (tgt := 27) dX3_match_22 (by decide) (by decide) ?_
        refine V_aload_n F dX3_match_27 rfl ?_
        refine V_getf F (q0 := 0) (j := 0) lk_X3_10 dX3_match_28 ig_X3 rfl rfl (by decide) rfl rfl ?_
        refine V_iconst F (v := nI 4) dX3_match_31 (by decide) ?_
        refine V_iload_n F dX3_match_32 rfl ?_
        refine V_iload_n F dX3_match_33 rfl ?_
        refine V_iload_n F dX3_match_34 rfl ?_
        refine V_iconst F (v := nI 0) dX3_match_35 (by decide) ?_
        refine V_callVN F (q0 := 1) (c_build hI (bOk_mat ha hb hj)) mi_X2_build mm_X2_build nk_X3_29 dX3_match_36 (rmR (by omega)) rfl rfl (by decide) (Nat.le_of_ble_eq_true rfl) rfl rfl rfl (fun r μ' h => ?_)
        rcases h with ⟨h1, rfl, h2⟩ | ⟨h1, rfl, h2⟩
        · skip
          exact V_iret F dX3_match_39 (by rw [e]; exact Or.inl ⟨h1, rfl, h2⟩)
        · skip
          exact V_iret F dX3_match_39 (by rw [e]; exact Or.inr ⟨h1, rfl, h2⟩)
theorem c_sum (hI : XInv T n μ) (p q : Int32) : Ct (GS g) l (4) yX3_sum cX3_sum 3 (some .int) [.ref (g.1 0), .int p, .int q] μ (BP T n (oSum n p q) μ) := by
  have hX := hI.1
  have hn := hX.n24
  refine Ct.of (own := RX3) mi_X3_sum rfl [some (.ref (g.1 0)), some (.int p), some (.int q)] (Nat.le_of_ble_eq_true rfl) rfl (fun p₀ e₀ s₀ m₀ b₀ h₀ c₀ F => ?_)
  refine V_aload_n F dX3_sum_0 rfl ?_
  refine V_getf F (q0 := 0) (j := 0) lk_X3_10 dX3_sum_1 ig_X3 rfl rfl (by decide) rfl rfl ?_
  refine V_iload_n F dX3_sum_4 rfl ?_
  cases hp : pj n p with
  | none =>
    have e : oSum n p q = none := by unfold oSum; rw [hp]
    refine V_callVNi F (q0 := 1) (c_holds_f hX.2.1 (by omega) (pj_none hp (by omega))) mi_X2_holds mm_X2_holds nk_X3_25 dX3_sum_5 (rmR (by omega)) rfl rfl (by decide) (Nat.le_of_ble_eq_true rfl) rfl rfl rfl ?_
    refine V_if_eq_t F (tgt := 22) dX3_sum_8 (by decide) (by decide) ?_
    refine V_iconst F (v := (-1)) dX3_sum_22 (by decide) ?_
    exact V_iret F dX3_sum_23 (by rw [e]; exact ⟨rfl, rfl⟩)
  | some i =>
    obtain ⟨hi, rfl⟩ := pj_some hp (by omega)
    refine V_callVNi F (q0 := 1) (c_holds_t hX.2.1 (by omega) hi) mi_X2_holds mm_X2_holds nk_X3_25 dX3_sum_5 (rmR (by omega)) rfl rfl (by decide) (Nat.le_of_ble_eq_true rfl) rfl rfl rfl ?_
    refine V_if_eq_f F (tgt := 22) dX3_sum_8 (by decide) (by decide) ?_
    refine V_aload_n F dX3_sum_11 rfl ?_
    refine V_getf F (q0 := 0) (j := 0) lk_X3_10 dX3_sum_12 ig_X3 rfl rfl (by decide) rfl rfl ?_
    refine V_iload_n F dX3_sum_15 rfl ?_
    cases h : pj n q with
    | none =>
      have e : oSum n (nI i) q = none := by unfold oSum; rw [hp]; simp only [h]
      refine V_callVNi F (q0 := 1) (c_holds_f hX.2.1 (by omega) (pj_none h (by omega))) mi_X2_holds mm_X2_holds nk_X3_25 dX3_sum_16 (rmR (by omega)) rfl rfl (by decide) (Nat.le_of_ble_eq_true rfl) rfl rfl rfl ?_
      refine V_if_ne_f F (tgt := 24) dX3_sum_19 (by decide) (by decide) ?_
      refine V_iconst F (v := (-1)) dX3_sum_22 (by decide) ?_
      exact V_iret F dX3_sum_23 (by rw [e]; exact ⟨rfl, rfl⟩)
    | some j =>
      obtain ⟨hj, rfl⟩ := pj_some h (by omega)
      have e : oSum n (nI i) (nI j) = some (5, 0, 0, i, j) := by unfold oSum; rw [hp]; simp only [h]
      refine V_callVNi F (q0 := 1) (c_holds_t hX.2.1 (by omega) hj) mi_X2_holds mm_X2_holds nk_X3_25 dX3_sum_16 (rmR (by omega)) rfl rfl (by decide) (Nat.le_of_ble_eq_true rfl) rfl rfl rfl ?_
      refine V_if_ne_t F (tgt := 24) dX3_sum_19 (by decide) (by decide) ?_
      refine V_aload_n F dX3_sum_24 rfl ?_
      refine V_getf F (q0 := 0) (j := 0) lk_X3_10 dX3_sum_25 ig_X3 rfl rfl (by decide) rfl rfl ?_
      refine V_iconst F (v := nI 5) dX3_sum_28 (by decide) ?_
      refine V_iconst F (v := nI 0) dX3_sum_29 (by decide) ?_
      refine V_iconst F (v := nI 0) dX3_sum_30 (by decide) ?_
      refine V_iload_n F dX3_sum_31 rfl ?_
      refine V_iload_n F dX3_sum_32 rfl ?_
      refine V_callVN F (q0 := 1) (c_build hI (bOk_sum hi hj)) mi_X2_build mm_X2_build nk_X3_29 dX3_sum_33 (rmR (by omega)) rfl rfl (by decide) (Nat.le_of_ble_eq_true rfl) rfl rfl rfl (fun r μ' h => ?_)
      rcases h with ⟨h1, rfl, h2⟩ | ⟨h1, rfl, h2⟩
      · skip
        exact V_iret F dX3_sum_36 (by rw [e]; exact Or.inl ⟨h1, rfl, h2⟩)
      · skip
        exact V_iret F dX3_sum_36 (by rw [e]; exact Or.inr ⟨h1, rfl, h2⟩)
end MAKE
end
section
section GAME0
variable {T : Tb} {n : Nat}
def fpl (p : Nat) : Nat := p * (p - 1) / 2 * 15
theorem fpl_step : ∀ p, p < 24 → fpl (p + 1) = fpl p + 15 * p := by decide +kernel
theorem fpl_mono : ∀ b, b < 25 → ∀ a, a < b → fpl (a + 1) ≤ fpl b := by decide +kernel
theorem fpl_max : ∀ b, b < 25 → fpl b ≤ 4140 := by decide +kernel
theorem fplE : ∀ p, p < 25 → (nI p * (nI p - nI 1)) / nI 2 * nI 3 * nI 5 = nI (fpl p) := by decide +kernel
theorem plc_in {hi lo rel view : Nat} (h1 : hi < 24) (h2 : lo < hi) (h3 : rel < 3) (h4 : view < 5) : fpl hi ≤ plc hi lo rel view ∧ plc hi lo rel view < fpl (hi + 1) ∧ plc hi lo rel view < 4140 ∧ plc hi lo rel view = fpl hi + lo * 15 + (rel * 5 + view) := by
  have e : plc hi lo rel view = fpl hi + lo * 15 + (rel * 5 + view) := rfl
  have := fpl_step hi h1
  have := fpl_max (hi + 1) (by omega)
  omega
theorem plc_inj {hi lo rel view hi' lo' rel' view' : Nat} (h1 : hi < 24) (h2 : lo < hi) (h3 : rel < 3) (h4 : view < 5) (h1' : hi' < 24) (h2' : lo' < hi') (h3' : rel' < 3) (h4' : view' < 5) (h : plc hi lo rel view = plc hi' lo' rel' view') : hi = hi' ∧ lo = lo' ∧ rel = rel' ∧ view = view' := by
  have a := plc_in h1 h2 h3 h4
  have b := plc_in h1' h2' h3' h4'
  have e : hi = hi' := by
    rcases Nat.lt_trichotomy hi hi' with c | c | c
    · have := fpl_mono hi' (by omega) hi c; omega
    · exact c
    · have := fpl_mono hi (by omega) hi' c; omega
  subst e
  omega
theorem WF.less (hW : WF T (n + 1)) (hn : 1 ≤ n) : WF T n := ⟨⟨hn, by have := hW.1.2; omega⟩, hW.2.1, fun p h1 h2 => hW.2.2 p h1 (by omega)⟩
def vwI : List Nat → Int32
  | [] => nI 0
  | [v] => nI (v + 1)
  | _ => -1
def RQ (T : Tb) (n : Nat) (μ : Mem) : Option Value → Mem → Prop := fun r μ' => (n = 1 ∧ r = some (.int (-4)) ∧ μ' = μ) ∨ (n ≠ 1 ∧ r = some (.int (nI (n - 1))) ∧ XInv T (n - 1) μ' ∧ sameM μ μ')
/-- a row of kept worths is cleared -/
def Clr (μ ν : Mem) (lo hi : Nat) : Prop := (∀ c j, ¬ (c = 14 ∧ lo ≤ j ∧ j < hi) → ν.1 c j = μ.1 c j) ∧ (∀ j, lo ≤ j → j < hi → ν.1 14 j = 0) ∧ ν.2 = μ.2
end GAME0
section GAMEA
variable {g : Gm} {l : Launch} {μ : Mem} {T : Tb} {n : Nat}
theorem c_firstPlace {p : Nat} (hp : p < 25) : Ct (GS g) l (0) yX0_firstPlace cX0_firstPlace 1 (some .int) [.int (nI p)] μ (Is (.int (nI (fpl p))) μ) := by
  refine Ct.of (own := RX0) mi_X0_firstPlace rfl [some (.int (nI p))] (Nat.le_of_ble_eq_true rfl) rfl (fun p₀ e₀ s₀ m₀ b₀ h₀ c₀ F => ?_)
  refine V_iload_n F dX0_firstPlace_0 rfl ?_
  refine V_iload_n F dX0_firstPlace_1 rfl ?_
  refine V_iconst F (v := nI 1) dX0_firstPlace_2 (by decide) ?_
  refine V_isub F dX0_firstPlace_3 ?_
  refine V_imul F dX0_firstPlace_4 ?_
  refine V_iconst F (v := nI 2) dX0_firstPlace_5 (by decide) ?_
  refine V_idiv F dX0_firstPlace_6 (by decide) ?_
  refine V_iconst F (v := nI 3) dX0_firstPlace_7 (by decide) ?_
  refine V_imul F dX0_firstPlace_8 ?_
  refine V_iconst F (v := nI 5) dX0_firstPlace_9 (by decide) ?_
  refine V_imul F dX0_firstPlace_10 ?_
  refine V_val F (fplE p hp) ?_
  exact V_iret F dX0_firstPlace_11 (⟨rfl, rfl⟩)
theorem c_forget {p : Nat} (hp : p < 24) : Ct (GS g) l (1) yX0_forget cX0_forget 5 none [.ref (g.1 2), .int (nI p)] μ ((fun r μ' => r = none ∧ Clr μ μ' (fpl p) (fpl (p + 1)))) := by
  have hs := fpl_step p hp
  have hmx := fpl_max (p + 1) (by omega)
  refine Ct.of (own := RX0) mi_X0_forget rfl [some (.ref (g.1 2)), some (.int (nI p)), none, none, none] (Nat.le_of_ble_eq_true rfl) rfl (fun p₀ e₀ s₀ m₀ b₀ h₀ c₀ F => ?_)
  have loop : ∀ (k i : Nat) (ν : Mem), i + k = fpl (p + 1) → fpl p ≤ i → Clr μ ν (fpl p) i → V (GS g) p₀ l e₀ (rmD (1)) s₀ m₀ (List.toArray [.ref (g.1 2), .int (nI p)]) b₀ h₀ c₀ 5 0 0 (MQ b₀ (Qp (GS g) ((fun r μ' => r = none ∧ Clr μ μ' (fpl p) (fpl (p + 1))))) (List.toArray [.ref (g.1 2), .int (nI p)]) s₀ 0 0 (gA (GS g))) 15 ([some (.ref (g.1 2)), some (.int (nI p)), some (.int (nI (fpl p))), some (.int (nI (fpl (p + 1)))), some (.int (nI i))]) ([]) (ν) := by
    intro k
    induction k with
    | zero =>
      intro i ν hi hle hν
      refine V_iload F dX0_forget_15 rfl ?_
      refine V_iload_n F dX0_forget_17 rfl ?_
      refine V_icmp_ge_N F (tgt := 37) dX0_forget_18 (by decide) (by omega) (by omega) (fun h => ?_) (fun h => ?_)
      · skip
        exact V_vret F dX0_forget_37 (⟨rfl, by rw [show fpl (p + 1) = i by omega]; exact hν⟩)
      · omega
    | succ k ih =>
      intro i ν hi hle hν
      refine V_iload F dX0_forget_15 rfl ?_
      refine V_iload_n F dX0_forget_17 rfl ?_
      refine V_icmp_ge_N F (tgt := 37) dX0_forget_18 (by decide) (by omega) (by omega) (fun h => ?_) (fun h => ?_)
      · omega
      · skip
        refine V_aload_n F dX0_forget_21 rfl ?_
        refine V_getf F (q0 := 2) (j := 1) lk_X0_15 dX0_forget_22 ig_X0 rfl rfl (by decide) rfl rfl ?_
        refine V_iload F dX0_forget_25 rfl ?_
        refine V_iconst F (v := nI 0) dX0_forget_27 (by decide) ?_
        refine V_callSN0 F (c_put (q := 14) rfl (show i < 4140 by omega)) mi_X3_put ms_X3_put nk_X0_23 dX0_forget_28 (rmR (by omega)) rfl rfl (by decide) (Nat.le_of_ble_eq_true rfl) ?_
        refine V_iinc F (lv' := [_, _, _, _, _]) dX0_forget_31 rfl (by decide) rfl rfl ?_
        refine V_goto F (tgt := 15) dX0_forget_34 (by decide) ?_
        rw [show nI i + Int32.ofInt 1 = nI (i + 1) from nI_1 i]
        refine ih (i + 1) _ (by omega) (by omega) ⟨fun c j hj => ?_, fun j h1 h2 => ?_, hν.2.2⟩
        · rw [wr_ne (by omega)]; exact hν.1 c j (by omega)
        · by_cases hji : j = i
          · subst hji; rw [wr_eq]; rfl
          · rw [wr_ne (by omega)]; exact hν.2.1 j h1 (by omega)
  refine V_iload_n F dX0_forget_0 rfl ?_
  refine V_callSi F (c_firstPlace (show p < 25 by omega)) mi_X0_firstPlace ms_X0_firstPlace lk_X0_19 dX0_forget_1 (rmR (by omega)) rfl rfl (by decide) (Nat.le_of_ble_eq_true rfl) ?_
  refine V_istore_n F (lv' := [_, _, _, _, _]) dX0_forget_4 (by decide) rfl rfl ?_
  refine V_iload_n F dX0_forget_5 rfl ?_
  refine V_iconst F (v := nI 1) dX0_forget_6 (by decide) ?_
  (first | refine V_iaddN F dX0_forget_7 ?_ | refine V_iadd F dX0_forget_7 ?_)
  refine V_callSi F (c_firstPlace (show p + 1 < 25 by omega)) mi_X0_firstPlace ms_X0_firstPlace lk_X0_19 dX0_forget_8 (rmR (by omega)) rfl rfl (by decide) (Nat.le_of_ble_eq_true rfl) ?_
  refine V_istore_n F (lv' := [_, _, _, _, _]) dX0_forget_11 (by decide) rfl rfl ?_
  refine V_iload_n F dX0_forget_12 rfl ?_
  refine V_istore F (lv' := [_, _, _, _, _]) dX0_forget_13 (by decide) rfl rfl ?_
  exact loop (15 * p) (fpl p) μ (by omega) (Nat.le_refl _) ⟨fun _ _ _ => rfl, fun j h1 h2 => absurd h2 (by omega), rfl⟩
theorem c_removeLast (hI : XInv T n μ) : Ct (GS g) l (2) yX3_removeLast cX3_removeLast 2 (some .int) [.ref (g.1 0)] μ (RQ T n μ) := by
  have hX := hI.1
  have hn := hX.n24
  refine Ct.of (own := RX3) mi_X3_removeLast rfl [some (.ref (g.1 0)), none] (Nat.le_of_ble_eq_true rfl) rfl (fun p₀ e₀ s₀ m₀ b₀ h₀ c₀ F => ?_)
  refine V_aload_n F dX3_removeLast_0 rfl ?_
  refine V_getf F (q0 := 0) (j := 0) lk_X3_10 dX3_removeLast_1 ig_X3 rfl rfl (by decide) rfl rfl ?_
  refine V_getN F (q0 := 1) (j := 0) nk_X3_36 dX3_removeLast_4 ig_X2 rfl rfl (by decide) rfl rfl ?_
  refine V_val F (hX.2.1) ?_
  refine V_iconst F (v := nI 1) dX3_removeLast_7 (by decide) ?_
  refine V_isubN F (by omega) dX3_removeLast_8 ?_
  refine V_istore_n F (lv' := [_, _]) dX3_removeLast_9 (by decide) rfl rfl ?_
  refine V_iload_n F dX3_removeLast_10 rfl ?_
  refine V_iconst F (v := nI 1) dX3_removeLast_11 (by decide) ?_
  refine V_icmp_ge_N F (tgt := 18) dX3_removeLast_12 (by decide) (by omega) (by omega) (fun h => ?_) (fun h => ?_)
  · obtain ⟨j, rfl⟩ : ∃ j, n = j + 1 := ⟨n - 1, by omega⟩
    rw [Nat.add_sub_cancel] at h ⊢
    refine V_aload_n F dX3_removeLast_18 rfl ?_
    refine V_getf F (q0 := 0) (j := 0) lk_X3_10 dX3_removeLast_19 ig_X3 rfl rfl (by decide) rfl rfl ?_
    refine V_iload_n F dX3_removeLast_22 rfl ?_
    refine V_pfN_1_0 F nk_X3_36 dX3_removeLast_23 ?_
    refine V_aload_n F dX3_removeLast_26 rfl ?_
    refine V_getf F (q0 := 0) (j := 1) lk_X3_21 dX3_removeLast_27 ig_X3 rfl rfl (by decide) rfl rfl ?_
    refine V_iload_n F dX3_removeLast_30 rfl ?_
    refine V_callVN F (q0 := 2) (c_forget (p := j) (by omega)) mi_X0_forget mm_X0_forget nk_X3_40 dX3_removeLast_31 (rmR (by omega)) rfl rfl (by decide) (Nat.le_of_ble_eq_true rfl) rfl rfl rfl (fun r μ' h => ?_)
    rename_i hh
    obtain ⟨rfl, hC⟩ := h
    refine V_iload_n F dX3_removeLast_34 rfl ?_
    have hW := hX.1.less (by omega)
    have e1 : ∀ c i, ¬ (c = 14 ∧ fpl j ≤ i ∧ i < fpl (j + 1)) → ¬ (c = 1 ∧ i = 0) → μ'.1 c i = μ.1 c i := fun c i h1 h2 => by rw [hC.1 c i h1, wr_ne h2]
    refine V_iret F dX3_removeLast_35 (Or.inr ⟨by omega, rfl, ⟨⟨hW, ?_, fun f i hf hi => ?_, fun i s a hi ha => ?_⟩, fun hi lo rel view a1 a2 a3 a4 => ?_⟩, fun c hc => ?_⟩)
    · rw [hC.1 1 0 (by omega)]
      exact wr_eq
    · rw [e1 _ _ (by omega) (by omega)]
      exact hX.2.2.1 f i hf (by omega)
    · rw [e1 _ _ (by omega) (by omega), hC.2.2, wr_2]
      exact hX.2.2.2 i s a (by omega) ha
    · have hin := plc_in a1 a2 a3 a4
      by_cases hij : hi = j
      · subst hij
        left
        exact hC.2.1 _ hin.1 hin.2.1
      · have hnot : ¬ (fpl j ≤ plc hi lo rel view ∧ plc hi lo rel view < fpl (j + 1)) := by
          rcases Nat.lt_trichotomy hi j with c | c | c
          · have := fpl_mono j (by omega) hi c; omega
          · exact absurd c hij
          · have := fpl_mono hi (by omega) j c; omega
        rw [e1 14 _ (by omega) (by omega)]
        rcases hI.2 hi lo rel view a1 a2 a3 a4 with h0 | ⟨b1, b2⟩
        · exact Or.inl h0
        · exact Or.inr ⟨by omega, b2⟩
    · funext i
      exact e1 c i (by omega) (by omega)
  · skip
    refine V_bipush F (v := (-4)) dX3_removeLast_15 (by decide) ?_
    exact V_iret F dX3_removeLast_17 (Or.inl ⟨by omega, rfl, rfl⟩)
theorem c_viewOf {r : List Nat} (hl : lok r) (h3 : r.length ≤ 3) : Ct (GS g) l (1) yX0_viewOf cX0_viewOf 3 (some .int) [.int (nI (rc r))] μ (Is (.int (vwI r)) μ) := by
  have hr := (rc_lt hl h3).1
  refine Ct.of (own := RX0) mi_X0_viewOf rfl [some (.int (nI (rc r))), none, none] (Nat.le_of_ble_eq_true rfl) rfl (fun p₀ e₀ s₀ m₀ b₀ h₀ c₀ F => ?_)
  refine V_iload_n F dX0_viewOf_0 rfl ?_
  refine V_iconst F (v := nI 1) dX0_viewOf_1 (by decide) ?_
  refine V_icmp_ne_N F (tgt := 7) dX0_viewOf_2 (by decide) (by omega) (by omega) (fun h => ?_) (fun h => ?_)
  · skip
    refine V_iconst F (v := nI 3) dX0_viewOf_7 (by decide) ?_
    refine V_iload_n F dX0_viewOf_8 rfl ?_
    refine V_callSNi F (c_valueOf (x := 3) (by omega) (by omega)) mi_X1_valueOf ms_X1_valueOf nk_X0_110 dX0_viewOf_9 (rmR (by omega)) rfl rfl (by decide) (Nat.le_of_ble_eq_true rfl) ?_
    rw [xv3]
    refine V_istore_n F (lv' := [_, _, _]) dX0_viewOf_12 (by decide) rfl rfl ?_
    refine V_iload_n F dX0_viewOf_13 rfl ?_
    refine V_iconst F (v := nI 1) dX0_viewOf_14 (by decide) ?_
    refine V_iload_n F dX0_viewOf_15 rfl ?_
    refine V_callSNi F (c_with (r := 1) (by omega) (by omega)) mi_X1_with ms_X1_with nk_X0_91 dX0_viewOf_16 (rmR (by omega)) rfl rfl (by decide) (Nat.le_of_ble_eq_true rfl) ?_
    refine V_icmp_ne_N F (tgt := 26) dX0_viewOf_19 (by decide) (by omega) (by omega) (fun h2 => ?_) (fun h2 => ?_)
    · have e : vwI r = -1 := by
        match r, h, h2, hl with
        | [], h, _, _ => simp [rc] at h
        | [a], _, h2, hl => have := hl.1; simp only [fr] at this; simp only [rc] at h2; omega
        | a :: b :: t, _, _, _ => rfl
      rw [e]
      refine V_iconst F (v := nI 0) dX0_viewOf_26 (by decide) ?_
      refine V_istore_n F (lv' := [_, _, _]) dX0_viewOf_27 (by decide) rfl rfl ?_
      refine V_iload_n F dX0_viewOf_28 rfl ?_
      refine V_if_eq_t F (tgt := 38) dX0_viewOf_29 (by decide) (by decide) ?_
      refine V_iconst F (v := (-1)) dX0_viewOf_38 (by decide) ?_
      exact V_iret F dX0_viewOf_39 (⟨rfl, rfl⟩)
    · have h2 := Classical.not_not.mp h2
      have e : vwI r = nI (1 + rc r % 8) := by
        match r, h, h2, hl, h3 with
        | [], h, _, _, _ => simp [rc] at h
        | [a], _, _, hl, _ =>
          have := hl.1
          simp only [fr] at this
          simp only [rc, vwI]
          congr 1
          omega
        | a :: b :: t, _, h2, hl, h3 =>
          exfalso
          simp only [rc] at h2
          have : 1 ≤ rc t := by
            match t with
            | [] => simp [rc]
            | [x] => simp [rc]; omega
            | x :: y :: z => simp at h3
          omega
      rw [e]
      refine V_iconst F (v := nI 1) dX0_viewOf_22 (by decide) ?_
      refine V_goto F (tgt := 27) dX0_viewOf_23 (by decide) ?_
      refine V_istore_n F (lv' := [_, _, _]) dX0_viewOf_27 (by decide) rfl rfl ?_
      refine V_iload_n F dX0_viewOf_28 rfl ?_
      refine V_if_eq_f F (tgt := 38) dX0_viewOf_29 (by decide) (by decide) ?_
      refine V_iconst F (v := nI 1) dX0_viewOf_32 (by decide) ?_
      refine V_iload_n F dX0_viewOf_33 rfl ?_
      (first | refine V_iaddN F dX0_viewOf_34 ?_ | refine V_iadd F dX0_viewOf_34 ?_)
      refine V_goto F (tgt := 39) dX0_viewOf_35 (by decide) ?_
      exact V_iret F dX0_viewOf_39 (⟨rfl, rfl⟩)
  · have h := Classical.not_not.mp h
    have e : vwI r = nI 0 := by
      match r, h, hl, h3 with
      | [], _, _, _ => rfl
      | a :: t, h, _, h3 =>
        exfalso
        simp only [rc] at h
        have : 1 ≤ rc t := by
          match t with
          | [] => simp [rc]
          | [x] => simp [rc]; omega
          | [x, y] => simp [rc]; omega
          | x :: y :: z :: u => simp at h3
        omega
    rw [e]
    refine V_iconst F (v := nI 0) dX0_viewOf_5 (by decide) ?_
    exact V_iret F dX0_viewOf_6 (⟨rfl, rfl⟩)
def plI (rel p q : Nat) : List Nat → Int32
  | [] => nI (plc (max p q) (min p q) rel 0)
  | [v] => nI (plc (max p q) (min p q) rel (v + 1))
  | _ => -1
theorem c_placeOf {rel p q : Nat} {r : List Nat} (hl : lok r) (h3 : r.length ≤ 3) (hrel : rel < 3) (hp : p < 24) (hq : q < 24) : Ct (GS g) l (2) yX0_placeOf cX0_placeOf 6 (some .int) [.int (nI rel), .int (nI p), .int (nI q), .int (nI (rc r))] μ (Is (.int (plI rel p q r)) μ) := by
  refine Ct.of (own := RX0) mi_X0_placeOf rfl [some (.int (nI rel)), some (.int (nI p)), some (.int (nI q)), some (.int (nI (rc r))), none, none] (Nat.le_of_ble_eq_true rfl) rfl (fun p₀ e₀ s₀ m₀ b₀ h₀ c₀ F => ?_)
  have hmx := fpl_max (max p q) (by omega)
  refine V_iload_n F dX0_placeOf_0 rfl ?_
  refine V_callSi F (c_viewOf hl h3) mi_X0_viewOf ms_X0_viewOf lk_X0_107 dX0_placeOf_1 (rmR (by omega)) rfl rfl (by decide) (Nat.le_of_ble_eq_true rfl) ?_
  refine V_istore F (lv' := [_, _, _, _, _, _]) dX0_placeOf_4 (by decide) rfl rfl ?_
  refine V_iload F dX0_placeOf_6 rfl ?_
  refine V_iconst F (v := (-1)) dX0_placeOf_8 (by decide) ?_
  match r, hl, h3 with
  | [], _, _ =>
    refine V_icmp_ne_t F (tgt := 14) dX0_placeOf_9 (by decide) (by decide) ?_
    refine V_iload_n F dX0_placeOf_14 rfl ?_
    refine V_iload_n F dX0_placeOf_15 rfl ?_
    refine V_maxN F lk_X0_79 dX0_placeOf_16 (rmM (by omega) (Nat.le_of_ble_eq_true rfl)) (by omega) (by omega) ?_
    refine V_callSi F (c_firstPlace (show max p q < 25 by omega)) mi_X0_firstPlace ms_X0_firstPlace lk_X0_19 dX0_placeOf_19 (rmR (by omega)) rfl rfl (by decide) (Nat.le_of_ble_eq_true rfl) ?_
    refine V_iload_n F dX0_placeOf_22 rfl ?_
    refine V_iload_n F dX0_placeOf_23 rfl ?_
    refine V_minN F lk_X0_67 dX0_placeOf_24 (rmM (by omega) (Nat.le_of_ble_eq_true rfl)) (by omega) (by omega) ?_
    refine V_iconst F (v := nI 3) dX0_placeOf_27 (by decide) ?_
    (first | refine V_imulN F dX0_placeOf_28 ?_ | refine V_imul F dX0_placeOf_28 ?_)
    refine V_iconst F (v := nI 5) dX0_placeOf_29 (by decide) ?_
    (first | refine V_imulN F dX0_placeOf_30 ?_ | refine V_imul F dX0_placeOf_30 ?_)
    (first | refine V_iaddN F dX0_placeOf_31 ?_ | refine V_iadd F dX0_placeOf_31 ?_)
    refine V_istore F (lv' := [_, _, _, _, _, _]) dX0_placeOf_32 (by decide) rfl rfl ?_
    refine V_iload F dX0_placeOf_34 rfl ?_
    refine V_iload_n F dX0_placeOf_36 rfl ?_
    refine V_iconst F (v := nI 5) dX0_placeOf_37 (by decide) ?_
    (first | refine V_imulN F dX0_placeOf_38 ?_ | refine V_imul F dX0_placeOf_38 ?_)
    (first | refine V_iaddN F dX0_placeOf_39 ?_ | refine V_iadd F dX0_placeOf_39 ?_)
    refine V_iload F dX0_placeOf_40 rfl ?_
    (first | refine V_iaddN F dX0_placeOf_42 ?_ | refine V_iadd F dX0_placeOf_42 ?_)
    exact V_iret F dX0_placeOf_43 (⟨by show some (Value.int (nI _)) = some (Value.int (nI _)); congr 3; unfold plc fpl; omega, rfl⟩)
  | [v], hl, _ =>
    have hv := hl.1
    simp only [fr] at hv
    refine V_icmp_ne_t F (tgt := 14) dX0_placeOf_9 (by decide) ((by show ¬ nI (v + 1) = -1; have : ∀ v, v < 5 → ¬ nI v = -1 := by { decide +kernel }; exact this _ (by omega))) ?_
    refine V_iload_n F dX0_placeOf_14 rfl ?_
    refine V_iload_n F dX0_placeOf_15 rfl ?_
    refine V_maxN F lk_X0_79 dX0_placeOf_16 (rmM (by omega) (Nat.le_of_ble_eq_true rfl)) (by omega) (by omega) ?_
    refine V_callSi F (c_firstPlace (show max p q < 25 by omega)) mi_X0_firstPlace ms_X0_firstPlace lk_X0_19 dX0_placeOf_19 (rmR (by omega)) rfl rfl (by decide) (Nat.le_of_ble_eq_true rfl) ?_
    refine V_iload_n F dX0_placeOf_22 rfl ?_
    refine V_iload_n F dX0_placeOf_23 rfl ?_
    refine V_minN F lk_X0_67 dX0_placeOf_24 (rmM (by omega) (Nat.le_of_ble_eq_true rfl)) (by omega) (by omega) ?_
    refine V_iconst F (v := nI 3) dX0_placeOf_27 (by decide) ?_
    (first | refine V_imulN F dX0_placeOf_28 ?_ | refine V_imul F dX0_placeOf_28 ?_)
    refine V_iconst F (v := nI 5) dX0_placeOf_29 (by decide) ?_
    (first | refine V_imulN F dX0_placeOf_30 ?_ | refine V_imul F dX0_placeOf_30 ?_)
    (first | refine V_iaddN F dX0_placeOf_31 ?_ | refine V_iadd F dX0_placeOf_31 ?_)
    refine V_istore F (lv' := [_, _, _, _, _, _]) dX0_placeOf_32 (by decide) rfl rfl ?_
    refine V_iload F dX0_placeOf_34 rfl ?_
    refine V_iload_n F dX0_placeOf_36 rfl ?_
    refine V_iconst F (v := nI 5) dX0_placeOf_37 (by decide) ?_
    (first | refine V_imulN F dX0_placeOf_38 ?_ | refine V_imul F dX0_placeOf_38 ?_)
    (first | refine V_iaddN F dX0_placeOf_39 ?_ | refine V_iadd F dX0_placeOf_39 ?_)
    refine V_iload F dX0_placeOf_40 rfl ?_
    (first | refine V_iaddN F dX0_placeOf_42 ?_ | refine V_iadd F dX0_placeOf_42 ?_)
    exact V_iret F dX0_placeOf_43 (⟨by show some (Value.int (nI _)) = some (Value.int (nI _)); congr 3; unfold plc fpl; omega, rfl⟩)
  | a :: b :: t, _, _ =>
    refine V_icmp_ne_f F (tgt := 14) dX0_placeOf_9 (by decide) (rfl) ?_
    refine V_iconst F (v := (-1)) dX0_placeOf_12 (by decide) ?_
    exact V_iret F dX0_placeOf_13 (⟨rfl, rfl⟩)
theorem c_agree {a b : Nat} {r : List Nat} (hX : XRep T n μ) (ha : a < n) (hb : b < n) (hl : lok r) (h3 : r.length ≤ 3) (hna : T 1 a < 3 + r.length ∧ T 2 a < 3 + r.length) (hnb : T 1 b < 3 + r.length ∧ T 2 b < 3 + r.length) : Ct (GS g) l (2) yX0_agree cX0_agree 6 (some .boolean) [.ref (g.1 2), .int (nI a), .int (nI b), .int (nI (rc r))] μ (Is (.int (nI (if agr T r a b = true then 1 else 0))) μ) := by
  have hn := hX.n24
  have hr := (rc_lt hl h3).1
  have hk1 := hX.1.kind ha
  have hk2 := hX.1.kind hb
  have hm1 := hX.1.name ha
  have hm2 := hX.1.name hb
  refine Ct.of (own := RX0) mi_X0_agree rfl [some (.ref (g.1 2)), some (.int (nI a)), some (.int (nI b)), some (.int (nI (rc r))), none, none] (Nat.le_of_ble_eq_true rfl) rfl (fun p₀ e₀ s₀ m₀ b₀ h₀ c₀ F => ?_)
  refine V_aload_n F dX0_agree_0 rfl ?_
  refine V_getf F (q0 := 2) (j := 0) lk_X0_9 dX0_agree_1 ig_X0 rfl rfl (by decide) rfl rfl ?_
  refine V_getN F (q0 := 1) (j := 1) nk_X0_85 dX0_agree_4 ig_X2 rfl rfl (by decide) rfl rfl ?_
  refine V_iload_n F dX0_agree_7 rfl ?_
  refine V_callSNi F (c_at (q := 3) rfl (show a < 24 by omega) (hX.fld 0 rfl (by omega) ha)) mi_X3_at ms_X3_at nk_X0_60 dX0_agree_8 (rmR (by omega)) rfl rfl (by decide) (Nat.le_of_ble_eq_true rfl) ?_
  refine V_aload_n F dX0_agree_11 rfl ?_
  refine V_getf F (q0 := 2) (j := 0) lk_X0_9 dX0_agree_12 ig_X0 rfl rfl (by decide) rfl rfl ?_
  refine V_getN F (q0 := 1) (j := 1) nk_X0_85 dX0_agree_15 ig_X2 rfl rfl (by decide) rfl rfl ?_
  refine V_iload_n F dX0_agree_18 rfl ?_
  refine V_callSNi F (c_at (q := 3) rfl (show b < 24 by omega) (hX.fld 0 rfl (by omega) hb)) mi_X3_at ms_X3_at nk_X0_60 dX0_agree_19 (rmR (by omega)) rfl rfl (by decide) (Nat.le_of_ble_eq_true rfl) ?_
  refine V_icmp_eq_N F (tgt := 27) dX0_agree_22 (by decide) (by omega) (by omega) (fun h => ?_) (fun h => ?_)
  · skip
    refine V_aload_n F dX0_agree_27 rfl ?_
    refine V_getf F (q0 := 2) (j := 0) lk_X0_9 dX0_agree_28 ig_X0 rfl rfl (by decide) rfl rfl ?_
    refine V_getN F (q0 := 1) (j := 2) nk_X0_94 dX0_agree_31 ig_X2 rfl rfl (by decide) rfl rfl ?_
    refine V_iload_n F dX0_agree_34 rfl ?_
    refine V_callSNi F (c_at (q := 4) rfl (show a < 24 by omega) (hX.fld 1 rfl (by omega) ha)) mi_X3_at ms_X3_at nk_X0_60 dX0_agree_35 (rmR (by omega)) rfl rfl (by decide) (Nat.le_of_ble_eq_true rfl) ?_
    refine V_istore F (lv' := [_, _, _, _, _, _]) dX0_agree_38 (by decide) rfl rfl ?_
    refine V_aload_n F dX0_agree_40 rfl ?_
    refine V_getf F (q0 := 2) (j := 0) lk_X0_9 dX0_agree_41 ig_X0 rfl rfl (by decide) rfl rfl ?_
    refine V_getN F (q0 := 1) (j := 3) nk_X0_97 dX0_agree_44 ig_X2 rfl rfl (by decide) rfl rfl ?_
    refine V_iload_n F dX0_agree_47 rfl ?_
    refine V_callSNi F (c_at (q := 5) rfl (show a < 24 by omega) (hX.fld 2 rfl (by omega) ha)) mi_X3_at ms_X3_at nk_X0_60 dX0_agree_48 (rmR (by omega)) rfl rfl (by decide) (Nat.le_of_ble_eq_true rfl) ?_
    refine V_istore F (lv' := [_, _, _, _, _, _]) dX0_agree_51 (by decide) rfl rfl ?_
    refine V_iload F dX0_agree_53 rfl ?_
    refine V_aload_n F dX0_agree_55 rfl ?_
    refine V_getf F (q0 := 2) (j := 0) lk_X0_9 dX0_agree_56 ig_X0 rfl rfl (by decide) rfl rfl ?_
    refine V_getN F (q0 := 1) (j := 2) nk_X0_94 dX0_agree_59 ig_X2 rfl rfl (by decide) rfl rfl ?_
    refine V_iload_n F dX0_agree_62 rfl ?_
    refine V_callSNi F (c_at (q := 4) rfl (show b < 24 by omega) (hX.fld 1 rfl (by omega) hb)) mi_X3_at ms_X3_at nk_X0_60 dX0_agree_63 (rmR (by omega)) rfl rfl (by decide) (Nat.le_of_ble_eq_true rfl) ?_
    refine V_iload_n F dX0_agree_66 rfl ?_
    refine V_callSNi F (c_areEqual hm1.1 hm2.1 (by omega)) mi_X1_areEqual ms_X1_areEqual nk_X0_100 dX0_agree_67 (rmR (by omega)) rfl rfl (by decide) (Nat.le_of_ble_eq_true rfl) ?_
    rw [xv_rc hl h3 hna.1, xv_rc hl h3 hnb.1]
    by_cases h1 : vl r (T 1 a) = vl r (T 1 b)
    · rw [if_pos h1]
      refine V_if_eq_f F (tgt := 97) dX0_agree_70 (by decide) (by decide) ?_
      refine V_iload F dX0_agree_73 rfl ?_
      refine V_aload_n F dX0_agree_75 rfl ?_
      refine V_getf F (q0 := 2) (j := 0) lk_X0_9 dX0_agree_76 ig_X0 rfl rfl (by decide) rfl rfl ?_
      refine V_getN F (q0 := 1) (j := 3) nk_X0_97 dX0_agree_79 ig_X2 rfl rfl (by decide) rfl rfl ?_
      refine V_iload_n F dX0_agree_82 rfl ?_
      refine V_callSNi F (c_at (q := 5) rfl (show b < 24 by omega) (hX.fld 2 rfl (by omega) hb)) mi_X3_at ms_X3_at nk_X0_60 dX0_agree_83 (rmR (by omega)) rfl rfl (by decide) (Nat.le_of_ble_eq_true rfl) ?_
      refine V_iload_n F dX0_agree_86 rfl ?_
      refine V_callSNi F (c_areEqual hm1.2 hm2.2 (by omega)) mi_X1_areEqual ms_X1_areEqual nk_X0_100 dX0_agree_87 (rmR (by omega)) rfl rfl (by decide) (Nat.le_of_ble_eq_true rfl) ?_
      rw [xv_rc hl h3 hna.2, xv_rc hl h3 hnb.2]
      by_cases h2 : vl r (T 2 a) = vl r (T 2 b)
      · rw [if_pos h2, if_pos (by simp [agr, h, h1, h2])]
        refine V_if_eq_f F (tgt := 97) dX0_agree_90 (by decide) (by decide) ?_
        refine V_iconst F (v := nI 1) dX0_agree_93 (by decide) ?_
        refine V_goto F (tgt := 98) dX0_agree_94 (by decide) ?_
        exact V_zret F dX0_agree_98 (rfl) (⟨rfl, rfl⟩)
      · rw [if_neg h2, if_neg (by simp [agr, h2])]
        refine V_if_eq_t F (tgt := 97) dX0_agree_90 (by decide) (by decide) ?_
        refine V_iconst F (v := nI 0) dX0_agree_97 (by decide) ?_
        exact V_zret F dX0_agree_98 (rfl) (⟨rfl, rfl⟩)
    · rw [if_neg h1, if_neg (by simp [agr, h1])]
      refine V_if_eq_t F (tgt := 97) dX0_agree_70 (by decide) (by decide) ?_
      refine V_iconst F (v := nI 0) dX0_agree_97 (by decide) ?_
      exact V_zret F dX0_agree_98 (rfl) (⟨rfl, rfl⟩)
  · rw [if_neg (by simp [agr, h])]
    refine V_iconst F (v := nI 0) dX0_agree_25 (by decide) ?_
    exact V_zret F dX0_agree_26 (rfl) (⟨rfl, rfl⟩)
theorem c_isChosen {rel a : Nat} (hX : XRep T n μ) (ha : a < n) (hrel : rel < 3) : Ct (GS g) l (1) yX0_isChosenWith cX0_isChosenWith 3 (some .boolean) [.ref (g.1 2), .int (nI rel), .int (nI a)] μ (Is (.int (nI (if T 0 a = 3 ∧ rel = 1 then 1 else 0))) μ) := by
  have hn := hX.n24
  have hk := hX.1.kind ha
  refine Ct.of (own := RX0) mi_X0_isChosenWith rfl [some (.ref (g.1 2)), some (.int (nI rel)), some (.int (nI a))] (Nat.le_of_ble_eq_true rfl) rfl (fun p₀ e₀ s₀ m₀ b₀ h₀ c₀ F => ?_)
  refine V_iload_n F dX0_isChosenWith_0 rfl ?_
  refine V_iconst F (v := nI 1) dX0_isChosenWith_1 (by decide) ?_
  refine V_icmp_ne_N F (tgt := 24) dX0_isChosenWith_2 (by decide) (by omega) (by omega) (fun h => ?_) (fun h => ?_)
  · rw [if_neg (fun q => h q.2)]
    refine V_iconst F (v := nI 0) dX0_isChosenWith_24 (by decide) ?_
    exact V_zret F dX0_isChosenWith_25 (rfl) (⟨rfl, rfl⟩)
  · have h := Classical.not_not.mp h
    refine V_aload_n F dX0_isChosenWith_5 rfl ?_
    refine V_getf F (q0 := 2) (j := 0) lk_X0_9 dX0_isChosenWith_6 ig_X0 rfl rfl (by decide) rfl rfl ?_
    refine V_getN F (q0 := 1) (j := 1) nk_X0_85 dX0_isChosenWith_9 ig_X2 rfl rfl (by decide) rfl rfl ?_
    refine V_iload_n F dX0_isChosenWith_12 rfl ?_
    refine V_callSNi F (c_at (q := 3) rfl (show a < 24 by omega) (hX.fld 0 rfl (by omega) ha)) mi_X3_at ms_X3_at nk_X0_60 dX0_isChosenWith_13 (rmR (by omega)) rfl rfl (by decide) (Nat.le_of_ble_eq_true rfl) ?_
    refine V_iconst F (v := nI 3) dX0_isChosenWith_16 (by decide) ?_
    refine V_icmp_ne_N F (tgt := 24) dX0_isChosenWith_17 (by decide) (by omega) (by omega) (fun h2 => ?_) (fun h2 => ?_)
    · rw [if_neg (fun q => h2 q.1)]
      refine V_iconst F (v := nI 0) dX0_isChosenWith_24 (by decide) ?_
      exact V_zret F dX0_isChosenWith_25 (rfl) (⟨rfl, rfl⟩)
    · rw [if_pos ⟨Classical.not_not.mp h2, h⟩]
      refine V_iconst F (v := nI 1) dX0_isChosenWith_20 (by decide) ?_
      refine V_goto F (tgt := 25) dX0_isChosenWith_21 (by decide) ?_
      exact V_zret F dX0_isChosenWith_25 (rfl) (⟨rfl, rfl⟩)
def fiC (T : Tb) (rel a : Nat) : Nat := if T 0 a = 3 ∧ rel = 1 then 0 else 9
def laC (T : Tb) (rel a : Nat) (r : List Nat) : Nat := if T 0 a = 3 ∧ rel = 1 then fr r else 9
theorem nms_eq (rel a : Nat) (r : List Nat) : nms T rel a r = (List.range (laC T rel a r + 1 - fiC T rel a)).map (fiC T rel a + ·) := by
  unfold nms laC fiC
  by_cases h : T 0 a = 3 ∧ rel = 1
  · rw [if_pos h, if_pos h, if_pos h]
    simp
  · rw [if_neg h, if_neg h, if_neg h]
    rfl
theorem laC_le {r : List Nat} (hl : lok r) (h3 : r.length ≤ 3) (rel a : Nat) : laC T rel a r ≤ 9 ∧ fiC T rel a ≤ laC T rel a r := by
  have := fr_le hl
  unfold laC fiC
  split <;> omega
theorem c_firstChoice {rel a : Nat} (hX : XRep T n μ) (ha : a < n) (hrel : rel < 3) : Ct (GS g) l (2) yX0_firstChoice cX0_firstChoice 3 (some .int) [.ref (g.1 2), .int (nI rel), .int (nI a)] μ (Is (.int (nI (fiC T rel a))) μ) := by
  refine Ct.of (own := RX0) mi_X0_firstChoice rfl [some (.ref (g.1 2)), some (.int (nI rel)), some (.int (nI a))] (Nat.le_of_ble_eq_true rfl) rfl (fun p₀ e₀ s₀ m₀ b₀ h₀ c₀ F => ?_)
  refine V_aload_n F dX0_firstChoice_0 rfl ?_
  refine V_iload_n F dX0_firstChoice_1 rfl ?_
  refine V_iload_n F dX0_firstChoice_2 rfl ?_
  refine V_callVi F (q0 := 2) (c_isChosen hX ha hrel) mi_X0_isChosenWith mm_X0_isChosenWith lk_X0_103 dX0_firstChoice_3 (rmR (by omega)) rfl rfl (by decide) (Nat.le_of_ble_eq_true rfl) rfl rfl rfl ?_
  unfold fiC
  by_cases h : T 0 a = 3 ∧ rel = 1
  · rw [if_pos h, if_pos h]
    refine V_if_eq_f F (tgt := 13) dX0_firstChoice_6 (by decide) (by decide) ?_
    refine V_iconst F (v := nI 0) dX0_firstChoice_9 (by decide) ?_
    refine V_goto F (tgt := 15) dX0_firstChoice_10 (by decide) ?_
    exact V_iret F dX0_firstChoice_15 (⟨rfl, rfl⟩)
  · rw [if_neg h, if_neg h]
    refine V_if_eq_t F (tgt := 13) dX0_firstChoice_6 (by decide) (by decide) ?_
    refine V_bipush F (v := nI 9) dX0_firstChoice_13 (by decide) ?_
    exact V_iret F dX0_firstChoice_15 (⟨rfl, rfl⟩)
theorem c_lastChoice {rel a : Nat} {r : List Nat} (hX : XRep T n μ) (ha : a < n) (hrel : rel < 3) (hl : lok r) (h3 : r.length ≤ 3) : Ct (GS g) l (2) yX0_lastChoice cX0_lastChoice 4 (some .int) [.ref (g.1 2), .int (nI rel), .int (nI a), .int (nI (rc r))] μ (Is (.int (nI (laC T rel a r))) μ) := by
  have hr := (rc_lt hl h3).1
  refine Ct.of (own := RX0) mi_X0_lastChoice rfl [some (.ref (g.1 2)), some (.int (nI rel)), some (.int (nI a)), some (.int (nI (rc r)))] (Nat.le_of_ble_eq_true rfl) rfl (fun p₀ e₀ s₀ m₀ b₀ h₀ c₀ F => ?_)
  refine V_aload_n F dX0_lastChoice_0 rfl ?_
  refine V_iload_n F dX0_lastChoice_1 rfl ?_
  refine V_iload_n F dX0_lastChoice_2 rfl ?_
  refine V_callVi F (q0 := 2) (c_isChosen hX ha hrel) mi_X0_isChosenWith mm_X0_isChosenWith lk_X0_103 dX0_lastChoice_3 (rmR (by omega)) rfl rfl (by decide) (Nat.le_of_ble_eq_true rfl) rfl rfl rfl ?_
  unfold laC
  by_cases h : T 0 a = 3 ∧ rel = 1
  · rw [if_pos h, if_pos h]
    refine V_if_eq_f F (tgt := 16) dX0_lastChoice_6 (by decide) (by decide) ?_
    refine V_iload_n F dX0_lastChoice_9 rfl ?_
    refine V_callSNi F (c_nextFresh (show rc r < 2 ^ 31 by omega)) mi_X1_nextFresh ms_X1_nextFresh nk_X0_88 dX0_lastChoice_10 (rmR (by omega)) rfl rfl (by decide) (Nat.le_of_ble_eq_true rfl) ?_
    rw [fr_rc hl h3]
    refine V_goto F (tgt := 18) dX0_lastChoice_13 (by decide) ?_
    exact V_iret F dX0_lastChoice_18 (⟨rfl, rfl⟩)
  · rw [if_neg h, if_neg h]
    refine V_if_eq_t F (tgt := 16) dX0_lastChoice_6 (by decide) (by decide) ?_
    refine V_bipush F (v := nI 9) dX0_lastChoice_16 (by decide) ?_
    exact V_iret F dX0_lastChoice_18 (⟨rfl, rfl⟩)
end GAMEA
end
section
section MONO
variable {T : Tb} {n : Nat}
theorem flw_mono {rel k a v b : Nat} {r : List Nat} (h : flw T rel k a v b r = true) : flw T rel (k + 1) a v b r = true := by
  unfold flw at h ⊢
  obtain ⟨x, hx, h⟩ := List.any_eq_true.mp h
  exact List.any_eq_true.mpr ⟨x, hx, win_mono _ _ _ _ _ h⟩
theorem hld_mono {rel k a v q : Nat} {r : List Nat} (h : hld T rel k a v q r = true) : hld T rel (k + 1) a v q r = true := by
  unfold hld at h ⊢
  refine List.all_eq_true.mpr fun b hb => ?_
  have h := List.all_eq_true.mp h b hb
  rw [Bool.or_eq_true] at h ⊢
  exact h.imp id flw_mono
theorem sid_mono {rel k p q : Nat} {r : List Nat} (h : sid T rel k p q r = true) : sid T rel (k + 1) p q r = true := by
  unfold sid at h ⊢
  obtain ⟨a, ha, h⟩ := List.any_eq_true.mp h
  obtain ⟨v, hv, h⟩ := List.any_eq_true.mp h
  exact List.any_eq_true.mpr ⟨a, ha, List.any_eq_true.mpr ⟨v, hv, hld_mono h⟩⟩
theorem sid_le {rel j k p q : Nat} {r : List Nat} (hjk : j ≤ k) (h : sid T rel j p q r = true) : sid T rel k p q r = true := by
  induction hjk with
  | refl => exact h
  | step _ ih => exact sid_mono ih
/-- shifted by a round -/
def shf (P : Nat → Bool) : Nat → Bool
  | 0 => false
  | j + 1 => P j
theorem Sp.uniq {r r' k : Nat} {P : Nat → Bool} (hk : k ≤ 3) (h : Sp r P k) (h' : Sp r' P k) : r = r' := by
  have a := h.2
  have b := h'.2
  rcases h.1 with h1 | h1 <;> rcases h'.1 with h2 | h2
  · have c1 := (b r h1).mpr ((a r h1).mp (Nat.le_refl _))
    have c2 := (a r' h2).mpr ((b r' h2).mp (Nat.le_refl _))
    omega
  · have c1 := (b r h1).mpr ((a r h1).mp (Nat.le_refl _))
    omega
  · have c2 := (a r' h2).mpr ((b r' h2).mp (Nat.le_refl _))
    omega
  · omega
theorem Sp.cut {v k : Nat} {P : Nat → Bool} (hk : k ≤ 3) (h : Sp v P 3) (hP : ∀ j, k ≤ j → j ≤ 3 → P j = P k) : Sp v P k := by
  refine ⟨?_, fun j hj => h.2 j (by omega)⟩
  rcases h.1 with h1 | h1
  · by_cases hv : v ≤ k
    · exact Or.inl hv
    · exfalso
      have := (h.2 v h1).mp (Nat.le_refl _)
      rw [hP v (by omega) h1] at this
      exact hv ((h.2 k hk).mpr this)
  · exact Or.inr h1
theorem Sp.ext {v k : Nat} {P : Nat → Bool} (hk : k ≤ 3) (h : Sp v P k) (hP : ∀ j, k ≤ j → j ≤ 3 → P j = P k) : Sp v P 3 := by
  refine ⟨by have := h.1; omega, fun j hj => ?_⟩
  by_cases hjk : j ≤ k
  · exact h.2 j hjk
  · rw [hP j (by omega) hj, ← h.2 k (Nat.le_refl _)]
    have := h.1
    omega
theorem pre_mem {p i : Nat} {r : List Nat} : ∀ b, b ∈ (List.range i).filterMap (slA T p r) ↔ ∃ s, s < i ∧ slA T p r s = some b := by
  intro b
  rw [List.mem_filterMap]
  constructor
  · rintro ⟨s, hs, h⟩
    exact ⟨s, List.mem_range.mp hs, h⟩
  · rintro ⟨s, hs, h⟩
    exact ⟨s, List.mem_range.mpr hs, h⟩
theorem mvs_iff (hW : WF T n) {p : Nat} (hp : p < n) {r : List Nat} (b : Nat) : b ∈ mvs T p r ↔ ∃ s, s < 3 ∧ slA T p r s = some b := by
  rw [mvs_eq hW hp]
  exact pre_mem b
theorem slA_mvs (hW : WF T n) {p s b : Nat} (hp : p < n) {r : List Nat} (hs : s < 3) (h : slA T p r s = some b) : b ∈ mvs T p r := (mvs_iff hW hp b).mpr ⟨s, hs, h⟩
/-- what is asked of a position -/
def Pos (T : Tb) (n rel p q : Nat) (r : List Nat) (k : Nat) : Prop := p < n ∧ q < n ∧ rel < 3 ∧ lok r ∧ r.length + k ≤ 3 ∧ T 7 p ≤ r.length ∧ T 7 q ≤ r.length ∧ T 5 p ≤ k ∧ T 5 q ≤ k
/-- an answer of the game's methods: a number of rounds, the kept worths in order -/
def WQ (T : Tb) (n : Nat) (μ : Mem) (P : Nat → Bool) (k : Nat) : Option Value → Mem → Prop := fun ret μ' => ∃ v, ret = some (.int (nI v)) ∧ v ≤ 4 ∧ Sp v P k ∧ Memo T n μ' ∧ sameW μ μ'
theorem XInv.of_W {μ μ' : Mem} (h : XInv T n μ) (s : sameW μ μ') (m : Memo T n μ') : XInv T n μ' := ⟨h.1.of_sameW s, m⟩
/-- the worth of a position, as a contract -/
def WC (g : Gm) (l : Launch) (T : Tb) (n k : Nat) : Prop := ∀ (μ : Mem) (rel p q : Nat) (r : List Nat), XInv T n μ → Pos T n rel p q r k → Ct (GS g) l (4 * k + 4) yX0_worth cX0_worth 11 (some .int) [.ref (g.1 2), .int (nI rel), .int (nI p), .int (nI q), .int (nI (rc r)), .int (nI k)] μ (WQ T n μ (fun j => win T rel j p q r) k)
/-- where an answer leads -/
theorem lead (hW : WF T n) {rel k a b : Nat} {r : List Nat} (ha : a < n) (hb : b < n) (ha1 : 1 ≤ T 0 a ∧ T 0 a ≤ 3) (hb1 : 1 ≤ T 0 b ∧ T 0 b ≤ 3) (hk : T 0 a = T 0 b) (hrel : rel < 3) (hl : lok r) (hlen : r.length + (k + 1) ≤ 3) (h7a : T 7 a ≤ r.length) (h7b : T 7 b ≤ r.length) (h5a : T 5 a ≤ k + 1) (h5b : T 5 b ≤ k + 1) :
    (T 0 a ≠ 3 → Pos T n rel (T 3 a) (T 3 b) r k) ∧ (T 0 a = 3 → ∀ w, w ≤ fr r → Pos T n rel (T 3 a) (T 3 b) (w :: r) k) := by
  obtain ⟨a1, a2, a3, a4, a5⟩ := act_facts hW ha ha1.1 ha1.2
  obtain ⟨b1, b2, b3, b4, b5⟩ := act_facts hW hb hb1.1 hb1.2
  constructor
  · intro h3
    rw [if_neg h3] at a5
    rw [if_neg (by omega)] at b5
    exact ⟨by omega, by omega, hrel, hl, by omega, by omega, by omega, by omega, by omega⟩
  · intro h3 w hw
    rw [if_pos h3] at a5
    rw [if_pos (by omega)] at b5
    exact ⟨by omega, by omega, hrel, ⟨hw, hl⟩, by simp only [List.length_cons]; omega, by simp only [List.length_cons]; omega, by simp only [List.length_cons]; omega, by omega, by omega⟩
def loN (rel nm f : Nat) : Nat := if rel = 2 then 0 else if rel = 1 then nm else f
def hiN (rel nm f : Nat) : Nat := if rel = 1 then nm else f
theorem nxt_eq {rel a v : Nat} {r : List Nat} (hrel : rel < 3) (h3 : T 0 a = 3) : nxt T rel a v r = (List.range (hiN rel v (fr r) + 1 - loN rel v (fr r))).map (fun i => (loN rel v (fr r) + i) :: r) := by
  unfold nxt hiN loN
  rw [if_pos h3]
  rcases (by omega : rel = 0 ∨ rel = 1 ∨ rel = 2) with rfl | rfl | rfl
  · simp [show fr r + 1 - fr r = 1 by omega, List.range_succ]
  · simp [show v + 1 - v = 1 by omega, List.range_succ]
  · simp
end MONO
section GAMEB
variable {g : Gm} {l : Launch} {μ : Mem} {T : Tb} {n : Nat}
theorem c_answerWorth {k rel a nm b : Nat} {r : List Nat} (hC : WC g l T n k) (hI : XInv T n μ) (hrel : rel < 3) (ha : a < n) (hb : b < n) (ha1 : 1 ≤ T 0 a ∧ T 0 a ≤ 3) (hb1 : 1 ≤ T 0 b ∧ T 0 b ≤ 3) (hab : T 0 a = T 0 b) (hl : lok r) (hlen : r.length + (k + 1) ≤ 3) (h7a : T 7 a ≤ r.length) (h7b : T 7 b ≤ r.length) (h5a : T 5 a ≤ k + 1) (h5b : T 5 b ≤ k + 1) (hnm : nm ∈ nms T rel a r) : Ct (GS g) l (4 * k + 5) yX0_answerWorth cX0_answerWorth 15 (some .int) [.ref (g.1 2), .int (nI rel), .int (nI a), .int (nI nm), .int (nI b), .int (nI (rc r)), .int (nI (k + 1))] μ (WQ T n μ (fun j => flw T rel j a nm b r) k) := by
  have hX := hI.1
  have hn := hX.n24
  have hlead := lead hX.1 (rel := rel) ha hb ha1 hb1 hab hrel hl hlen h7a h7b h5a h5b
  have hr := rc_lt hl (by omega)
  have hr9 := hr.2.2 (by omega)
  have hfr := fr_le hl
  refine Ct.of (own := RX0) mi_X0_answerWorth rfl [some (.ref (g.1 2)), some (.int (nI rel)), some (.int (nI a)), some (.int (nI nm)), some (.int (nI b)), some (.int (nI (rc r))), some (.int (nI (k + 1))), none, none, none, none, none, none, none, none] (Nat.le_of_ble_eq_true rfl) rfl (fun p₀ e₀ s₀ m₀ b₀ h₀ c₀ F => ?_)
  refine V_aload_n F dX0_answerWorth_0 rfl ?_
  refine V_getf F (q0 := 2) (j := 0) lk_X0_9 dX0_answerWorth_1 ig_X0 rfl rfl (by decide) rfl rfl ?_
  refine V_getN F (q0 := 1) (j := 4) nk_X0_82 dX0_answerWorth_4 ig_X2 rfl rfl (by decide) rfl rfl ?_
  refine V_iload_n F dX0_answerWorth_7 rfl ?_
  refine V_callSNi F (c_at (q := 6) rfl (show a < 24 by omega) (hX.fld 3 rfl (by omega) ha)) mi_X3_at ms_X3_at nk_X0_60 dX0_answerWorth_8 (rmR (by omega)) rfl rfl (by decide) (Nat.le_of_ble_eq_true rfl) ?_
  refine V_istore F (lv' := [_, _, _, _, _, _, _, _, _, _, _, _, _, _, _]) dX0_answerWorth_11 (by decide) rfl rfl ?_
  refine V_aload_n F dX0_answerWorth_13 rfl ?_
  refine V_getf F (q0 := 2) (j := 0) lk_X0_9 dX0_answerWorth_14 ig_X0 rfl rfl (by decide) rfl rfl ?_
  refine V_getN F (q0 := 1) (j := 4) nk_X0_82 dX0_answerWorth_17 ig_X2 rfl rfl (by decide) rfl rfl ?_
  refine V_iload F dX0_answerWorth_20 rfl ?_
  refine V_callSNi F (c_at (q := 6) rfl (show b < 24 by omega) (hX.fld 3 rfl (by omega) hb)) mi_X3_at ms_X3_at nk_X0_60 dX0_answerWorth_22 (rmR (by omega)) rfl rfl (by decide) (Nat.le_of_ble_eq_true rfl) ?_
  refine V_istore F (lv' := [_, _, _, _, _, _, _, _, _, _, _, _, _, _, _]) dX0_answerWorth_25 (by decide) rfl rfl ?_
  refine V_aload_n F dX0_answerWorth_27 rfl ?_
  refine V_getf F (q0 := 2) (j := 0) lk_X0_9 dX0_answerWorth_28 ig_X0 rfl rfl (by decide) rfl rfl ?_
  refine V_getN F (q0 := 1) (j := 1) nk_X0_85 dX0_answerWorth_31 ig_X2 rfl rfl (by decide) rfl rfl ?_
  refine V_iload_n F dX0_answerWorth_34 rfl ?_
  refine V_callSNi F (c_at (q := 3) rfl (show a < 24 by omega) (hX.fld 0 rfl (by omega) ha)) mi_X3_at ms_X3_at nk_X0_60 dX0_answerWorth_35 (rmR (by omega)) rfl rfl (by decide) (Nat.le_of_ble_eq_true rfl) ?_
  refine V_iconst F (v := nI 3) dX0_answerWorth_38 (by decide) ?_
  refine V_icmp_eq_N F (tgt := 58) dX0_answerWorth_39 (by decide) (by omega) (by omega) (fun h3 => ?_) (fun h3 => ?_)
  · skip
    have hfl : ∀ v, v ≤ hiN rel nm (fr r) → v ≤ fr r := by
      intro v hv
      unfold hiN at hv
      split at hv
      · rename_i h1
        unfold nms at hnm
        rw [if_pos ⟨h3, h1⟩] at hnm
        have := List.mem_range.mp hnm
        omega
      · exact hv
    have hlh : loN rel nm (fr r) ≤ hiN rel nm (fr r) := by unfold loN hiN; split <;> split <;> omega
    have hhi := hfl _ (Nat.le_refl _)
    have loop : ∀ (d i best : Nat) (ν : Mem), loN rel nm (fr r) ≤ i → i + d = hiN rel nm (fr r) + 1 → best ≤ 4 → (best ≤ k ∨ best = 4) → (∀ j, j ≤ k → (best ≤ j ↔ ∃ w, loN rel nm (fr r) ≤ w ∧ w < i ∧ win T rel j (T 3 a) (T 3 b) (w :: r) = true)) → Memo T n ν → sameW μ ν →
        V (GS g) p₀ l e₀ (rmD (4 * k + 5)) s₀ m₀ (List.toArray [.ref (g.1 2), .int (nI rel), .int (nI a), .int (nI nm), .int (nI b), .int (nI (rc r)), .int (nI (k + 1))]) b₀ h₀ c₀ 15 0 0 (MQ b₀ (Qp (GS g) (WQ T n μ (fun j => flw T rel j a nm b r) k)) (List.toArray [.ref (g.1 2), .int (nI rel), .int (nI a), .int (nI nm), .int (nI b), .int (nI (rc r)), .int (nI (k + 1))]) s₀ 0 0 (gA (GS g))) 107 ([some (.ref (g.1 2)), some (.int (nI rel)), some (.int (nI a)), some (.int (nI nm)), some (.int (nI b)), some (.int (nI (rc r))), some (.int (nI (k + 1))), some (.int (nI (T 3 a))), some (.int (nI (T 3 b))), some (.int (nI (fr r))), some (.int (nI (loN rel nm (fr r)))), some (.int (nI (hiN rel nm (fr r)))), some (.int (nI best)), some (.int (nI i)), none]) ([]) (ν) := by
      intro d
      induction d with
      | zero =>
        intro i best ν hlo hi hb4 hbk hinv hM hS
        refine V_iload F dX0_answerWorth_107 rfl ?_
        refine V_iload F dX0_answerWorth_109 rfl ?_
        refine V_icmp_gt_N F (tgt := 151) dX0_answerWorth_111 (by decide) (by omega) (by omega) (fun h => ?_) (fun h => ?_)
        · skip
          refine V_iload F dX0_answerWorth_151 rfl ?_
          refine V_iret F dX0_answerWorth_153 ⟨best, rfl, hb4, ⟨hbk, fun j hj => (hinv j hj).trans ?_⟩, hM, hS⟩
          unfold flw
          rw [nxt_eq hrel h3, List.any_eq_true]
          constructor
          · rintro ⟨w, h1, h2, h4⟩
            exact ⟨w :: r, List.mem_map.mpr ⟨w - loN rel nm (fr r), List.mem_range.mpr (by omega), by rw [show loN rel nm (fr r) + (w - loN rel nm (fr r)) = w by omega]⟩, h4⟩
          · rintro ⟨x, hx, h4⟩
            obtain ⟨z, hz, rfl⟩ := List.mem_map.mp hx
            have := List.mem_range.mp hz
            exact ⟨_, by omega, by omega, h4⟩
        · omega
      | succ d ih =>
        intro i best ν hlo hi hb4 hbk hinv hM hS
        refine V_iload F dX0_answerWorth_107 rfl ?_
        refine V_iload F dX0_answerWorth_109 rfl ?_
        refine V_icmp_gt_N F (tgt := 151) dX0_answerWorth_111 (by decide) (by omega) (by omega) (fun h => ?_) (fun h => ?_)
        · omega
        · skip
          refine V_iload F dX0_answerWorth_114 rfl ?_
          refine V_iload F dX0_answerWorth_116 rfl ?_
          refine V_callSNi F (c_with (r := rc r) (v := i) (by omega) (by omega)) mi_X1_with ms_X1_with nk_X0_91 dX0_answerWorth_118 (rmR (by omega)) rfl rfl (by decide) (Nat.le_of_ble_eq_true rfl) ?_
          refine V_istore F (lv' := [_, _, _, _, _, _, _, _, _, _, _, _, _, _, _]) dX0_answerWorth_121 (by decide) rfl rfl ?_
          refine V_iload F dX0_answerWorth_123 rfl ?_
          refine V_aload_n F dX0_answerWorth_125 rfl ?_
          refine V_iload_n F dX0_answerWorth_126 rfl ?_
          refine V_iload F dX0_answerWorth_127 rfl ?_
          refine V_iload F dX0_answerWorth_129 rfl ?_
          refine V_iload F dX0_answerWorth_131 rfl ?_
          refine V_iload F dX0_answerWorth_133 rfl ?_
          refine V_iconst F (v := nI 1) dX0_answerWorth_135 (by decide) ?_
          refine V_isubN F (by omega) dX0_answerWorth_136 ?_
          rw [Nat.add_sub_cancel]
          refine V_callV F (q0 := 2) (hC ν rel (T 3 a) (T 3 b) (i :: r) (hI.of_W hS hM) (hlead.2 h3 i (by omega))) mi_X0_worth mm_X0_worth lk_X0_29 dX0_answerWorth_137 (rmR (by omega)) rfl rfl (by decide) (Nat.le_of_ble_eq_true rfl) rfl rfl rfl (fun r μ' h => ?_)
          obtain ⟨v, rfl, hv4, hSp, hM', hS'⟩ := h
          refine V_minN F lk_X0_67 dX0_answerWorth_140 (rmM (by omega) (Nat.le_of_ble_eq_true rfl)) (by omega) (by omega) ?_
          refine V_istore F (lv' := [_, _, _, _, _, _, _, _, _, _, _, _, _, _, _]) dX0_answerWorth_143 (by decide) rfl rfl ?_
          refine V_iinc F (lv' := [_, _, _, _, _, _, _, _, _, _, _, _, _, _, _]) dX0_answerWorth_145 rfl (by decide) rfl rfl ?_
          refine V_goto F (tgt := 107) dX0_answerWorth_148 (by decide) ?_
          rw [show nI i + Int32.ofInt 1 = nI (i + 1) from nI_1 i]
          refine V_msk [true, true, true, true, true, true, true, true, true, true, true, true, true, true, false] (lv' := [_, _, _, _, _, _, _, _, _, _, _, _, _, _, _]) rfl ?_
          refine ih (i + 1) (min best v) _ (by omega) (by omega) (by omega) (by have := hSp.1; omega) (fun j hj => ?_) hM' (hS.trans hS')
          have e : min best v ≤ j ↔ best ≤ j ∨ v ≤ j := by omega
          rw [e, hinv j hj, hSp.2 j hj]
          constructor
          · rintro (⟨w, h1, h2, h4⟩ | h4)
            · exact ⟨w, h1, by omega, h4⟩
            · exact ⟨i, hlo, by omega, h4⟩
          · rintro ⟨w, h1, h2, h4⟩
            by_cases hwi : w = i
            · subst hwi; exact Or.inr h4
            · exact Or.inl ⟨w, h1, by omega, h4⟩
    have start := loop (hiN rel nm (fr r) + 1 - loN rel nm (fr r)) (loN rel nm (fr r)) 4 μ (Nat.le_refl _) (by omega) (by omega) (Or.inr rfl) (fun j hj => ⟨fun q => by omega, fun ⟨w, h1, h2, _⟩ => by omega⟩) hI.2 (sameW.rfl' μ)
    refine V_iload F dX0_answerWorth_58 rfl ?_
    refine V_callSNi F (c_nextFresh (show rc r < 2 ^ 31 by omega)) mi_X1_nextFresh ms_X1_nextFresh nk_X0_88 dX0_answerWorth_60 (rmR (by omega)) rfl rfl (by decide) (Nat.le_of_ble_eq_true rfl) ?_
    rw [fr_rc hl (by omega)]
    refine V_istore F (lv' := [_, _, _, _, _, _, _, _, _, _, _, _, _, _, _]) dX0_answerWorth_63 (by decide) rfl rfl ?_
    refine V_iload_n F dX0_answerWorth_65 rfl ?_
    refine V_iconst F (v := nI 2) dX0_answerWorth_66 (by decide) ?_
    rcases (by omega : rel = 0 ∨ rel = 1 ∨ rel = 2) with rfl | rfl | rfl
    · skip
      refine V_icmp_ne_t F (tgt := 74) dX0_answerWorth_67 (by decide) (by decide) ?_
      refine V_iload_n F dX0_answerWorth_74 rfl ?_
      refine V_iconst F (v := nI 1) dX0_answerWorth_75 (by decide) ?_
      refine V_icmp_ne_t F (tgt := 83) dX0_answerWorth_76 (by decide) (by decide) ?_
      refine V_iload F dX0_answerWorth_83 rfl ?_
      refine V_istore F (lv' := [_, _, _, _, _, _, _, _, _, _, _, _, _, _, _]) dX0_answerWorth_85 (by decide) rfl rfl ?_
      refine V_iload_n F dX0_answerWorth_87 rfl ?_
      refine V_iconst F (v := nI 1) dX0_answerWorth_88 (by decide) ?_
      refine V_icmp_ne_t F (tgt := 96) dX0_answerWorth_89 (by decide) (by decide) ?_
      refine V_iload F dX0_answerWorth_96 rfl ?_
      refine V_istore F (lv' := [_, _, _, _, _, _, _, _, _, _, _, _, _, _, _]) dX0_answerWorth_98 (by decide) rfl rfl ?_
      refine V_iconst F (v := nI 4) dX0_answerWorth_100 (by decide) ?_
      refine V_istore F (lv' := [_, _, _, _, _, _, _, _, _, _, _, _, _, _, _]) dX0_answerWorth_101 (by decide) rfl rfl ?_
      refine V_iload F dX0_answerWorth_103 rfl ?_
      refine V_istore F (lv' := [_, _, _, _, _, _, _, _, _, _, _, _, _, _, _]) dX0_answerWorth_105 (by decide) rfl rfl ?_
      exact start
    · skip
      refine V_icmp_ne_t F (tgt := 74) dX0_answerWorth_67 (by decide) (by decide) ?_
      refine V_iload_n F dX0_answerWorth_74 rfl ?_
      refine V_iconst F (v := nI 1) dX0_answerWorth_75 (by decide) ?_
      refine V_icmp_ne_f F (tgt := 83) dX0_answerWorth_76 (by decide) (rfl) ?_
      refine V_iload_n F dX0_answerWorth_79 rfl ?_
      refine V_goto F (tgt := 85) dX0_answerWorth_80 (by decide) ?_
      refine V_istore F (lv' := [_, _, _, _, _, _, _, _, _, _, _, _, _, _, _]) dX0_answerWorth_85 (by decide) rfl rfl ?_
      refine V_iload_n F dX0_answerWorth_87 rfl ?_
      refine V_iconst F (v := nI 1) dX0_answerWorth_88 (by decide) ?_
      refine V_icmp_ne_f F (tgt := 96) dX0_answerWorth_89 (by decide) (rfl) ?_
      refine V_iload_n F dX0_answerWorth_92 rfl ?_
      refine V_goto F (tgt := 98) dX0_answerWorth_93 (by decide) ?_
      refine V_istore F (lv' := [_, _, _, _, _, _, _, _, _, _, _, _, _, _, _]) dX0_answerWorth_98 (by decide) rfl rfl ?_
      refine V_iconst F (v := nI 4) dX0_answerWorth_100 (by decide) ?_
      refine V_istore F (lv' := [_, _, _, _, _, _, _, _, _, _, _, _, _, _, _]) dX0_answerWorth_101 (by decide) rfl rfl ?_
      refine V_iload F dX0_answerWorth_103 rfl ?_
      refine V_istore F (lv' := [_, _, _, _, _, _, _, _, _, _, _, _, _, _, _]) dX0_answerWorth_105 (by decide) rfl rfl ?_
      exact start
    · skip
      refine V_icmp_ne_f F (tgt := 74) dX0_answerWorth_67 (by decide) (rfl) ?_
      refine V_iconst F (v := nI 0) dX0_answerWorth_70 (by decide) ?_
      refine V_goto F (tgt := 85) dX0_answerWorth_71 (by decide) ?_
      refine V_istore F (lv' := [_, _, _, _, _, _, _, _, _, _, _, _, _, _, _]) dX0_answerWorth_85 (by decide) rfl rfl ?_
      refine V_iload_n F dX0_answerWorth_87 rfl ?_
      refine V_iconst F (v := nI 1) dX0_answerWorth_88 (by decide) ?_
      refine V_icmp_ne_t F (tgt := 96) dX0_answerWorth_89 (by decide) (by decide) ?_
      refine V_iload F dX0_answerWorth_96 rfl ?_
      refine V_istore F (lv' := [_, _, _, _, _, _, _, _, _, _, _, _, _, _, _]) dX0_answerWorth_98 (by decide) rfl rfl ?_
      refine V_iconst F (v := nI 4) dX0_answerWorth_100 (by decide) ?_
      refine V_istore F (lv' := [_, _, _, _, _, _, _, _, _, _, _, _, _, _, _]) dX0_answerWorth_101 (by decide) rfl rfl ?_
      refine V_iload F dX0_answerWorth_103 rfl ?_
      refine V_istore F (lv' := [_, _, _, _, _, _, _, _, _, _, _, _, _, _, _]) dX0_answerWorth_105 (by decide) rfl rfl ?_
      exact start
  · have h3 : T 0 a ≠ 3 := h3
    refine V_aload_n F dX0_answerWorth_42 rfl ?_
    refine V_iload_n F dX0_answerWorth_43 rfl ?_
    refine V_iload F dX0_answerWorth_44 rfl ?_
    refine V_iload F dX0_answerWorth_46 rfl ?_
    refine V_iload F dX0_answerWorth_48 rfl ?_
    refine V_iload F dX0_answerWorth_50 rfl ?_
    refine V_iconst F (v := nI 1) dX0_answerWorth_52 (by decide) ?_
    refine V_isubN F (by omega) dX0_answerWorth_53 ?_
    rw [Nat.add_sub_cancel]
    refine V_callV F (q0 := 2) (hC μ rel (T 3 a) (T 3 b) r hI (hlead.1 h3)) mi_X0_worth mm_X0_worth lk_X0_29 dX0_answerWorth_54 (rmR (by omega)) rfl rfl (by decide) (Nat.le_of_ble_eq_true rfl) rfl rfl rfl (fun r μ' h => ?_)
    obtain ⟨v, rfl, hv4, hSp, hM', hS'⟩ := h
    refine V_iret F dX0_answerWorth_57 ⟨v, rfl, hv4, ⟨hSp.1, fun j hj => (hSp.2 j hj).trans ?_⟩, hM', hS'⟩
    unfold flw nxt
    rw [if_neg h3]
    simp
end GAMEB
end
section
section GAMEC
variable {g : Gm} {l : Launch} {μ : Mem} {T : Tb} {n : Nat}
/-- an action of a state, with its bounds -/
theorem mv_ok (hX : WF T n) {p a : Nat} (hp : p < n) {r : List Nat} (h : a ∈ mvs T p r) : a < n ∧ (1 ≤ T 0 a ∧ T 0 a ≤ 3) ∧ T 5 a ≤ T 5 p ∧ T 7 a ≤ T 7 p ∧ T 1 a < 3 + T 7 p ∧ T 2 a < 3 + T 7 p := by
  obtain ⟨h1, h2, h3, h4, h5, h6⟩ := mvs_mem hX hp h
  obtain ⟨f1, f2, -⟩ := act_facts hX (show a < n by omega) h3 h4
  exact ⟨by omega, ⟨h3, h4⟩, h5, h6, by omega, by omega⟩
theorem c_attackWorth {k rel a nm q : Nat} {r : List Nat} (hC : WC g l T n k) (hI : XInv T n μ) (hrel : rel < 3) (ha : a < n) (hq : q < n) (ha1 : 1 ≤ T 0 a ∧ T 0 a ≤ 3) (hl : lok r) (hlen : r.length + (k + 1) ≤ 3) (h7a : T 7 a ≤ r.length) (h7q : T 7 q ≤ r.length) (h5a : T 5 a ≤ k + 1) (h5q : T 5 q ≤ k + 1) (hnm : nm ∈ nms T rel a r) : Ct (GS g) l (4 * k + 6) yX0_attackWorth cX0_attackWorth 11 (some .int) [.ref (g.1 2), .int (nI rel), .int (nI a), .int (nI nm), .int (nI q), .int (nI (rc r)), .int (nI (k + 1))] μ (WQ T n μ (shf (fun j => hld T rel j a nm q r)) (k + 1)) := by
  have hn := hI.1.n24
  have hW := hI.1.1
  obtain ⟨na1, na2, -⟩ := act_facts hW ha ha1.1 ha1.2
  refine Ct.of (own := RX0) mi_X0_attackWorth rfl [some (.ref (g.1 2)), some (.int (nI rel)), some (.int (nI a)), some (.int (nI nm)), some (.int (nI q)), some (.int (nI (rc r))), some (.int (nI (k + 1))), none, none, none, none] (Nat.le_of_ble_eq_true rfl) rfl (fun p₀ e₀ s₀ m₀ b₀ h₀ c₀ F => ?_)
  have fin : ∀ (i h : Nat) (ν : Mem), h ≤ 4 → (h ≤ k ∨ h = 4) → (∀ j, j ≤ k → (h ≤ j ↔ hld T rel j a nm q r = true)) → Memo T n ν → sameW μ ν →
      V (GS g) p₀ l e₀ (rmD (4 * k + 6)) s₀ m₀ (List.toArray [.ref (g.1 2), .int (nI rel), .int (nI a), .int (nI nm), .int (nI q), .int (nI (rc r)), .int (nI (k + 1))]) b₀ h₀ c₀ 11 0 0 (MQ b₀ (Qp (GS g) (WQ T n μ (shf (fun j => hld T rel j a nm q r)) (k + 1))) (List.toArray [.ref (g.1 2), .int (nI rel), .int (nI a), .int (nI nm), .int (nI q), .int (nI (rc r)), .int (nI (k + 1))]) s₀ 0 0 (gA (GS g))) 82 ([some (.ref (g.1 2)), some (.int (nI rel)), some (.int (nI a)), some (.int (nI nm)), some (.int (nI q)), some (.int (nI (rc r))), some (.int (nI (k + 1))), some (.int (nI h)), some (.int (nI i)), none, none]) ([]) (ν) := by
    intro i h ν h4 hk hinv hM hS
    refine V_iconst F (v := nI 4) dX0_attackWorth_82 (by decide) ?_
    refine V_iload F dX0_attackWorth_83 rfl ?_
    refine V_iconst F (v := nI 1) dX0_attackWorth_85 (by decide) ?_
    (first | refine V_iaddN F dX0_attackWorth_86 ?_ | refine V_iadd F dX0_attackWorth_86 ?_)
    refine V_minN F lk_X0_67 dX0_attackWorth_87 (rmM (by omega) (Nat.le_of_ble_eq_true rfl)) (by omega) (by omega) ?_
    refine V_iret F dX0_attackWorth_90 ⟨min 4 (h + 1), rfl, by omega, ⟨by omega, fun j hj => ?_⟩, hM, hS⟩
    cases j with
    | zero => exact ⟨fun q => by omega, fun q => by cases q⟩
    | succ j =>
      show min 4 (h + 1) ≤ j + 1 ↔ hld T rel j a nm q r = true
      rw [← hinv j (by omega)]
      omega
  have loop : ∀ (d i h : Nat) (ν : Mem), i + d = 3 → h ≤ 4 → (h ≤ k ∨ h = 4) → (∀ j, j ≤ k → (h ≤ j ↔ ∀ b, (∃ s, s < i ∧ slA T q r s = some b) → agr T r a b = true → flw T rel j a nm b r = true)) → Memo T n ν → sameW μ ν →
      V (GS g) p₀ l e₀ (rmD (4 * k + 6)) s₀ m₀ (List.toArray [.ref (g.1 2), .int (nI rel), .int (nI a), .int (nI nm), .int (nI q), .int (nI (rc r)), .int (nI (k + 1))]) b₀ h₀ c₀ 11 0 0 (MQ b₀ (Qp (GS g) (WQ T n μ (shf (fun j => hld T rel j a nm q r)) (k + 1))) (List.toArray [.ref (g.1 2), .int (nI rel), .int (nI a), .int (nI nm), .int (nI q), .int (nI (rc r)), .int (nI (k + 1))]) s₀ 0 0 (gA (GS g))) 6 ([some (.ref (g.1 2)), some (.int (nI rel)), some (.int (nI a)), some (.int (nI nm)), some (.int (nI q)), some (.int (nI (rc r))), some (.int (nI (k + 1))), some (.int (nI h)), some (.int (nI i)), none, none]) ([]) (ν) := by
    intro d
    induction d with
    | zero =>
      intro i h ν hi h4 hk hinv hM hS
      refine V_iload F dX0_attackWorth_6 rfl ?_
      refine V_iconst F (v := nI 3) dX0_attackWorth_8 (by decide) ?_
      refine V_icmp_ge_N F (tgt := 82) dX0_attackWorth_9 (by decide) (by omega) (by omega) (fun hc => ?_) (fun hc => ?_)
      · refine fin i h ν h4 hk (fun j hj => (hinv j hj).trans ?_) hM hS
        unfold hld
        rw [List.all_eq_true]
        constructor
        · intro hb b hbm
          by_cases hag : agr T r a b = true
          · rw [hag]
            obtain ⟨s, hs, hsl⟩ := (mvs_iff hW hq b).mp hbm
            rw [hb b ⟨s, by omega, hsl⟩ hag]
            rfl
          · rw [Bool.not_eq_true] at hag
            rw [hag]
            rfl
        · intro hb b ⟨s, hs, hsl⟩ hag
          have h1 := hb b ((mvs_iff hW hq b).mpr ⟨s, by omega, hsl⟩)
          rw [hag] at h1
          simpa using h1
      · omega
    | succ d ih =>
      intro i h ν hi h4 hk hinv hM hS
      have hIν := hI.of_W hS hM
      refine V_iload F dX0_attackWorth_6 rfl ?_
      refine V_iconst F (v := nI 3) dX0_attackWorth_8 (by decide) ?_
      refine V_icmp_ge_N F (tgt := 82) dX0_attackWorth_9 (by decide) (by omega) (by omega) (fun hc => ?_) (fun hc => ?_)
      · omega
      · skip
        refine V_iload F dX0_attackWorth_12 rfl ?_
        refine V_iconst F (v := nI 4) dX0_attackWorth_14 (by decide) ?_
        refine V_icmp_ge_N F (tgt := 82) dX0_attackWorth_15 (by decide) (by omega) (by omega) (fun hc4 => ?_) (fun hc4 => ?_)
        · have hh4 : h = 4 := by omega
          refine fin i h ν h4 hk (fun j hj => ⟨fun q => by omega, fun hb => ?_⟩) hM hS
          refine (hinv j hj).mpr fun b ⟨s, hs, hsl⟩ hag => ?_
          unfold hld at hb
          have h1 := List.all_eq_true.mp hb b ((mvs_iff hW hq b).mpr ⟨s, by omega, hsl⟩)
          rw [hag] at h1
          simpa using h1
        · skip
          refine V_aload_n F dX0_attackWorth_18 rfl ?_
          refine V_getf F (q0 := 2) (j := 0) lk_X0_9 dX0_attackWorth_19 ig_X0 rfl rfl (by decide) rfl rfl ?_
          refine V_iload F dX0_attackWorth_22 rfl ?_
          refine V_iload F dX0_attackWorth_24 rfl ?_
          refine V_iload F dX0_attackWorth_26 rfl ?_
          refine V_callVNi F (q0 := 1) (c_actionIn hIν.1 hq (show i < 3 by omega) hl (by omega) h7q) mi_X2_actionIn mm_X2_actionIn nk_X0_41 dX0_attackWorth_28 (rmR (by omega)) rfl rfl (by decide) (Nat.le_of_ble_eq_true rfl) rfl rfl rfl ?_
          have next : ∀ (h' : Nat) (ν' : Mem) (x9 x10 : Option Value), h' ≤ 4 → (h' ≤ k ∨ h' = 4) → (∀ j, j ≤ k → (h' ≤ j ↔ ∀ b, (∃ s, s < i + 1 ∧ slA T q r s = some b) → agr T r a b = true → flw T rel j a nm b r = true)) → Memo T n ν' → sameW μ ν' →
              V (GS g) p₀ l e₀ (rmD (4 * k + 6)) s₀ m₀ (List.toArray [.ref (g.1 2), .int (nI rel), .int (nI a), .int (nI nm), .int (nI q), .int (nI (rc r)), .int (nI (k + 1))]) b₀ h₀ c₀ 11 0 0 (MQ b₀ (Qp (GS g) (WQ T n μ (shf (fun j => hld T rel j a nm q r)) (k + 1))) (List.toArray [.ref (g.1 2), .int (nI rel), .int (nI a), .int (nI nm), .int (nI q), .int (nI (rc r)), .int (nI (k + 1))]) s₀ 0 0 (gA (GS g))) 76 ([some (.ref (g.1 2)), some (.int (nI rel)), some (.int (nI a)), some (.int (nI nm)), some (.int (nI q)), some (.int (nI (rc r))), some (.int (nI (k + 1))), some (.int (nI h')), some (.int (nI i)), x9, x10]) ([]) (ν') := by
            intro h' ν' x9 x10 g4 gk ginv gM gS
            refine V_iinc F (lv' := [_, _, _, _, _, _, _, _, _, _, _]) dX0_attackWorth_76 rfl (by decide) rfl rfl ?_
            refine V_goto F (tgt := 6) dX0_attackWorth_79 (by decide) ?_
            rw [show nI i + Int32.ofInt 1 = nI (i + 1) from nI_1 i]
            refine V_msk [true, true, true, true, true, true, true, true, true, false, false] (lv' := [_, _, _, _, _, _, _, _, _, none, none]) (by cases x9 <;> cases x10 <;> rfl) ?_
            exact ih (i + 1) h' ν' (by omega) g4 gk ginv gM gS
          refine V_istore F (lv' := [_, _, _, _, _, _, _, _, _, _, _]) dX0_attackWorth_31 (by decide) rfl rfl ?_
          refine V_iload F dX0_attackWorth_33 rfl ?_
          refine V_bipush F (v := (-4)) dX0_attackWorth_35 (by decide) ?_
          cases hs : slA T q r i with
          | none =>
            refine V_icmp_eq_t F (tgt := 76) dX0_attackWorth_37 (by decide) (rfl) ?_
            refine next h ν _ _ h4 hk (fun j hj => (hinv j hj).trans ⟨fun hb b ⟨s, h1, h2⟩ => ?_, fun hb b ⟨s, h1, h2⟩ => hb b ⟨s, by omega, h2⟩⟩) hM hS
            by_cases hsi : s = i
            · subst hsi; rw [hs] at h2; cases h2
            · exact hb b ⟨s, by omega, h2⟩
          | some b =>
            have hbm := slA_mvs hW hq (show i < 3 by omega) hs
            obtain ⟨hbn, hb1, hb5, hb7, nb1, nb2⟩ := mv_ok hW hq hbm
            refine V_icmp_eq_f F (tgt := 76) dX0_attackWorth_37 (by decide) (fun q => by have := (ri_ne (by intro b' hb'; cases hb'; exact slA_lt hW (p := _) (by assumption) _ hs)).mp q; cases this) ?_
            refine V_aload_n F dX0_attackWorth_40 rfl ?_
            refine V_iload_n F dX0_attackWorth_41 rfl ?_
            refine V_iload F dX0_attackWorth_42 rfl ?_
            refine V_iload F dX0_attackWorth_44 rfl ?_
            refine V_callVi F (q0 := 2) (c_agree (a := a) (b := b) (r := r) hIν.1 ha hbn hl (by omega) ⟨by omega, by omega⟩ ⟨by omega, by omega⟩) mi_X0_agree mm_X0_agree lk_X0_72 dX0_attackWorth_46 (rmR (by omega)) rfl rfl (by decide) (Nat.le_of_ble_eq_true rfl) rfl rfl rfl ?_
            by_cases hag : agr T r a b = true
            · rw [if_pos hag]
              have hab : T 0 a = T 0 b := by
                unfold agr at hag
                simp only [Bool.and_eq_true, beq_iff_eq] at hag
                exact hag.1.1
              refine V_if_eq_f F (tgt := 76) dX0_attackWorth_49 (by decide) (by decide) ?_
              refine V_aload_n F dX0_attackWorth_52 rfl ?_
              refine V_iload_n F dX0_attackWorth_53 rfl ?_
              refine V_iload_n F dX0_attackWorth_54 rfl ?_
              refine V_iload_n F dX0_attackWorth_55 rfl ?_
              refine V_iload F dX0_attackWorth_56 rfl ?_
              refine V_iload F dX0_attackWorth_58 rfl ?_
              refine V_iload F dX0_attackWorth_60 rfl ?_
              refine V_callV F (q0 := 2) (c_answerWorth (k := k) (rel := rel) (a := a) (nm := nm) (b := b) (r := r) hC hIν hrel ha hbn ha1 hb1 hab hl hlen h7a (by omega) h5a (by omega) hnm) mi_X0_answerWorth mm_X0_answerWorth lk_X0_76 dX0_attackWorth_62 (rmR (by omega)) rfl rfl (by decide) (Nat.le_of_ble_eq_true rfl) rfl rfl rfl (fun r μ' h => ?_)
              obtain ⟨v, rfl, hv4, hSp, hM', hS'⟩ := h
              refine V_istore F (lv' := [_, _, _, _, _, _, _, _, _, _, _]) dX0_attackWorth_65 (by decide) rfl rfl ?_
              refine V_iload F dX0_attackWorth_67 rfl ?_
              refine V_iload F dX0_attackWorth_69 rfl ?_
              refine V_maxN F lk_X0_79 dX0_attackWorth_71 (rmM (by omega) (Nat.le_of_ble_eq_true rfl)) (by omega) (by omega) ?_
              refine V_istore F (lv' := [_, _, _, _, _, _, _, _, _, _, _]) dX0_attackWorth_74 (by decide) rfl rfl ?_
              refine next (max h v) _ _ _ (by omega) (by have := hSp.1; omega) (fun j hj => ?_) hM' (hS.trans hS')
              have e : max h v ≤ j ↔ h ≤ j ∧ v ≤ j := by omega
              rw [e, hinv j hj, hSp.2 j hj]
              constructor
              · rintro ⟨hb, hv⟩ b' ⟨s, h1, h2⟩ hag'
                by_cases hsi : s = i
                · subst hsi
                  rw [hs] at h2
                  cases h2
                  exact hv
                · exact hb b' ⟨s, by omega, h2⟩ hag'
              · intro hb
                exact ⟨fun b' ⟨s, h1, h2⟩ hag' => hb b' ⟨s, by omega, h2⟩ hag', hb b ⟨i, by omega, hs⟩ hag⟩
            · rw [if_neg hag]
              refine V_if_eq_t F (tgt := 76) dX0_attackWorth_49 (by decide) (by decide) ?_
              refine next h ν _ _ h4 hk (fun j hj => (hinv j hj).trans ⟨fun hb b' ⟨s, h1, h2⟩ => ?_, fun hb b' ⟨s, h1, h2⟩ => hb b' ⟨s, by omega, h2⟩⟩) hM hS
              by_cases hsi : s = i
              · subst hsi
                rw [hs] at h2
                cases h2
                exact fun hag' => absurd hag' hag
              · exact hb b' ⟨s, by omega, h2⟩
  refine V_iconst F (v := nI 0) dX0_attackWorth_0 (by decide) ?_
  refine V_istore F (lv' := [_, _, _, _, _, _, _, _, _, _, _]) dX0_attackWorth_1 (by decide) rfl rfl ?_
  refine V_iconst F (v := nI 0) dX0_attackWorth_3 (by decide) ?_
  refine V_istore F (lv' := [_, _, _, _, _, _, _, _, _, _, _]) dX0_attackWorth_4 (by decide) rfl rfl ?_
  exact loop 3 0 0 μ rfl (by omega) (Or.inl (by omega)) (fun j hj => ⟨fun _ b ⟨s, hs, _⟩ => absurd hs (Nat.not_lt_zero s), fun _ => Nat.zero_le _⟩) hI.2 (sameW.rfl' μ)
theorem c_sideWorth {k rel p q : Nat} {r : List Nat} (hC : WC g l T n k) (hI : XInv T n μ) (hpos : Pos T n rel p q r (k + 1)) : Ct (GS g) l (4 * k + 7) yX0_sideWorth cX0_sideWorth 12 (some .int) [.ref (g.1 2), .int (nI rel), .int (nI p), .int (nI q), .int (nI (rc r)), .int (nI (k + 1))] μ (WQ T n μ (shf (fun j => sid T rel j p q r)) (k + 1)) := by
  have hn := hI.1.n24
  have hW := hI.1.1
  obtain ⟨hp, hq, hrel, hl, hlen, h7p, h7q, h5p, h5q⟩ := hpos
  refine Ct.of (own := RX0) mi_X0_sideWorth rfl [some (.ref (g.1 2)), some (.int (nI rel)), some (.int (nI p)), some (.int (nI q)), some (.int (nI (rc r))), some (.int (nI (k + 1))), none, none, none, none, none, none] (Nat.le_of_ble_eq_true rfl) rfl (fun p₀ e₀ s₀ m₀ b₀ h₀ c₀ F => ?_)
  have fin : ∀ (i w : Nat) (ν : Mem), 1 ≤ w → w ≤ 4 → (w ≤ k + 1 ∨ w = 4) → (∀ j, j ≤ k → (w ≤ j + 1 ↔ sid T rel j p q r = true)) → Memo T n ν → sameW μ ν →
      V (GS g) p₀ l e₀ (rmD (4 * k + 7)) s₀ m₀ (List.toArray [.ref (g.1 2), .int (nI rel), .int (nI p), .int (nI q), .int (nI (rc r)), .int (nI (k + 1))]) b₀ h₀ c₀ 12 0 0 (MQ b₀ (Qp (GS g) (WQ T n μ (shf (fun j => sid T rel j p q r)) (k + 1))) (List.toArray [.ref (g.1 2), .int (nI rel), .int (nI p), .int (nI q), .int (nI (rc r)), .int (nI (k + 1))]) s₀ 0 0 (gA (GS g))) 103 ([some (.ref (g.1 2)), some (.int (nI rel)), some (.int (nI p)), some (.int (nI q)), some (.int (nI (rc r))), some (.int (nI (k + 1))), some (.int (nI w)), some (.int (nI i)), none, none, none, none]) ([]) (ν) := by
    intro i w ν h1 h4 hk hinv hM hS
    refine V_iload F dX0_sideWorth_103 rfl ?_
    refine V_iret F dX0_sideWorth_105 ⟨w, rfl, h4, ⟨hk, fun j hj => ?_⟩, hM, hS⟩
    cases j with
    | zero => exact ⟨fun q => by omega, fun q => by cases q⟩
    | succ j => exact hinv j (by omega)
  have loop : ∀ (d i w : Nat) (ν : Mem), i + d = 3 → 1 ≤ w → w ≤ 4 → (w ≤ k + 1 ∨ w = 4) → (∀ j, j ≤ k → (w ≤ j + 1 ↔ ∃ a, (∃ s, s < i ∧ slA T p r s = some a) ∧ ∃ v, v ∈ nms T rel a r ∧ hld T rel j a v q r = true)) → Memo T n ν → sameW μ ν →
      V (GS g) p₀ l e₀ (rmD (4 * k + 7)) s₀ m₀ (List.toArray [.ref (g.1 2), .int (nI rel), .int (nI p), .int (nI q), .int (nI (rc r)), .int (nI (k + 1))]) b₀ h₀ c₀ 12 0 0 (MQ b₀ (Qp (GS g) (WQ T n μ (shf (fun j => sid T rel j p q r)) (k + 1))) (List.toArray [.ref (g.1 2), .int (nI rel), .int (nI p), .int (nI q), .int (nI (rc r)), .int (nI (k + 1))]) s₀ 0 0 (gA (GS g))) 6 ([some (.ref (g.1 2)), some (.int (nI rel)), some (.int (nI p)), some (.int (nI q)), some (.int (nI (rc r))), some (.int (nI (k + 1))), some (.int (nI w)), some (.int (nI i)), none, none, none, none]) ([]) (ν) := by
    intro d
    induction d with
    | zero =>
      intro i w ν hi h1 h4 hk hinv hM hS
      refine V_iload F dX0_sideWorth_6 rfl ?_
      refine V_iconst F (v := nI 3) dX0_sideWorth_8 (by decide) ?_
      refine V_icmp_ge_N F (tgt := 103) dX0_sideWorth_9 (by decide) (by omega) (by omega) (fun hc => ?_) (fun hc => ?_)
      · refine fin i w ν h1 h4 hk (fun j hj => (hinv j hj).trans ?_) hM hS
        unfold sid
        rw [List.any_eq_true]
        constructor
        · rintro ⟨a, ⟨s, hs, hsl⟩, v, hv, hh⟩
          exact ⟨a, (mvs_iff hW hp a).mpr ⟨s, by omega, hsl⟩, List.any_eq_true.mpr ⟨v, hv, hh⟩⟩
        · rintro ⟨a, ham, hh⟩
          obtain ⟨v, hv, hh⟩ := List.any_eq_true.mp hh
          obtain ⟨s, hs, hsl⟩ := (mvs_iff hW hp a).mp ham
          exact ⟨a, ⟨s, by omega, hsl⟩, v, hv, hh⟩
      · omega
    | succ d ih =>
      intro i w ν hi h1 h4 hk hinv hM hS
      have hIν := hI.of_W hS hM
      refine V_iload F dX0_sideWorth_6 rfl ?_
      refine V_iconst F (v := nI 3) dX0_sideWorth_8 (by decide) ?_
      refine V_icmp_ge_N F (tgt := 103) dX0_sideWorth_9 (by decide) (by omega) (by omega) (fun hc => ?_) (fun hc => ?_)
      · omega
      · skip
        refine V_iload F dX0_sideWorth_12 rfl ?_
        refine V_iconst F (v := nI 1) dX0_sideWorth_14 (by decide) ?_
        refine V_icmp_le_N F (tgt := 103) dX0_sideWorth_15 (by decide) (by omega) (by omega) (fun hc4 => ?_) (fun hc4 => ?_)
        · have hw1 : w = 1 := by omega
          refine fin i w ν h1 h4 hk (fun j hj => ⟨fun _ => ?_, fun _ => by omega⟩) hM hS
          obtain ⟨a, ⟨s, hs, hsl⟩, v, hv, hh⟩ := (hinv 0 (by omega)).mp (by omega)
          refine sid_le (Nat.zero_le j) ?_
          unfold sid
          exact List.any_eq_true.mpr ⟨a, (mvs_iff hW hp a).mpr ⟨s, by omega, hsl⟩, List.any_eq_true.mpr ⟨v, hv, hh⟩⟩
        · skip
          refine V_aload_n F dX0_sideWorth_18 rfl ?_
          refine V_getf F (q0 := 2) (j := 0) lk_X0_9 dX0_sideWorth_19 ig_X0 rfl rfl (by decide) rfl rfl ?_
          refine V_iload_n F dX0_sideWorth_22 rfl ?_
          refine V_iload F dX0_sideWorth_23 rfl ?_
          refine V_iload F dX0_sideWorth_25 rfl ?_
          refine V_callVNi F (q0 := 1) (c_actionIn hIν.1 hp (show i < 3 by omega) hl (by omega) h7p) mi_X2_actionIn mm_X2_actionIn nk_X0_41 dX0_sideWorth_27 (rmR (by omega)) rfl rfl (by decide) (Nat.le_of_ble_eq_true rfl) rfl rfl rfl ?_
          have next : ∀ (w' : Nat) (ν' : Mem) (x8 x9 x10 x11 : Option Value), 1 ≤ w' → w' ≤ 4 → (w' ≤ k + 1 ∨ w' = 4) → (∀ j, j ≤ k → (w' ≤ j + 1 ↔ ∃ a, (∃ s, s < i + 1 ∧ slA T p r s = some a) ∧ ∃ v, v ∈ nms T rel a r ∧ hld T rel j a v q r = true)) → Memo T n ν' → sameW μ ν' →
              V (GS g) p₀ l e₀ (rmD (4 * k + 7)) s₀ m₀ (List.toArray [.ref (g.1 2), .int (nI rel), .int (nI p), .int (nI q), .int (nI (rc r)), .int (nI (k + 1))]) b₀ h₀ c₀ 12 0 0 (MQ b₀ (Qp (GS g) (WQ T n μ (shf (fun j => sid T rel j p q r)) (k + 1))) (List.toArray [.ref (g.1 2), .int (nI rel), .int (nI p), .int (nI q), .int (nI (rc r)), .int (nI (k + 1))]) s₀ 0 0 (gA (GS g))) 97 ([some (.ref (g.1 2)), some (.int (nI rel)), some (.int (nI p)), some (.int (nI q)), some (.int (nI (rc r))), some (.int (nI (k + 1))), some (.int (nI w')), some (.int (nI i)), x8, x9, x10, x11]) ([]) (ν') := by
            intro w' ν' x8 x9 x10 x11 g1 g4 gk ginv gM gS
            refine V_iinc F (lv' := [_, _, _, _, _, _, _, _, _, _, _, _]) dX0_sideWorth_97 rfl (by decide) rfl rfl ?_
            refine V_goto F (tgt := 6) dX0_sideWorth_100 (by decide) ?_
            rw [show nI i + Int32.ofInt 1 = nI (i + 1) from nI_1 i]
            refine V_msk [true, true, true, true, true, true, true, true, false, false, false, false] (lv' := [_, _, _, _, _, _, _, _, none, none, none, none]) (by cases x8 <;> cases x9 <;> cases x10 <;> cases x11 <;> rfl) ?_
            exact ih (i + 1) w' ν' (by omega) g1 g4 gk ginv gM gS
          refine V_istore F (lv' := [_, _, _, _, _, _, _, _, _, _, _, _]) dX0_sideWorth_30 (by decide) rfl rfl ?_
          refine V_iload F dX0_sideWorth_32 rfl ?_
          refine V_bipush F (v := (-4)) dX0_sideWorth_34 (by decide) ?_
          cases hs : slA T p r i with
          | none =>
            refine V_icmp_eq_t F (tgt := 97) dX0_sideWorth_36 (by decide) (rfl) ?_
            refine next w ν _ _ _ _ h1 h4 hk (fun j hj => (hinv j hj).trans ⟨fun ⟨a, ⟨s, c1, c2⟩, c3⟩ => ⟨a, ⟨s, by omega, c2⟩, c3⟩, fun ⟨a, ⟨s, c1, c2⟩, c3⟩ => ⟨a, ⟨s, ?_, c2⟩, c3⟩⟩) hM hS
            by_cases hsi : s = i
            · subst hsi; rw [hs] at c2; cases c2
            · omega
          | some a =>
            have ham := slA_mvs hW hp (show i < 3 by omega) hs
            obtain ⟨han, ha1, ha5, ha7, na1, na2⟩ := mv_ok hW hp ham
            have hla := laC_le (T := T) hl (show r.length ≤ 3 by omega) rel a
            refine V_icmp_eq_f F (tgt := 97) dX0_sideWorth_36 (by decide) (fun q => by have := (ri_ne (by intro b' hb'; cases hb'; exact slA_lt hW hp _ hs)).mp q; cases this) ?_
            refine V_aload_n F dX0_sideWorth_39 rfl ?_
            refine V_iload_n F dX0_sideWorth_40 rfl ?_
            refine V_iload F dX0_sideWorth_41 rfl ?_
            refine V_iload F dX0_sideWorth_43 rfl ?_
            refine V_callVi F (q0 := 2) (c_lastChoice (a := a) hIν.1 han hrel hl (by omega)) mi_X0_lastChoice mm_X0_lastChoice lk_X0_46 dX0_sideWorth_45 (rmR (by omega)) rfl rfl (by decide) (Nat.le_of_ble_eq_true rfl) rfl rfl rfl ?_
            refine V_istore F (lv' := [_, _, _, _, _, _, _, _, _, _, _, _]) dX0_sideWorth_48 (by decide) rfl rfl ?_
            refine V_aload_n F dX0_sideWorth_50 rfl ?_
            refine V_iload_n F dX0_sideWorth_51 rfl ?_
            refine V_iload F dX0_sideWorth_52 rfl ?_
            refine V_callVi F (q0 := 2) (c_firstChoice (a := a) hIν.1 han hrel) mi_X0_firstChoice mm_X0_firstChoice lk_X0_49 dX0_sideWorth_54 (rmR (by omega)) rfl rfl (by decide) (Nat.le_of_ble_eq_true rfl) rfl rfl rfl ?_
            have inner : ∀ (e nm w' : Nat) (ν' : Mem) (x11 : Option Value), fiC T rel a ≤ nm → nm + e = laC T rel a r + 1 → 1 ≤ w' → w' ≤ 4 → (w' ≤ k + 1 ∨ w' = 4) → (∀ j, j ≤ k → (w' ≤ j + 1 ↔ (∃ a, (∃ s, s < i ∧ slA T p r s = some a) ∧ ∃ v, v ∈ nms T rel a r ∧ hld T rel j a v q r = true) ∨ ∃ v, fiC T rel a ≤ v ∧ v < nm ∧ hld T rel j a v q r = true)) → Memo T n ν' → sameW μ ν' →
                V (GS g) p₀ l e₀ (rmD (4 * k + 7)) s₀ m₀ (List.toArray [.ref (g.1 2), .int (nI rel), .int (nI p), .int (nI q), .int (nI (rc r)), .int (nI (k + 1))]) b₀ h₀ c₀ 12 0 0 (MQ b₀ (Qp (GS g) (WQ T n μ (shf (fun j => sid T rel j p q r)) (k + 1))) (List.toArray [.ref (g.1 2), .int (nI rel), .int (nI p), .int (nI q), .int (nI (rc r)), .int (nI (k + 1))]) s₀ 0 0 (gA (GS g))) 59 ([some (.ref (g.1 2)), some (.int (nI rel)), some (.int (nI p)), some (.int (nI q)), some (.int (nI (rc r))), some (.int (nI (k + 1))), some (.int (nI w')), some (.int (nI i)), some (.int (nI a)), some (.int (nI (laC T rel a r))), some (.int (nI nm)), x11]) ([]) (ν') := by
              intro e
              induction e with
              | zero =>
                intro nm w' ν' x11 hnm0 hnm1 g1 g4 gk ginv gM gS
                refine V_iload F dX0_sideWorth_59 rfl ?_
                refine V_iload F dX0_sideWorth_61 rfl ?_
                refine V_icmp_gt_N F (tgt := 97) dX0_sideWorth_63 (by decide) (by omega) (by omega) (fun hd => ?_) (fun hd => ?_)
                · refine next w' ν' _ _ _ _ g1 g4 gk (fun j hj => (ginv j hj).trans ?_) gM gS
                  constructor
                  · rintro (⟨a', ⟨s, c1, c2⟩, c3⟩ | ⟨v, c1, c2, c3⟩)
                    · exact ⟨a', ⟨s, by omega, c2⟩, c3⟩
                    · refine ⟨a, ⟨i, by omega, hs⟩, v, ?_, c3⟩
                      rw [nms_eq]
                      exact List.mem_map.mpr ⟨v - fiC T rel a, List.mem_range.mpr (by omega), by omega⟩
                  · rintro ⟨a', ⟨s, c1, c2⟩, v, c3, c4⟩
                    by_cases hsi : s = i
                    · subst hsi
                      rw [hs] at c2
                      cases c2
                      rw [nms_eq] at c3
                      obtain ⟨z, hz, rfl⟩ := List.mem_map.mp c3
                      have := List.mem_range.mp hz
                      exact Or.inr ⟨_, by omega, by omega, c4⟩
                    · exact Or.inl ⟨a', ⟨s, by omega, c2⟩, v, c3, c4⟩
                · omega
              | succ e ihe =>
                intro nm w' ν' x11 hnm0 hnm1 g1 g4 gk ginv gM gS
                have hIν' := hI.of_W gS gM
                have hmem : nm ∈ nms T rel a r := by
                  rw [nms_eq]
                  exact List.mem_map.mpr ⟨nm - fiC T rel a, List.mem_range.mpr (by omega), by omega⟩
                refine V_iload F dX0_sideWorth_59 rfl ?_
                refine V_iload F dX0_sideWorth_61 rfl ?_
                refine V_icmp_gt_N F (tgt := 97) dX0_sideWorth_63 (by decide) (by omega) (by omega) (fun hd => ?_) (fun hd => ?_)
                · omega
                · skip
                  refine V_aload_n F dX0_sideWorth_66 rfl ?_
                  refine V_iload_n F dX0_sideWorth_67 rfl ?_
                  refine V_iload F dX0_sideWorth_68 rfl ?_
                  refine V_iload F dX0_sideWorth_70 rfl ?_
                  refine V_iload_n F dX0_sideWorth_72 rfl ?_
                  refine V_iload F dX0_sideWorth_73 rfl ?_
                  refine V_iload F dX0_sideWorth_75 rfl ?_
                  refine V_callV F (q0 := 2) (c_attackWorth (k := k) (rel := rel) (a := a) (nm := nm) (q := q) (r := r) hC hIν' hrel han hq ha1 hl hlen (by omega) h7q (by omega) h5q hmem) mi_X0_attackWorth mm_X0_attackWorth lk_X0_53 dX0_sideWorth_77 (rmR (by omega)) rfl rfl (by decide) (Nat.le_of_ble_eq_true rfl) rfl rfl rfl (fun r μ' h => ?_)
                  obtain ⟨v, rfl, hv4, hSp, hM', hS'⟩ := h
                  have hv1 : 1 ≤ v := by
                    have h00 := hSp.2 0 (by omega)
                    rcases Nat.eq_zero_or_pos v with z | z
                    · exact absurd (h00.mp (by omega)) (by simp [shf])
                    · exact z
                  refine V_istore F (lv' := [_, _, _, _, _, _, _, _, _, _, _, _]) dX0_sideWorth_80 (by decide) rfl rfl ?_
                  refine V_iload F dX0_sideWorth_82 rfl ?_
                  refine V_iload F dX0_sideWorth_84 rfl ?_
                  refine V_minN F lk_X0_67 dX0_sideWorth_86 (rmM (by omega) (Nat.le_of_ble_eq_true rfl)) (by omega) (by omega) ?_
                  refine V_istore F (lv' := [_, _, _, _, _, _, _, _, _, _, _, _]) dX0_sideWorth_89 (by decide) rfl rfl ?_
                  refine V_iinc F (lv' := [_, _, _, _, _, _, _, _, _, _, _, _]) dX0_sideWorth_91 rfl (by decide) rfl rfl ?_
                  refine V_goto F (tgt := 59) dX0_sideWorth_94 (by decide) ?_
                  rw [show nI nm + Int32.ofInt 1 = nI (nm + 1) from nI_1 nm]
                  refine ihe (nm + 1) (min w' v) _ _ (by omega) (by omega) (by omega) (by omega) (by have := hSp.1; omega) (fun j hj => ?_) hM' (gS.trans hS')
                  have e1 : min w' v ≤ j + 1 ↔ w' ≤ j + 1 ∨ v ≤ j + 1 := by omega
                  rw [e1, ginv j hj, hSp.2 (j + 1) (by omega)]
                  show (_ ∨ _) ∨ hld T rel j a nm q r = true ↔ _
                  constructor
                  · rintro ((c | ⟨v', c1, c2, c3⟩) | c)
                    · exact Or.inl c
                    · exact Or.inr ⟨v', c1, by omega, c3⟩
                    · exact Or.inr ⟨nm, hnm0, by omega, c⟩
                  · rintro (c | ⟨v', c1, c2, c3⟩)
                    · exact Or.inl (Or.inl c)
                    · by_cases hvn : v' = nm
                      · subst hvn; exact Or.inr c3
                      · exact Or.inl (Or.inr ⟨v', c1, by omega, c3⟩)
            refine V_istore F (lv' := [_, _, _, _, _, _, _, _, _, _, _, _]) dX0_sideWorth_57 (by decide) rfl rfl ?_
            refine inner (laC T rel a r + 1 - fiC T rel a) (fiC T rel a) w ν _ (Nat.le_refl _) (by omega) h1 h4 hk (fun j hj => (hinv j hj).trans ⟨Or.inl, fun c => c.elim id (fun ⟨v, c1, c2, _⟩ => by omega)⟩) hM hS
  refine V_iconst F (v := nI 4) dX0_sideWorth_0 (by decide) ?_
  refine V_istore F (lv' := [_, _, _, _, _, _, _, _, _, _, _, _]) dX0_sideWorth_1 (by decide) rfl rfl ?_
  refine V_iconst F (v := nI 0) dX0_sideWorth_3 (by decide) ?_
  refine V_istore F (lv' := [_, _, _, _, _, _, _, _, _, _, _, _]) dX0_sideWorth_4 (by decide) rfl rfl ?_
  exact loop 3 0 4 μ rfl (by omega) (by omega) (Or.inr rfl) (fun j hj => ⟨fun q => by omega, fun ⟨a, ⟨s, hs, _⟩, _⟩ => absurd hs (Nat.not_lt_zero s)⟩) hI.2 (sameW.rfl' μ)
end GAMEC
end
section
section GAMED0
variable {T : Tb} {n : Nat}
def kn (μ : Mem) (rel p q : Nat) : List Nat → Int32
  | [] => μ.1 14 (plc (max p q) (min p q) rel 0)
  | [v] => μ.1 14 (plc (max p q) (min p q) rel (v + 1))
  | _ => nI 0
def wrK (μ : Mem) (rel p q : Nat) (x : Int32) : List Nat → Mem
  | [] => wr μ 14 (plc (max p q) (min p q) rel 0) x
  | [v] => wr μ 14 (plc (max p q) (min p q) rel (v + 1)) x
  | _ => μ
theorem win_mm (rel k p q : Nat) (r : List Nat) : win T rel k (max p q) (min p q) r = win T rel k p q r := by
  rcases Nat.le_total p q with h | h
  · rw [Nat.max_eq_right h, Nat.min_eq_left h, win_symm]
  · rw [Nat.max_eq_left h, Nat.min_eq_right h]
theorem kn_view {μ : Mem} (hM : Memo T n μ) {rel p q : Nat} {view : Nat} (hp : p < 24) (hq : q < 24) (hne : p ≠ q) (hrel : rel < 3) (hv : view < 5) : μ.1 14 (plc (max p q) (min p q) rel view) = nI 0 ∨ ∃ w, μ.1 14 (plc (max p q) (min p q) rel view) = nI w ∧ 1 ≤ w ∧ w ≤ 4 ∧ Sp w (fun j => win T rel j p q (vls view)) 3 := by
  rcases hM (max p q) (min p q) rel view (by omega) (by omega) hrel hv with h | ⟨-, -, -, w, h1, h2, h3⟩
  · exact Or.inl h
  · refine Or.inr ⟨w, h1, ?_, h2, h3.1, fun j hj => by rw [h3.2 j hj]; show win T rel j (max p q) (min p q) (vls view) = true ↔ win T rel j p q (vls view) = true; rw [win_mm]⟩
    rcases Nat.eq_zero_or_pos w with z | z
    · have := (h3.2 0 (by omega)).mp (by omega)
      cases this
    · exact z
theorem kn_ok {μ : Mem} (hM : Memo T n μ) {rel p q : Nat} {r : List Nat} (hp : p < 24) (hq : q < 24) (hne : p ≠ q) (hrel : rel < 3) (hl : lok r) : kn μ rel p q r = nI 0 ∨ ∃ w, kn μ rel p q r = nI w ∧ 1 ≤ w ∧ w ≤ 4 ∧ Sp w (fun j => win T rel j p q r) 3 := by
  match r, hl with
  | [], _ => exact kn_view hM (view := 0) hp hq hne hrel (by omega)
  | [v], hl =>
    have hv := hl.1
    simp only [fr] at hv
    exact kn_view hM (view := v + 1) hp hq hne hrel (by omega)
  | _ :: _ :: _, _ => exact Or.inl rfl
theorem wr_memo {μ : Mem} (hM : Memo T n μ) {rel p q view w : Nat} (hn : n ≤ 24) (hp : p < n) (hq : q < n) (hne : p ≠ q) (hrel : rel < 3) (hv : view < 5) (h7p : T 7 p ≤ (vls view).length) (h7q : T 7 q ≤ (vls view).length) (hw4 : w ≤ 4) (hS : Sp w (fun j => win T rel j p q (vls view)) 3) : Memo T n (wr μ 14 (plc (max p q) (min p q) rel view) (nI w)) := by
  intro hi lo rel' view' h1 h2 h3 h4
  by_cases he : plc hi lo rel' view' = plc (max p q) (min p q) rel view
  · obtain ⟨e1, e2, e3, e4⟩ := plc_inj h1 h2 h3 h4 (show max p q < 24 by omega) (show min p q < max p q by omega) hrel hv he
    subst e1; subst e2; subst e3; subst e4
    rw [wr_eq]
    refine Or.inr ⟨by omega, ?_, ?_, w, rfl, hw4, hS.1, fun j hj => by rw [hS.2 j hj]; show _ ↔ win T rel' j (max p q) (min p q) _ = true; rw [win_mm]⟩
    · rcases Nat.le_total p q with h | h
      · rw [Nat.max_eq_right h]; exact h7q
      · rw [Nat.max_eq_left h]; exact h7p
    · rcases Nat.le_total p q with h | h
      · rw [Nat.min_eq_left h]; exact h7p
      · rw [Nat.min_eq_right h]; exact h7q
  · rw [wr_ne (fun q => he q.2)]
    exact hM hi lo rel' view' h1 h2 h3 h4
theorem wrK_ok {μ : Mem} (hM : Memo T n μ) {rel p q w : Nat} {r : List Nat} (hn : n ≤ 24) (hp : p < n) (hq : q < n) (hne : p ≠ q) (hrel : rel < 3) (hl : lok r) (h7p : T 7 p ≤ r.length) (h7q : T 7 q ≤ r.length) (hw4 : w ≤ 4) (hS : Sp w (fun j => win T rel j p q r) 3) : Memo T n (wrK μ rel p q (nI w) r) ∧ sameW μ (wrK μ rel p q (nI w) r) := by
  have hs : ∀ i x, sameW μ (wr μ 14 i x) := fun i x => ⟨fun c hc => by funext j; rw [wr_ne (fun q => hc q.1)], rfl⟩
  match r, hl with
  | [], _ => exact ⟨wr_memo hM (view := 0) hn hp hq hne hrel (by omega) h7p h7q hw4 hS, hs _ _⟩
  | [v], hl =>
    have hv := hl.1
    simp only [fr] at hv
    exact ⟨wr_memo hM (view := v + 1) hn hp hq hne hrel (by omega) h7p h7q hw4 hS, hs _ _⟩
  | _ :: _ :: _, _ => exact ⟨hM, sameW.rfl' μ⟩
end GAMED0
section GAMED
variable {g : Gm} {l : Launch} {μ : Mem} {T : Tb} {n : Nat}
theorem c_at_w {rel p q : Nat} {r : List Nat} (hp : p < 24) (hq : q < 24) (hne : p ≠ q) (hrel : rel < 3) (hl : lok r) : Ct (GS g) l 0 yX3_at cX3_at 2 (some .int) [.ref (g.1 14), .int (plI rel p q r)] μ (Is (.int (kn μ rel p q r)) μ) := by
  match r, hl with
  | [], _ => exact c_at (q := 14) rfl (plc_in (show max p q < 24 by omega) (show min p q < max p q by omega) hrel (by omega)).2.2.1 rfl
  | [v], hl =>
    have hv := hl.1
    simp only [fr] at hv
    exact c_at (q := 14) rfl (plc_in (show max p q < 24 by omega) (show min p q < max p q by omega) hrel (by omega)).2.2.1 rfl
  | _ :: _ :: _, _ => exact c_at_neg
theorem c_put_w {rel p q : Nat} {x : Int32} {r : List Nat} (hp : p < 24) (hq : q < 24) (hne : p ≠ q) (hrel : rel < 3) (hl : lok r) : Ct (GS g) l 0 yX3_put cX3_put 3 none [.ref (g.1 14), .int (plI rel p q r), .int x] μ (IsN (wrK μ rel p q x r)) := by
  match r, hl with
  | [], _ => exact c_put (q := 14) rfl (plc_in (show max p q < 24 by omega) (show min p q < max p q by omega) hrel (by omega)).2.2.1
  | [v], hl =>
    have hv := hl.1
    simp only [fr] at hv
    exact c_put (q := 14) rfl (plc_in (show max p q < 24 by omega) (show min p q < max p q by omega) hrel (by omega)).2.2.1
  | _ :: _ :: _, _ => exact c_put_neg
theorem c_worth0 {rel p q : Nat} {r : List Nat} (hI : XInv T n μ) (hpos : Pos T n rel p q r 0) : Ct (GS g) l (4 * 0 + 4) yX0_worth cX0_worth 11 (some .int) [.ref (g.1 2), .int (nI rel), .int (nI p), .int (nI q), .int (nI (rc r)), .int (nI 0)] μ (WQ T n μ (fun j => win T rel j p q r) 0) := by
  refine Ct.of (own := RX0) mi_X0_worth rfl [some (.ref (g.1 2)), some (.int (nI rel)), some (.int (nI p)), some (.int (nI q)), some (.int (nI (rc r))), some (.int (nI 0)), none, none, none, none, none] (Nat.le_of_ble_eq_true rfl) rfl (fun p₀ e₀ s₀ m₀ b₀ h₀ c₀ F => ?_)
  refine V_iload F dX0_worth_0 rfl ?_
  refine V_if_le_t F (tgt := 10) dX0_worth_2 (by decide) (by decide) ?_
  refine V_iconst F (v := nI 4) dX0_worth_10 (by decide) ?_
  refine V_iret F dX0_worth_11 ⟨4, rfl, by omega, ⟨Or.inr rfl, fun j hj => ⟨fun q => by omega, fun q => ?_⟩⟩, hI.2, sameW.rfl' μ⟩
  rw [show j = 0 by omega] at q
  cases q
theorem c_worthS {k rel p q : Nat} {r : List Nat} (hC : WC g l T n k) (hI : XInv T n μ) (hpos : Pos T n rel p q r (k + 1)) : Ct (GS g) l (4 * (k + 1) + 4) yX0_worth cX0_worth 11 (some .int) [.ref (g.1 2), .int (nI rel), .int (nI p), .int (nI q), .int (nI (rc r)), .int (nI (k + 1))] μ (WQ T n μ (fun j => win T rel j p q r) (k + 1)) := by
  have hn := hI.1.n24
  have hW := hI.1.1
  obtain ⟨hp, hq, hrel, hl, hlen, h7p, h7q, h5p, h5q⟩ := id hpos
  refine Ct.of (own := RX0) mi_X0_worth rfl [some (.ref (g.1 2)), some (.int (nI rel)), some (.int (nI p)), some (.int (nI q)), some (.int (nI (rc r))), some (.int (nI (k + 1))), none, none, none, none, none] (Nat.le_of_ble_eq_true rfl) rfl (fun p₀ e₀ s₀ m₀ b₀ h₀ c₀ F => ?_)
  refine V_iload F dX0_worth_0 rfl ?_
  refine V_if_le_f F (tgt := 10) dX0_worth_2 (by decide) (fun z => by rw [← nI_0] at z; have := (nI_leI (by omega) (by omega)).mp z; omega) ?_
  refine V_iload_n F dX0_worth_5 rfl ?_
  refine V_iload_n F dX0_worth_6 rfl ?_
  refine V_icmp_ne_N F (tgt := 12) dX0_worth_7 (by decide) (by omega) (by omega) (fun hne => ?_) (fun hne => ?_)
  · skip
    refine V_iload_n F dX0_worth_12 rfl ?_
    refine V_iload_n F dX0_worth_13 rfl ?_
    refine V_iload_n F dX0_worth_14 rfl ?_
    refine V_iload F dX0_worth_15 rfl ?_
    refine V_callSi F (c_placeOf hl (by omega) hrel (show p < 24 by omega) (show q < 24 by omega)) mi_X0_placeOf ms_X0_placeOf lk_X0_57 dX0_worth_17 (rmR (by omega)) rfl rfl (by decide) (Nat.le_of_ble_eq_true rfl) ?_
    refine V_istore F (lv' := [_, _, _, _, _, _, _, _, _, _, _]) dX0_worth_20 (by decide) rfl rfl ?_
    refine V_aload_n F dX0_worth_22 rfl ?_
    refine V_getf F (q0 := 2) (j := 1) lk_X0_15 dX0_worth_23 ig_X0 rfl rfl (by decide) rfl rfl ?_
    refine V_iload F dX0_worth_26 rfl ?_
    refine V_callSNi F (c_at_w (show p < 24 by omega) (show q < 24 by omega) hne hrel hl) mi_X3_at ms_X3_at nk_X0_60 dX0_worth_28 (rmR (by omega)) rfl rfl (by decide) (Nat.le_of_ble_eq_true rfl) ?_
    refine V_istore F (lv' := [_, _, _, _, _, _, _, _, _, _, _]) dX0_worth_31 (by decide) rfl rfl ?_
    refine V_iload F dX0_worth_33 rfl ?_
    have hstop : ∀ j, k + 1 ≤ j → j ≤ 3 → win T rel j p q r = win T rel (k + 1) p q r := fun j h1 _ => win_stop hW rel hp hq h5p h5q h1
    rcases kn_ok hI.2 (r := r) (show p < 24 by omega) (show q < 24 by omega) hne hrel hl with h0 | ⟨w, h0, h1, h4, hS⟩
    · rw [h0]
      refine V_if_eq_t F (tgt := 41) dX0_worth_35 (by decide) (nI_0) ?_
      refine V_aload_n F dX0_worth_41 rfl ?_
      refine V_iload_n F dX0_worth_42 rfl ?_
      refine V_iload_n F dX0_worth_43 rfl ?_
      refine V_iload_n F dX0_worth_44 rfl ?_
      refine V_iload F dX0_worth_45 rfl ?_
      refine V_iload F dX0_worth_47 rfl ?_
      refine V_callV F (q0 := 2) (c_sideWorth hC hI hpos) mi_X0_sideWorth mm_X0_sideWorth lk_X0_64 dX0_worth_49 (rmR (by omega)) rfl rfl (by decide) (Nat.le_of_ble_eq_true rfl) rfl rfl rfl (fun r μ' h => ?_)
      obtain ⟨v1, rfl, hv1, hS1, hM1, hW1⟩ := h
      refine V_istore F (lv' := [_, _, _, _, _, _, _, _, _, _, _]) dX0_worth_52 (by decide) rfl rfl ?_
      refine V_aload_n F dX0_worth_54 rfl ?_
      refine V_iload_n F dX0_worth_55 rfl ?_
      refine V_iload_n F dX0_worth_56 rfl ?_
      refine V_iload_n F dX0_worth_57 rfl ?_
      refine V_iload F dX0_worth_58 rfl ?_
      refine V_iload F dX0_worth_60 rfl ?_
      refine V_callV F (q0 := 2) (c_sideWorth hC (hI.of_W hW1 hM1) (⟨hq, hp, hrel, hl, hlen, h7q, h7p, h5q, h5p⟩ : Pos T n rel q p r (k + 1))) mi_X0_sideWorth mm_X0_sideWorth lk_X0_64 dX0_worth_62 (rmR (by omega)) rfl rfl (by decide) (Nat.le_of_ble_eq_true rfl) rfl rfl rfl (fun r μ' h => ?_)
      obtain ⟨v2, rfl, hv2, hS2, hM2, hW2⟩ := h
      refine V_istore F (lv' := [_, _, _, _, _, _, _, _, _, _, _]) dX0_worth_65 (by decide) rfl rfl ?_
      refine V_iload F dX0_worth_67 rfl ?_
      refine V_iload F dX0_worth_69 rfl ?_
      refine V_minN F lk_X0_67 dX0_worth_71 (rmM (by omega) (Nat.le_of_ble_eq_true rfl)) (by omega) (by omega) ?_
      have hSm : Sp (min v1 v2) (fun j => win T rel j p q r) (k + 1) := by
        refine ⟨by have := hS1.1; have := hS2.1; omega, fun j hj => ?_⟩
        have e : min v1 v2 ≤ j ↔ v1 ≤ j ∨ v2 ≤ j := by omega
        rw [e, hS1.2 j hj, hS2.2 j hj]
        cases j with
        | zero => exact ⟨fun z => z.elim (fun z => by cases z) (fun z => by cases z), fun z => by cases z⟩
        | succ j =>
          show _ ↔ win T rel (j + 1) p q r = true
          rw [win_eq, Bool.or_eq_true]
          exact Iff.rfl
      have hS3 := hSm.ext (by omega) hstop
      obtain ⟨hM3, hW3⟩ := wrK_ok hM2 (r := r) (by omega) hp hq hne hrel hl h7p h7q (show min v1 v2 ≤ 4 by omega) hS3
      refine V_istore F (lv' := [_, _, _, _, _, _, _, _, _, _, _]) dX0_worth_74 (by decide) rfl rfl ?_
      refine V_aload_n F dX0_worth_76 rfl ?_
      refine V_getf F (q0 := 2) (j := 1) lk_X0_15 dX0_worth_77 ig_X0 rfl rfl (by decide) rfl rfl ?_
      refine V_iload F dX0_worth_80 rfl ?_
      refine V_iload F dX0_worth_82 rfl ?_
      refine V_callSN0 F (c_put_w (r := r) (show p < 24 by omega) (show q < 24 by omega) hne hrel hl) mi_X3_put ms_X3_put nk_X0_23 dX0_worth_84 (rmR (by omega)) rfl rfl (by decide) (Nat.le_of_ble_eq_true rfl) ?_
      refine V_iload F dX0_worth_87 rfl ?_
      exact V_iret F dX0_worth_89 ⟨_, rfl, by omega, hSm, hM3, (hW1.trans hW2).trans hW3⟩
    · rw [h0]
      refine V_if_eq_f F (tgt := 41) dX0_worth_35 (by decide) (nI_nz (by omega) (by omega)) ?_
      refine V_iload F dX0_worth_38 rfl ?_
      exact V_iret F dX0_worth_40 ⟨w, rfl, h4, hS.cut (by omega) hstop, hI.2, sameW.rfl' μ⟩
  · have hne := Classical.not_not.mp hne
    subst hne
    refine V_iconst F (v := nI 4) dX0_worth_10 (by decide) ?_
    refine V_iret F dX0_worth_11 ⟨4, rfl, by omega, ⟨Or.inr rfl, fun j hj => ⟨fun q => by omega, fun q => ?_⟩⟩, hI.2, sameW.rfl' μ⟩
    have q : win T rel j p p r = true := q
    rw [win_refl] at q
    cases q
theorem c_worth (k : Nat) : WC g l T n k := by
  induction k with
  | zero => exact fun μ rel p q r hI hpos => c_worth0 hI hpos
  | succ k ih => exact fun μ rel p q r hI hpos => c_worthS ih hI hpos
end GAMED
end
section
section CMP0
variable {T : Tb} {n : Nat}
/-- the number of rounds of two closed processes; 4: never -/
def rnd (T : Tb) (rel p q : Nat) : Nat := if win T rel 1 p q [] = true then 1 else if win T rel 2 p q [] = true then 2 else if win T rel 3 p q [] = true then 3 else 4
theorem rnd_Sp (rel p q : Nat) : Sp (rnd T rel p q) (fun j => win T rel j p q []) 3 := by
  have m1 : win T rel 1 p q [] = true → win T rel 2 p q [] = true := win_mono rel 1 p q []
  have m2 : win T rel 2 p q [] = true → win T rel 3 p q [] = true := win_mono rel 2 p q []
  unfold rnd
  by_cases h1 : win T rel 1 p q [] = true
  · rw [if_pos h1]
    refine ⟨by omega, fun j hj => ?_⟩
    rcases (by omega : j = 0 ∨ j = 1 ∨ j = 2 ∨ j = 3) with rfl | rfl | rfl | rfl
    · exact ⟨fun z => by omega, fun z => by cases z⟩
    · exact ⟨fun _ => h1, fun _ => by omega⟩
    · exact ⟨fun _ => m1 h1, fun _ => by omega⟩
    · exact ⟨fun _ => m2 (m1 h1), fun _ => by omega⟩
  · rw [if_neg h1]
    by_cases h2 : win T rel 2 p q [] = true
    · rw [if_pos h2]
      refine ⟨by omega, fun j hj => ?_⟩
      rcases (by omega : j = 0 ∨ j = 1 ∨ j = 2 ∨ j = 3) with rfl | rfl | rfl | rfl
      · exact ⟨fun z => by omega, fun z => by cases z⟩
      · exact ⟨fun z => by omega, fun z => absurd z h1⟩
      · exact ⟨fun _ => h2, fun _ => by omega⟩
      · exact ⟨fun _ => m2 h2, fun _ => by omega⟩
    · rw [if_neg h2]
      by_cases h3 : win T rel 3 p q [] = true
      · rw [if_pos h3]
        refine ⟨by omega, fun j hj => ?_⟩
        rcases (by omega : j = 0 ∨ j = 1 ∨ j = 2 ∨ j = 3) with rfl | rfl | rfl | rfl
        · exact ⟨fun z => by omega, fun z => by cases z⟩
        · exact ⟨fun z => by omega, fun z => absurd z h1⟩
        · exact ⟨fun z => by omega, fun z => absurd z h2⟩
        · exact ⟨fun _ => h3, fun _ => by omega⟩
      · rw [if_neg h3]
        refine ⟨by omega, fun j hj => ?_⟩
        rcases (by omega : j = 0 ∨ j = 1 ∨ j = 2 ∨ j = 3) with rfl | rfl | rfl | rfl
        · exact ⟨fun z => by omega, fun z => by cases z⟩
        · exact ⟨fun z => by omega, fun z => absurd z h1⟩
        · exact ⟨fun z => by omega, fun z => absurd z h2⟩
        · exact ⟨fun z => by omega, fun z => absurd z h3⟩
theorem rnd_le (rel p q : Nat) : 1 ≤ rnd T rel p q ∧ rnd T rel p q ≤ 4 := by
  unfold rnd; split <;> (try split) <;> (try split) <;> omega
theorem rnd_symm (rel p q : Nat) : rnd T rel p q = rnd T rel q p := by
  unfold rnd; simp only [win_symm rel _ p q]
theorem rnd_refl (rel p : Nat) : rnd T rel p p = 4 := by
  unfold rnd; simp [win_refl]
def rdI (T : Tb) (rel p q : Nat) : Int32 := if rnd T rel p q = 4 then -4 else nI (rnd T rel p q)
/-- the first attack in a list of moves that wins within k rounds and one -/
def atkL (T : Tb) (rel k q : Nat) : Nat → List Nat → Option Nat
  | _, [] => none
  | m, a :: as => match (nms T rel a []).find? (fun v => hld T rel k a v q []) with
    | some v => some (10 * m + v)
    | none => atkL T rel k q (m + 1) as
def atkF (T : Tb) (rel k p q : Nat) : Option Nat := atkL T rel k q 0 (mvs T p [])
def atI : Option Nat → Int32
  | some x => nI x
  | none => -4
def atkR (T : Tb) (rel p q : Nat) : Int32 := if rnd T rel p q = 4 then -4 else match atkF T rel (rnd T rel p q - 1) p q with
  | some x => nI x
  | none => match atkF T rel (rnd T rel p q - 1) q p with
    | some y => nI (1000 + y)
    | none => -4
def rPair (f : Nat → Nat → Nat → Int32) (T : Tb) (n : Nat) (p q rel : Int32) : Int32 := match pj n p with
  | none => -1
  | some i => match pj n q with
    | none => -1
    | some j => match pj 3 rel with
      | none => -1
      | some k => if T 7 i = 0 ∧ T 7 j = 0 then f i j k else -2
def lows (T : Tb) (rel p : Nat) : Nat := ((List.range p).find? (fun q => T 7 q == 0 && rnd T rel p q == 4)).getD p
def cls (T : Tb) (n rel : Nat) : Nat := ((List.range n).filter (fun p => T 7 p == 0 && lows T rel p == p)).length
def rCls (T : Tb) (n : Nat) (rel : Int32) : Int32 := match pj 3 rel with
  | none => -1
  | some k => nI (cls T n k)
def XQ (T : Tb) (n : Nat) (μ : Mem) (v : Int32) : Option Value → Mem → Prop := fun ret μ' => ret = some (.int v) ∧ Memo T n μ' ∧ sameW μ μ'
def rstS (T : Tb) (p : Nat) : Nat → Nat → List Nat
  | 0, _ => []
  | d + 1, i => (slA T p [] i).toList ++ rstS T p d (i + 1)
theorem mvs_rst (hW : WF T n) {p : Nat} (hp : p < n) : mvs T p [] = rstS T p 3 0 := by
  rw [mvs_eq hW hp]
  simp only [List.range_succ, List.range_zero, List.nil_append, List.cons_append, List.filterMap_cons, List.filterMap_nil, rstS]
  cases slA T p [] 0 <;> cases slA T p [] (0 + 1) <;> cases slA T p [] (0 + 1 + 1) <;> simp_all
theorem range_map_succ (e nm : Nat) : (List.range (e + 1)).map (nm + ·) = nm :: (List.range e).map (nm + 1 + ·) := by
  rw [List.range_succ_eq_map, List.map_cons, List.map_map]
  congr 1
  apply List.map_congr_left
  intro x _
  simp only [Function.comp]
  omega
theorem pos3 (hW : WF T n) {rel p q : Nat} (hp : p < n) (hq : q < n) (hrel : rel < 3) (h7p : T 7 p = 0) (h7q : T 7 q = 0) : Pos T n rel p q [] 3 :=
  ⟨hp, hq, hrel, trivial, by simp, by simp [h7p], by simp [h7q], (hW.depth hp).1, (hW.depth hq).1⟩
end CMP0
section CMP
variable {g : Gm} {l : Launch} {μ : Mem} {T : Tb} {n : Nat}
theorem c_roundsOf {rel p q : Nat} (hI : XInv T n μ) (hp : p < n) (hq : q < n) (hrel : rel < 3) (h7p : T 7 p = 0) (h7q : T 7 q = 0) : Ct (GS g) l (21) yX0_roundsOf cX0_roundsOf 5 (some .int) [.ref (g.1 2), .int (nI p), .int (nI q), .int (nI rel)] μ (XQ T n μ (rdI T rel p q)) := by
  have hr := rnd_le (T := T) rel p q
  refine Ct.of (own := RX0) mi_X0_roundsOf rfl [some (.ref (g.1 2)), some (.int (nI p)), some (.int (nI q)), some (.int (nI rel)), none] (Nat.le_of_ble_eq_true rfl) rfl (fun p₀ e₀ s₀ m₀ b₀ h₀ c₀ F => ?_)
  refine V_aload_n F dX0_roundsOf_0 rfl ?_
  refine V_iload_n F dX0_roundsOf_1 rfl ?_
  refine V_iload_n F dX0_roundsOf_2 rfl ?_
  refine V_iload_n F dX0_roundsOf_3 rfl ?_
  refine V_iconst F (v := nI 1) dX0_roundsOf_4 (by decide) ?_
  refine V_iconst F (v := nI 3) dX0_roundsOf_5 (by decide) ?_
  refine V_callV F (q0 := 2) (c_worth 3 μ rel p q [] hI (pos3 hI.1.1 hp hq hrel h7p h7q)) mi_X0_worth mm_X0_worth lk_X0_29 dX0_roundsOf_6 (rmR (by omega)) rfl rfl (by decide) (Nat.le_of_ble_eq_true rfl) rfl rfl rfl (fun r μ' h => ?_)
  obtain ⟨v, rfl, hv4, hSp, hM', hW'⟩ := h
  have hv : v = rnd T rel p q := hSp.uniq (by omega) (rnd_Sp rel p q)
  subst hv
  refine V_istore F (lv' := [_, _, _, _, _]) dX0_roundsOf_9 (by decide) rfl rfl ?_
  refine V_iload F dX0_roundsOf_11 rfl ?_
  refine V_iconst F (v := nI 4) dX0_roundsOf_13 (by decide) ?_
  unfold rdI
  refine V_icmp_ne_N F (tgt := 22) dX0_roundsOf_14 (by decide) (by omega) (by omega) (fun hc => ?_) (fun hc => ?_)
  · rw [if_neg hc]
    refine V_iload F dX0_roundsOf_22 rfl ?_
    exact V_iret F dX0_roundsOf_24 (⟨rfl, hM', hW'⟩)
  · rw [if_pos (Classical.not_not.mp hc)]
    refine V_bipush F (v := (-4)) dX0_roundsOf_17 (by decide) ?_
    refine V_goto F (tgt := 24) dX0_roundsOf_19 (by decide) ?_
    exact V_iret F dX0_roundsOf_24 (⟨rfl, hM', hW'⟩)
theorem c_attackWith {rel p q k : Nat} (hI : XInv T n μ) (hp : p < n) (hq : q < n) (hrel : rel < 3) (h7p : T 7 p = 0) (h7q : T 7 q = 0) (hk : k < 3) (hmin : ∀ j, j < k → sid T rel j p q [] = false) : Ct (GS g) l (21) yX0_attackWith cX0_attackWith 11 (some .int) [.ref (g.1 2), .int (nI rel), .int (nI p), .int (nI q), .int (nI (k + 1))] μ (XQ T n μ (atI (atkF T rel k p q))) := by
  have hn := hI.1.n24
  have hW := hI.1.1
  refine Ct.of (own := RX0) mi_X0_attackWith rfl [some (.ref (g.1 2)), some (.int (nI rel)), some (.int (nI p)), some (.int (nI q)), some (.int (nI (k + 1))), none, none, none, none, none, none] (Nat.le_of_ble_eq_true rfl) rfl (fun p₀ e₀ s₀ m₀ b₀ h₀ c₀ F => ?_)
  have loop : ∀ (d i m : Nat) (ν : Mem), i + d = 3 → m ≤ i → atkF T rel k p q = atkL T rel k q m (rstS T p d i) → Memo T n ν → sameW μ ν →
      V (GS g) p₀ l e₀ (rmD (21)) s₀ m₀ (List.toArray [.ref (g.1 2), .int (nI rel), .int (nI p), .int (nI q), .int (nI (k + 1))]) b₀ h₀ c₀ 11 0 0 (MQ b₀ (Qp (GS g) (XQ T n μ (atI (atkF T rel k p q)))) (List.toArray [.ref (g.1 2), .int (nI rel), .int (nI p), .int (nI q), .int (nI (k + 1))]) s₀ 0 0 (gA (GS g))) 9 ([some (.ref (g.1 2)), some (.int (nI rel)), some (.int (nI p)), some (.int (nI q)), some (.int (nI (k + 1))), some (.int (nI 1)), some (.int (nI m)), some (.int (nI i)), none, none, none]) ([]) (ν) := by
    intro d
    induction d with
    | zero =>
      intro i m ν hi hm hres hM hS
      refine V_iload F dX0_attackWith_9 rfl ?_
      refine V_iconst F (v := nI 3) dX0_attackWith_11 (by decide) ?_
      refine V_icmp_ge_N F (tgt := 105) dX0_attackWith_12 (by decide) (by omega) (by omega) (fun hc => ?_) (fun hc => ?_)
      · skip
        refine V_bipush F (v := (-4)) dX0_attackWith_105 (by decide) ?_
        exact V_iret F dX0_attackWith_107 (⟨by rw [hres]; rfl, hM, hS⟩)
      · omega
    | succ d ih =>
      intro i m ν hi hm hres hM hS
      have hIν := hI.of_W hS hM
      refine V_iload F dX0_attackWith_9 rfl ?_
      refine V_iconst F (v := nI 3) dX0_attackWith_11 (by decide) ?_
      refine V_icmp_ge_N F (tgt := 105) dX0_attackWith_12 (by decide) (by omega) (by omega) (fun hc => ?_) (fun hc => ?_)
      · omega
      · skip
        refine V_aload_n F dX0_attackWith_15 rfl ?_
        refine V_getf F (q0 := 2) (j := 0) lk_X0_9 dX0_attackWith_16 ig_X0 rfl rfl (by decide) rfl rfl ?_
        refine V_iload_n F dX0_attackWith_19 rfl ?_
        refine V_iload F dX0_attackWith_20 rfl ?_
        refine V_iload F dX0_attackWith_22 rfl ?_
        refine V_callVNi F (q0 := 1) (c_actionIn (r := []) hIν.1 hp (show i < 3 by omega) trivial (by simp) (by simp [h7p])) mi_X2_actionIn mm_X2_actionIn nk_X0_41 dX0_attackWith_24 (rmR (by omega)) rfl rfl (by decide) (Nat.le_of_ble_eq_true rfl) rfl rfl rfl ?_
        refine V_istore F (lv' := [_, _, _, _, _, _, _, _, _, _, _]) dX0_attackWith_27 (by decide) rfl rfl ?_
        refine V_iload F dX0_attackWith_29 rfl ?_
        refine V_bipush F (v := (-4)) dX0_attackWith_31 (by decide) ?_
        cases hs : slA T p [] i with
        | none =>
          rw [show rstS T p (d + 1) i = rstS T p d (i + 1) by simp [rstS, hs]] at hres
          refine V_icmp_eq_t F (tgt := 99) dX0_attackWith_33 (by decide) (rfl) ?_
          refine V_iinc F (lv' := [_, _, _, _, _, _, _, _, _, _, _]) dX0_attackWith_99 rfl (by decide) rfl rfl ?_
          refine V_goto F (tgt := 9) dX0_attackWith_102 (by decide) ?_
          rw [show nI i + Int32.ofInt 1 = nI (i + 1) from nI_1 i]
          refine V_msk [true, true, true, true, true, true, true, true, false, false, false] (lv' := [_, _, _, _, _, _, _, _, _, _, _]) rfl ?_
          exact ih (i + 1) m ν (by omega) (by omega) hres hM hS
        | some a =>
          rw [show rstS T p (d + 1) i = a :: rstS T p d (i + 1) by simp [rstS, hs]] at hres
          have ham := slA_mvs hW hp (show i < 3 by omega) hs
          obtain ⟨han, ha1, ha5, ha7, na1, na2⟩ := mv_ok hW hp ham
          have hla := laC_le (T := T) (r := []) trivial (by simp) rel a
          have hdp := (hW.depth hp).1
          have hdq := (hW.depth hq).1
          refine V_icmp_eq_f F (tgt := 99) dX0_attackWith_33 (by decide) (fun q => by have := (ri_ne (by intro b' hb'; cases hb'; exact slA_lt hW hp _ hs)).mp q; cases this) ?_
          refine V_aload_n F dX0_attackWith_36 rfl ?_
          refine V_iload_n F dX0_attackWith_37 rfl ?_
          refine V_iload F dX0_attackWith_38 rfl ?_
          refine V_iload F dX0_attackWith_40 rfl ?_
          refine V_callVi F (q0 := 2) (c_lastChoice (a := a) (r := []) hIν.1 han hrel trivial (by simp)) mi_X0_lastChoice mm_X0_lastChoice lk_X0_46 dX0_attackWith_42 (rmR (by omega)) rfl rfl (by decide) (Nat.le_of_ble_eq_true rfl) rfl rfl rfl ?_
          refine V_istore F (lv' := [_, _, _, _, _, _, _, _, _, _, _]) dX0_attackWith_45 (by decide) rfl rfl ?_
          refine V_aload_n F dX0_attackWith_47 rfl ?_
          refine V_iload_n F dX0_attackWith_48 rfl ?_
          refine V_iload F dX0_attackWith_49 rfl ?_
          refine V_callVi F (q0 := 2) (c_firstChoice (a := a) hIν.1 han hrel) mi_X0_firstChoice mm_X0_firstChoice lk_X0_49 dX0_attackWith_51 (rmR (by omega)) rfl rfl (by decide) (Nat.le_of_ble_eq_true rfl) rfl rfl rfl ?_
          have inner : ∀ (e nm : Nat) (ν' : Mem), fiC T rel a ≤ nm → nm + e = laC T rel a [] + 1 → (nms T rel a []).find? (fun v => hld T rel k a v q []) = ((List.range e).map (nm + ·)).find? (fun v => hld T rel k a v q []) → Memo T n ν' → sameW μ ν' →
              V (GS g) p₀ l e₀ (rmD (21)) s₀ m₀ (List.toArray [.ref (g.1 2), .int (nI rel), .int (nI p), .int (nI q), .int (nI (k + 1))]) b₀ h₀ c₀ 11 0 0 (MQ b₀ (Qp (GS g) (XQ T n μ (atI (atkF T rel k p q)))) (List.toArray [.ref (g.1 2), .int (nI rel), .int (nI p), .int (nI q), .int (nI (k + 1))]) s₀ 0 0 (gA (GS g))) 56 ([some (.ref (g.1 2)), some (.int (nI rel)), some (.int (nI p)), some (.int (nI q)), some (.int (nI (k + 1))), some (.int (nI 1)), some (.int (nI m)), some (.int (nI i)), some (.int (nI a)), some (.int (nI (laC T rel a []))), some (.int (nI nm))]) ([]) (ν') := by
            intro e
            induction e with
            | zero =>
              intro nm ν' hnm0 hnm1 hf gM gS
              refine V_iload F dX0_attackWith_56 rfl ?_
              refine V_iload F dX0_attackWith_58 rfl ?_
              refine V_icmp_gt_N F (tgt := 96) dX0_attackWith_60 (by decide) (by omega) (by omega) (fun hd => ?_) (fun hd => ?_)
              · skip
                refine V_iinc F (lv' := [_, _, _, _, _, _, _, _, _, _, _]) dX0_attackWith_96 rfl (by decide) rfl rfl ?_
                refine V_iinc F (lv' := [_, _, _, _, _, _, _, _, _, _, _]) dX0_attackWith_99 rfl (by decide) rfl rfl ?_
                refine V_goto F (tgt := 9) dX0_attackWith_102 (by decide) ?_
                rw [show nI i + Int32.ofInt 1 = nI (i + 1) from nI_1 i, show nI m + Int32.ofInt 1 = nI (m + 1) from nI_1 m]
                refine V_msk [true, true, true, true, true, true, true, true, false, false, false] (lv' := [_, _, _, _, _, _, _, _, _, _, _]) rfl ?_
                refine ih (i + 1) (m + 1) ν' (by omega) (by omega) ?_ gM gS
                rw [hres, atkL, hf]
                rfl
              · omega
            | succ e ihe =>
              intro nm ν' hnm0 hnm1 hf gM gS
              have hIν' := hI.of_W gS gM
              have hmem : nm ∈ nms T rel a [] := by
                rw [nms_eq]
                exact List.mem_map.mpr ⟨nm - fiC T rel a, List.mem_range.mpr (by omega), by omega⟩
              rw [range_map_succ, List.find?_cons] at hf
              refine V_iload F dX0_attackWith_56 rfl ?_
              refine V_iload F dX0_attackWith_58 rfl ?_
              refine V_icmp_gt_N F (tgt := 96) dX0_attackWith_60 (by decide) (by omega) (by omega) (fun hd => ?_) (fun hd => ?_)
              · omega
              · skip
                refine V_aload_n F dX0_attackWith_63 rfl ?_
                refine V_iload_n F dX0_attackWith_64 rfl ?_
                refine V_iload F dX0_attackWith_65 rfl ?_
                refine V_iload F dX0_attackWith_67 rfl ?_
                refine V_iload_n F dX0_attackWith_69 rfl ?_
                refine V_iload F dX0_attackWith_70 rfl ?_
                refine V_iconst F (v := nI 3) dX0_attackWith_72 (by decide) ?_
                refine V_callV F (q0 := 2) (c_attackWorth (k := 2) (rel := rel) (a := a) (nm := nm) (q := q) (r := []) (c_worth 2) hIν' hrel han hq ha1 trivial (by simp) (by omega) (by omega) (by omega) (by omega) hmem) mi_X0_attackWorth mm_X0_attackWorth lk_X0_53 dX0_attackWith_73 (rmR (by omega)) rfl rfl (by decide) (Nat.le_of_ble_eq_true rfl) rfl rfl rfl (fun r μ' h => ?_)
                obtain ⟨v, rfl, hv4, hSp, hM', hS'⟩ := h
                have hvk : v = k + 1 ↔ hld T rel k a nm q [] = true := by
                  have e1 : v ≤ k + 1 ↔ hld T rel k a nm q [] = true := hSp.2 (k + 1) (by omega)
                  rw [← e1]
                  have e2 : ¬ v ≤ k := by
                    intro z
                    have z2 := (hSp.2 k (by omega)).mp z
                    cases k with
                    | zero => cases z2
                    | succ j =>
                      have z3 : hld T rel j a nm q [] = true := z2
                      have z4 := hmin j (by omega)
                      have z5 : sid T rel j p q [] = true := by
                        unfold sid
                        exact List.any_eq_true.mpr ⟨a, ham, List.any_eq_true.mpr ⟨nm, hmem, z3⟩⟩
                      rw [z4] at z5
                      cases z5
                  omega
                refine V_iload F dX0_attackWith_76 rfl ?_
                refine V_icmp_ne_N F (tgt := 90) dX0_attackWith_78 (by decide) (by omega) (by omega) (fun hx => ?_) (fun hx => ?_)
                · skip
                  refine V_iinc F (lv' := [_, _, _, _, _, _, _, _, _, _, _]) dX0_attackWith_90 rfl (by decide) rfl rfl ?_
                  refine V_goto F (tgt := 56) dX0_attackWith_93 (by decide) ?_
                  rw [show nI nm + Int32.ofInt 1 = nI (nm + 1) from nI_1 nm]
                  refine ihe (nm + 1) _ (by omega) (by omega) ?_ hM' (gS.trans hS')
                  rw [hf]
                  have : hld T rel k a nm q [] = false := by rw [← Bool.not_eq_true]; exact fun z => hx (hvk.mpr z)
                  rw [this]
                · skip
                  refine V_bipush F (v := nI 10) dX0_attackWith_81 (by decide) ?_
                  refine V_iload F dX0_attackWith_83 rfl ?_
                  (first | refine V_imulN F dX0_attackWith_85 ?_ | refine V_imul F dX0_attackWith_85 ?_)
                  refine V_iload F dX0_attackWith_86 rfl ?_
                  (first | refine V_iaddN F dX0_attackWith_88 ?_ | refine V_iadd F dX0_attackWith_88 ?_)
                  refine V_iret F dX0_attackWith_89 ⟨?_, hM', gS.trans hS'⟩
                  rw [hres, atkL, hf, hvk.mp (Classical.not_not.mp hx)]
                  rfl
          refine V_istore F (lv' := [_, _, _, _, _, _, _, _, _, _, _]) dX0_attackWith_54 (by decide) rfl rfl ?_
          refine inner (laC T rel a [] + 1 - fiC T rel a) (fiC T rel a) ν (Nat.le_refl _) (by omega) ?_ hM hS
          rw [nms_eq]
  refine V_iconst F (v := nI 1) dX0_attackWith_0 (by decide) ?_
  refine V_istore F (lv' := [_, _, _, _, _, _, _, _, _, _, _]) dX0_attackWith_1 (by decide) rfl rfl ?_
  refine V_iconst F (v := nI 0) dX0_attackWith_3 (by decide) ?_
  refine V_istore F (lv' := [_, _, _, _, _, _, _, _, _, _, _]) dX0_attackWith_4 (by decide) rfl rfl ?_
  refine V_iconst F (v := nI 0) dX0_attackWith_6 (by decide) ?_
  refine V_istore F (lv' := [_, _, _, _, _, _, _, _, _, _, _]) dX0_attackWith_7 (by decide) rfl rfl ?_
  exact loop 3 0 0 μ rfl (Nat.le_refl _) (by rw [atkF, mvs_rst hW hp]) hI.2 (sameW.rfl' μ)
theorem sid_min {rel p q k : Nat} (hk : rnd T rel p q = k + 1) (hk4 : k < 3) : (∀ j, j < k → sid T rel j p q [] = false) ∧ ∀ j, j < k → sid T rel j q p [] = false := by
  have key : ∀ j, j < k → win T rel (j + 1) p q [] = false := by
    intro j hj
    rw [← Bool.not_eq_true]
    intro z
    have := ((rnd_Sp (T := T) rel p q).2 (j + 1) (by omega)).mpr z
    omega
  constructor
  · intro j hj
    have := key j hj
    rw [win_eq, Bool.or_eq_false_iff] at this
    exact this.1
  · intro j hj
    have := key j hj
    rw [win_eq, Bool.or_eq_false_iff] at this
    exact this.2
theorem atkL_lt {rel k q : Nat} : ∀ (as : List Nat) (m x : Nat), atkL T rel k q m as = some x → x ≤ 10 * (m + as.length) + 12 := by
  intro as
  induction as with
  | nil => intro m x h; cases h
  | cons a as ih =>
    intro m x h
    unfold atkL at h
    split at h
    · rename_i v hv
      cases h
      have hm := List.mem_of_find?_eq_some hv
      rw [nms_eq] at hm
      obtain ⟨z, hz, rfl⟩ := List.mem_map.mp hm
      have := List.mem_range.mp hz
      have := laC_le (T := T) (r := []) trivial (by simp) rel a
      simp only [List.length_cons]
      omega
    · have := ih (m + 1) x h
      simp only [List.length_cons]
      omega
theorem atkF_lt (hW : WF T n) {rel k p q x : Nat} (hp : p < n) (h : atkF T rel k p q = some x) : x ≤ 42 := by
  have h1 := atkL_lt _ _ _ h
  have h2 : (mvs T p []).length ≤ 3 := by
    rw [mvs_eq hW hp]
    exact Nat.le_trans (List.length_filterMap_le _ _) (by simp)
  omega
theorem c_attackOf {rel p q : Nat} (hI : XInv T n μ) (hp : p < n) (hq : q < n) (hrel : rel < 3) (h7p : T 7 p = 0) (h7q : T 7 q = 0) : Ct (GS g) l (22) yX0_attackOf cX0_attackOf 7 (some .int) [.ref (g.1 2), .int (nI p), .int (nI q), .int (nI rel)] μ (XQ T n μ (atkR T rel p q)) := by
  have hW := hI.1.1
  have hr := rnd_le (T := T) rel p q
  refine Ct.of (own := RX0) mi_X0_attackOf rfl [some (.ref (g.1 2)), some (.int (nI p)), some (.int (nI q)), some (.int (nI rel)), none, none, none] (Nat.le_of_ble_eq_true rfl) rfl (fun p₀ e₀ s₀ m₀ b₀ h₀ c₀ F => ?_)
  refine V_aload_n F dX0_attackOf_0 rfl ?_
  refine V_iload_n F dX0_attackOf_1 rfl ?_
  refine V_iload_n F dX0_attackOf_2 rfl ?_
  refine V_iload_n F dX0_attackOf_3 rfl ?_
  refine V_callV F (q0 := 2) (c_roundsOf hI hp hq hrel h7p h7q) mi_X0_roundsOf mm_X0_roundsOf lk_X0_33 dX0_attackOf_4 (rmR (by omega)) rfl rfl (by decide) (Nat.le_of_ble_eq_true rfl) rfl rfl rfl (fun r μ' h => ?_)
  obtain ⟨rfl, hM1, hS1⟩ := h
  unfold atkR rdI
  refine V_istore F (lv' := [_, _, _, _, _, _, _]) dX0_attackOf_7 (by decide) rfl rfl ?_
  refine V_iload F dX0_attackOf_9 rfl ?_
  refine V_bipush F (v := (-4)) dX0_attackOf_11 (by decide) ?_
  by_cases h4 : rnd T rel p q = 4
  · rw [if_pos h4, if_pos h4]
    refine V_icmp_ne_f F (tgt := 19) dX0_attackOf_13 (by decide) (by decide) ?_
    refine V_bipush F (v := (-4)) dX0_attackOf_16 (by decide) ?_
    exact V_iret F dX0_attackOf_18 (⟨rfl, hM1, hS1⟩)
  · rw [if_neg h4, if_neg h4]
    obtain ⟨k, hk⟩ : ∃ k, rnd T rel p q = k + 1 := ⟨rnd T rel p q - 1, by omega⟩
    obtain ⟨hm1, hm2⟩ := sid_min hk (by omega)
    rw [hk, Nat.add_sub_cancel]
    refine V_icmp_ne_t F (tgt := 19) dX0_attackOf_13 (by decide) (fun z => by have : ∀ k, k < 4 → ¬ nI k = -4 := by { decide +kernel }; exact this (k + 1) (by omega) z) ?_
    refine V_aload_n F dX0_attackOf_19 rfl ?_
    refine V_iload_n F dX0_attackOf_20 rfl ?_
    refine V_iload_n F dX0_attackOf_21 rfl ?_
    refine V_iload_n F dX0_attackOf_22 rfl ?_
    refine V_iload F dX0_attackOf_23 rfl ?_
    refine V_callV F (q0 := 2) (c_attackWith (k := k) (hI.of_W hS1 hM1) hp hq hrel h7p h7q (by omega) hm1) mi_X0_attackWith mm_X0_attackWith lk_X0_37 dX0_attackOf_25 (rmR (by omega)) rfl rfl (by decide) (Nat.le_of_ble_eq_true rfl) rfl rfl rfl (fun r μ' h => ?_)
    obtain ⟨rfl, hM2, hS2⟩ := h
    refine V_istore F (lv' := [_, _, _, _, _, _, _]) dX0_attackOf_28 (by decide) rfl rfl ?_
    refine V_iload F dX0_attackOf_30 rfl ?_
    cases hf : atkF T rel k p q with
    | some x =>
      have hx := atkF_lt hW hp hf
      refine V_if_lt_f F (tgt := 38) dX0_attackOf_32 (by decide) (nI_nn (by omega)) ?_
      refine V_iload F dX0_attackOf_35 rfl ?_
      exact V_iret F dX0_attackOf_37 (⟨rfl, hM2, hS1.trans hS2⟩)
    | none =>
      refine V_if_lt_t F (tgt := 38) dX0_attackOf_32 (by decide) (by decide) ?_
      refine V_aload_n F dX0_attackOf_38 rfl ?_
      refine V_iload_n F dX0_attackOf_39 rfl ?_
      refine V_iload_n F dX0_attackOf_40 rfl ?_
      refine V_iload_n F dX0_attackOf_41 rfl ?_
      refine V_iload F dX0_attackOf_42 rfl ?_
      refine V_callV F (q0 := 2) (c_attackWith (k := k) (hI.of_W (hS1.trans hS2) hM2) hq hp hrel h7q h7p (by omega) hm2) mi_X0_attackWith mm_X0_attackWith lk_X0_37 dX0_attackOf_44 (rmR (by omega)) rfl rfl (by decide) (Nat.le_of_ble_eq_true rfl) rfl rfl rfl (fun r μ' h => ?_)
      obtain ⟨rfl, hM3, hS3⟩ := h
      refine V_istore F (lv' := [_, _, _, _, _, _, _]) dX0_attackOf_47 (by decide) rfl rfl ?_
      refine V_iload F dX0_attackOf_49 rfl ?_
      cases hf2 : atkF T rel k q p with
      | some x =>
        have hx := atkF_lt hW hq hf2
        refine V_if_lt_f F (tgt := 63) dX0_attackOf_51 (by decide) (nI_nn (by omega)) ?_
        refine V_sipush F (v := nI 1000) dX0_attackOf_54 (by decide) ?_
        refine V_iload F dX0_attackOf_57 rfl ?_
        (first | refine V_iaddN F dX0_attackOf_59 ?_ | refine V_iadd F dX0_attackOf_59 ?_)
        refine V_goto F (tgt := 65) dX0_attackOf_60 (by decide) ?_
        exact V_iret F dX0_attackOf_65 (⟨rfl, hM3, (hS1.trans hS2).trans hS3⟩)
      | none =>
        refine V_if_lt_t F (tgt := 63) dX0_attackOf_51 (by decide) (by decide) ?_
        refine V_bipush F (v := (-4)) dX0_attackOf_63 (by decide) ?_
        exact V_iret F dX0_attackOf_65 (⟨rfl, hM3, (hS1.trans hS2).trans hS3⟩)
theorem c_errorOfPair (hX : XRep T n μ) (p q rel : Int32) : Ct (GS g) l (2) yX3_errorOfPair cX3_errorOfPair 4 (some .int) [.ref (g.1 0), .int p, .int q, .int rel] μ (Is (.int (rPair (fun _ _ _ => nI 0) T n p q rel)) μ) := by
  have hn := hX.n24
  refine Ct.of (own := RX3) mi_X3_errorOfPair rfl [some (.ref (g.1 0)), some (.int p), some (.int q), some (.int rel)] (Nat.le_of_ble_eq_true rfl) rfl (fun p₀ e₀ s₀ m₀ b₀ h₀ c₀ F => ?_)
  refine V_aload_n F dX3_errorOfPair_0 rfl ?_
  refine V_getf F (q0 := 0) (j := 0) lk_X3_10 dX3_errorOfPair_1 ig_X3 rfl rfl (by decide) rfl rfl ?_
  refine V_iload_n F dX3_errorOfPair_4 rfl ?_
  cases h1 : pj n p with
  | none =>
    have e : rPair (fun _ _ _ => nI 0) T n p q rel = -1 := by unfold rPair; rw [h1]
    rw [e]
    refine V_callVNi F (q0 := 1) (c_holds_f hX.2.1 (by omega) (pj_none h1 (by omega))) mi_X2_holds mm_X2_holds nk_X3_25 dX3_errorOfPair_5 (rmR (by omega)) rfl rfl (by decide) (Nat.le_of_ble_eq_true rfl) rfl rfl rfl ?_
    refine V_if_eq_t F (tgt := 29) dX3_errorOfPair_8 (by decide) (by decide) ?_
    refine V_iconst F (v := (-1)) dX3_errorOfPair_29 (by decide) ?_
    exact V_iret F dX3_errorOfPair_30 (⟨rfl, rfl⟩)
  | some i =>
    obtain ⟨hi, rfl⟩ := pj_some h1 (by omega)
    refine V_callVNi F (q0 := 1) (c_holds_t hX.2.1 (by omega) hi) mi_X2_holds mm_X2_holds nk_X3_25 dX3_errorOfPair_5 (rmR (by omega)) rfl rfl (by decide) (Nat.le_of_ble_eq_true rfl) rfl rfl rfl ?_
    refine V_if_eq_f F (tgt := 29) dX3_errorOfPair_8 (by decide) (by decide) ?_
    refine V_aload_n F dX3_errorOfPair_11 rfl ?_
    refine V_getf F (q0 := 0) (j := 0) lk_X3_10 dX3_errorOfPair_12 ig_X3 rfl rfl (by decide) rfl rfl ?_
    refine V_iload_n F dX3_errorOfPair_15 rfl ?_
    cases h2 : pj n q with
    | none =>
      have e : rPair (fun _ _ _ => nI 0) T n (nI i) q rel = -1 := by unfold rPair; rw [h1]; simp only [h2]
      rw [e]
      refine V_callVNi F (q0 := 1) (c_holds_f hX.2.1 (by omega) (pj_none h2 (by omega))) mi_X2_holds mm_X2_holds nk_X3_25 dX3_errorOfPair_16 (rmR (by omega)) rfl rfl (by decide) (Nat.le_of_ble_eq_true rfl) rfl rfl rfl ?_
      refine V_if_eq_t F (tgt := 29) dX3_errorOfPair_19 (by decide) (by decide) ?_
      refine V_iconst F (v := (-1)) dX3_errorOfPair_29 (by decide) ?_
      exact V_iret F dX3_errorOfPair_30 (⟨rfl, rfl⟩)
    | some j =>
      obtain ⟨hj, rfl⟩ := pj_some h2 (by omega)
      refine V_callVNi F (q0 := 1) (c_holds_t hX.2.1 (by omega) hj) mi_X2_holds mm_X2_holds nk_X3_25 dX3_errorOfPair_16 (rmR (by omega)) rfl rfl (by decide) (Nat.le_of_ble_eq_true rfl) rfl rfl rfl ?_
      refine V_if_eq_f F (tgt := 29) dX3_errorOfPair_19 (by decide) (by decide) ?_
      refine V_iload_n F dX3_errorOfPair_22 rfl ?_
      cases h3 : pj 3 rel with
      | none =>
        have e : rPair (fun _ _ _ => nI 0) T n (nI i) (nI j) rel = -1 := by unfold rPair; rw [h1]; simp only [h2, h3]
        rw [e]
        refine V_callSi F (c_isRel_f (pj_none h3 (by omega))) mi_X3_isRelation ms_X3_isRelation lk_X3_103 dX3_errorOfPair_23 (rmR (by omega)) rfl rfl (by decide) (Nat.le_of_ble_eq_true rfl) ?_
        refine V_if_ne_f F (tgt := 31) dX3_errorOfPair_26 (by decide) (by decide) ?_
        refine V_iconst F (v := (-1)) dX3_errorOfPair_29 (by decide) ?_
        exact V_iret F dX3_errorOfPair_30 (⟨rfl, rfl⟩)
      | some k =>
        obtain ⟨hk, rfl⟩ := pj_some h3 (by omega)
        have e : rPair (fun _ _ _ => nI 0) T n (nI i) (nI j) (nI k) = if T 7 i = 0 ∧ T 7 j = 0 then nI 0 else -2 := by unfold rPair; rw [h1]; simp only [h2, h3]
        rw [e]
        have n1 := hX.1.need hi
        have n2 := hX.1.need hj
        refine V_callSi F (c_isRel_t hk) mi_X3_isRelation ms_X3_isRelation lk_X3_103 dX3_errorOfPair_23 (rmR (by omega)) rfl rfl (by decide) (Nat.le_of_ble_eq_true rfl) ?_
        refine V_if_ne_t F (tgt := 31) dX3_errorOfPair_26 (by decide) (by decide) ?_
        refine V_aload_n F dX3_errorOfPair_31 rfl ?_
        refine V_getf F (q0 := 0) (j := 0) lk_X3_10 dX3_errorOfPair_32 ig_X3 rfl rfl (by decide) rfl rfl ?_
        refine V_iload_n F dX3_errorOfPair_35 rfl ?_
        refine V_callVNi F (q0 := 1) (c_isClosed (d := T 7 i) (by omega) (hX.fld 7 rfl (by omega) hi) (by omega)) mi_X2_isClosed mm_X2_isClosed nk_X3_75 dX3_errorOfPair_36 (rmR (by omega)) rfl rfl (by decide) (Nat.le_of_ble_eq_true rfl) rfl rfl rfl ?_
        by_cases z1 : T 7 i = 0
        · rw [if_pos z1]
          refine V_if_eq_f F (tgt := 57) dX3_errorOfPair_39 (by decide) (by decide) ?_
          refine V_aload_n F dX3_errorOfPair_42 rfl ?_
          refine V_getf F (q0 := 0) (j := 0) lk_X3_10 dX3_errorOfPair_43 ig_X3 rfl rfl (by decide) rfl rfl ?_
          refine V_iload_n F dX3_errorOfPair_46 rfl ?_
          refine V_callVNi F (q0 := 1) (c_isClosed (d := T 7 j) (by omega) (hX.fld 7 rfl (by omega) hj) (by omega)) mi_X2_isClosed mm_X2_isClosed nk_X3_75 dX3_errorOfPair_47 (rmR (by omega)) rfl rfl (by decide) (Nat.le_of_ble_eq_true rfl) rfl rfl rfl ?_
          by_cases z2 : T 7 j = 0
          · rw [if_pos z2, if_pos ⟨z1, z2⟩]
            refine V_if_eq_f F (tgt := 57) dX3_errorOfPair_50 (by decide) (by decide) ?_
            refine V_iconst F (v := nI 0) dX3_errorOfPair_53 (by decide) ?_
            refine V_goto F (tgt := 59) dX3_errorOfPair_54 (by decide) ?_
            exact V_iret F dX3_errorOfPair_59 (⟨rfl, rfl⟩)
          · rw [if_neg z2, if_neg (fun z => z2 z.2)]
            refine V_if_eq_t F (tgt := 57) dX3_errorOfPair_50 (by decide) (by decide) ?_
            refine V_bipush F (v := (-2)) dX3_errorOfPair_57 (by decide) ?_
            exact V_iret F dX3_errorOfPair_59 (⟨rfl, rfl⟩)
        · rw [if_neg z1, if_neg (fun z => z1 z.1)]
          refine V_if_eq_t F (tgt := 57) dX3_errorOfPair_39 (by decide) (by decide) ?_
          refine V_bipush F (v := (-2)) dX3_errorOfPair_57 (by decide) ?_
          exact V_iret F dX3_errorOfPair_59 (⟨rfl, rfl⟩)
/-- an error, or two closed processes and a relation -/
theorem rPair_cases (f : Nat → Nat → Nat → Int32) (T : Tb) (hn : n < 2 ^ 31) (p q rel : Int32) : (rPair (fun _ _ _ => nI 0) T n p q rel < 0 ∧ rPair f T n p q rel = rPair (fun _ _ _ => nI 0) T n p q rel) ∨
    ∃ i j k, i < n ∧ j < n ∧ k < 3 ∧ p = nI i ∧ q = nI j ∧ rel = nI k ∧ T 7 i = 0 ∧ T 7 j = 0 ∧ rPair (fun _ _ _ => nI 0) T n p q rel = nI 0 ∧ rPair f T n p q rel = f i j k := by
  unfold rPair
  cases h1 : pj n p with
  | none => exact Or.inl ⟨(by decide : (-1 : Int32) < 0), rfl⟩
  | some i =>
    obtain ⟨hi, e1⟩ := pj_some h1 hn
    simp only
    cases h2 : pj n q with
    | none => exact Or.inl ⟨(by decide : (-1 : Int32) < 0), rfl⟩
    | some j =>
      obtain ⟨hj, e2⟩ := pj_some h2 hn
      simp only
      cases h3 : pj 3 rel with
      | none => exact Or.inl ⟨(by decide : (-1 : Int32) < 0), rfl⟩
      | some k =>
        obtain ⟨hk, e3⟩ := pj_some h3 (by omega)
        simp only
        by_cases hz : T 7 i = 0 ∧ T 7 j = 0
        · rw [if_pos hz, if_pos hz]
          exact Or.inr ⟨i, j, k, hi, hj, hk, e1, e2, e3, hz.1, hz.2, rfl, rfl⟩
        · rw [if_neg hz, if_neg hz]
          exact Or.inl ⟨(by decide : (-2 : Int32) < 0), rfl⟩
def fRel (T : Tb) (i j k : Nat) : Int32 := if rnd T k i j = 4 then nI 1 else nI 0
def fRnd (T : Tb) (i j k : Nat) : Int32 := rdI T k i j
def fAtk (T : Tb) (i j k : Nat) : Int32 := atkR T k i j
def fRep (T : Tb) (i _j k : Nat) : Int32 := nI (lows T k i)
theorem c_areRelated (hI : XInv T n μ) (p q rel : Int32) : Ct (GS g) l (22) yX3_areRelated cX3_areRelated 5 (some .int) [.ref (g.1 0), .int p, .int q, .int rel] μ (XQ T n μ (rPair (fRel T) T n p q rel)) := by
  have hn := hI.1.n24
  refine Ct.of (own := RX3) mi_X3_areRelated rfl [some (.ref (g.1 0)), some (.int p), some (.int q), some (.int rel), none] (Nat.le_of_ble_eq_true rfl) rfl (fun p₀ e₀ s₀ m₀ b₀ h₀ c₀ F => ?_)
  refine V_aload_n F dX3_areRelated_0 rfl ?_
  refine V_iload_n F dX3_areRelated_1 rfl ?_
  refine V_iload_n F dX3_areRelated_2 rfl ?_
  refine V_iload_n F dX3_areRelated_3 rfl ?_
  refine V_callVi F (q0 := 0) (c_errorOfPair hI.1 p q rel) mi_X3_errorOfPair mm_X3_errorOfPair lk_X3_90 dX3_areRelated_4 (rmR (by omega)) rfl rfl (by decide) (Nat.le_of_ble_eq_true rfl) rfl rfl rfl ?_
  refine V_istore F (lv' := [_, _, _, _, _]) dX3_areRelated_7 (by decide) rfl rfl ?_
  refine V_iload F dX3_areRelated_9 rfl ?_
  rcases rPair_cases (fRel T) T (show n < 2 ^ 31 by omega) p q rel with ⟨h1, h2⟩ | ⟨i, j, k, hi, hj, hk, rfl, rfl, rfl, z1, z2, h1, h2⟩
  · skip
    refine V_if_ge_f F (tgt := 17) dX3_areRelated_11 (by decide) (fun z => Int32.not_lt.mpr z h1) ?_
    refine V_iload F dX3_areRelated_14 rfl ?_
    exact V_iret F dX3_areRelated_16 (⟨by rw [h2], hI.2, sameW.rfl' μ⟩)
  · rw [h1, h2]
    refine V_if_ge_t F (tgt := 17) dX3_areRelated_11 (by decide) (by decide) ?_
    refine V_aload_n F dX3_areRelated_17 rfl ?_
    refine V_getf F (q0 := 0) (j := 1) lk_X3_21 dX3_areRelated_18 ig_X3 rfl rfl (by decide) rfl rfl ?_
    refine V_iload_n F dX3_areRelated_21 rfl ?_
    refine V_iload_n F dX3_areRelated_22 rfl ?_
    refine V_iload_n F dX3_areRelated_23 rfl ?_
    refine V_callVN F (q0 := 2) (c_roundsOf hI hi hj hk z1 z2) mi_X0_roundsOf mm_X0_roundsOf nk_X3_94 dX3_areRelated_24 (rmR (by omega)) rfl rfl (by decide) (Nat.le_of_ble_eq_true rfl) rfl rfl rfl (fun r μ' h => ?_)
    obtain ⟨rfl, hM1, hS1⟩ := h
    refine V_bipush F (v := (-4)) dX3_areRelated_27 (by decide) ?_
    have hr := rnd_le (T := T) k i j
    unfold fRel rdI
    by_cases h4 : rnd T k i j = 4
    · rw [if_pos h4, if_pos h4]
      refine V_icmp_ne_f F (tgt := 36) dX3_areRelated_29 (by decide) (by decide) ?_
      refine V_iconst F (v := nI 1) dX3_areRelated_32 (by decide) ?_
      refine V_goto F (tgt := 37) dX3_areRelated_33 (by decide) ?_
      exact V_iret F dX3_areRelated_37 (⟨rfl, hM1, hS1⟩)
    · rw [if_neg h4, if_neg h4]
      refine V_icmp_ne_t F (tgt := 36) dX3_areRelated_29 (by decide) (fun z => by have : ∀ k, k < 4 → ¬ nI k = -4 := by { decide +kernel }; exact this _ (by omega) z) ?_
      refine V_iconst F (v := nI 0) dX3_areRelated_36 (by decide) ?_
      exact V_iret F dX3_areRelated_37 (⟨rfl, hM1, hS1⟩)
theorem c_rounds (hI : XInv T n μ) (p q rel : Int32) : Ct (GS g) l (22) yX3_rounds cX3_rounds 5 (some .int) [.ref (g.1 0), .int p, .int q, .int rel] μ (XQ T n μ (rPair (fRnd T) T n p q rel)) := by
  have hn := hI.1.n24
  refine Ct.of (own := RX3) mi_X3_rounds rfl [some (.ref (g.1 0)), some (.int p), some (.int q), some (.int rel), none] (Nat.le_of_ble_eq_true rfl) rfl (fun p₀ e₀ s₀ m₀ b₀ h₀ c₀ F => ?_)
  refine V_aload_n F dX3_rounds_0 rfl ?_
  refine V_iload_n F dX3_rounds_1 rfl ?_
  refine V_iload_n F dX3_rounds_2 rfl ?_
  refine V_iload_n F dX3_rounds_3 rfl ?_
  refine V_callVi F (q0 := 0) (c_errorOfPair hI.1 p q rel) mi_X3_errorOfPair mm_X3_errorOfPair lk_X3_90 dX3_rounds_4 (rmR (by omega)) rfl rfl (by decide) (Nat.le_of_ble_eq_true rfl) rfl rfl rfl ?_
  refine V_istore F (lv' := [_, _, _, _, _]) dX3_rounds_7 (by decide) rfl rfl ?_
  refine V_iload F dX3_rounds_9 rfl ?_
  rcases rPair_cases (fRnd T) T (show n < 2 ^ 31 by omega) p q rel with ⟨h1, h2⟩ | ⟨i, j, k, hi, hj, hk, rfl, rfl, rfl, z1, z2, h1, h2⟩
  · skip
    refine V_if_ge_f F (tgt := 19) dX3_rounds_11 (by decide) (fun z => Int32.not_lt.mpr z h1) ?_
    refine V_iload F dX3_rounds_14 rfl ?_
    refine V_goto F (tgt := 29) dX3_rounds_16 (by decide) ?_
    exact V_iret F dX3_rounds_29 (⟨by rw [h2], hI.2, sameW.rfl' μ⟩)
  · rw [h1, h2]
    refine V_if_ge_t F (tgt := 19) dX3_rounds_11 (by decide) (by decide) ?_
    refine V_aload_n F dX3_rounds_19 rfl ?_
    refine V_getf F (q0 := 0) (j := 1) lk_X3_21 dX3_rounds_20 ig_X3 rfl rfl (by decide) rfl rfl ?_
    refine V_iload_n F dX3_rounds_23 rfl ?_
    refine V_iload_n F dX3_rounds_24 rfl ?_
    refine V_iload_n F dX3_rounds_25 rfl ?_
    refine V_callVN F (q0 := 2) (c_roundsOf hI hi hj hk z1 z2) mi_X0_roundsOf mm_X0_roundsOf nk_X3_94 dX3_rounds_26 (rmR (by omega)) rfl rfl (by decide) (Nat.le_of_ble_eq_true rfl) rfl rfl rfl (fun r μ' h => ?_)
    obtain ⟨rfl, hM1, hS1⟩ := h
    exact V_iret F dX3_rounds_29 (⟨rfl, hM1, hS1⟩)
theorem c_firstAttack (hI : XInv T n μ) (p q rel : Int32) : Ct (GS g) l (23) yX3_firstAttack cX3_firstAttack 5 (some .int) [.ref (g.1 0), .int p, .int q, .int rel] μ (XQ T n μ (rPair (fAtk T) T n p q rel)) := by
  have hn := hI.1.n24
  refine Ct.of (own := RX3) mi_X3_firstAttack rfl [some (.ref (g.1 0)), some (.int p), some (.int q), some (.int rel), none] (Nat.le_of_ble_eq_true rfl) rfl (fun p₀ e₀ s₀ m₀ b₀ h₀ c₀ F => ?_)
  refine V_aload_n F dX3_firstAttack_0 rfl ?_
  refine V_iload_n F dX3_firstAttack_1 rfl ?_
  refine V_iload_n F dX3_firstAttack_2 rfl ?_
  refine V_iload_n F dX3_firstAttack_3 rfl ?_
  refine V_callVi F (q0 := 0) (c_errorOfPair hI.1 p q rel) mi_X3_errorOfPair mm_X3_errorOfPair lk_X3_90 dX3_firstAttack_4 (rmR (by omega)) rfl rfl (by decide) (Nat.le_of_ble_eq_true rfl) rfl rfl rfl ?_
  refine V_istore F (lv' := [_, _, _, _, _]) dX3_firstAttack_7 (by decide) rfl rfl ?_
  refine V_iload F dX3_firstAttack_9 rfl ?_
  rcases rPair_cases (fAtk T) T (show n < 2 ^ 31 by omega) p q rel with ⟨h1, h2⟩ | ⟨i, j, k, hi, hj, hk, rfl, rfl, rfl, z1, z2, h1, h2⟩
  · skip
    refine V_if_ge_f F (tgt := 19) dX3_firstAttack_11 (by decide) (fun z => Int32.not_lt.mpr z h1) ?_
    refine V_iload F dX3_firstAttack_14 rfl ?_
    refine V_goto F (tgt := 29) dX3_firstAttack_16 (by decide) ?_
    exact V_iret F dX3_firstAttack_29 (⟨by rw [h2], hI.2, sameW.rfl' μ⟩)
  · rw [h1, h2]
    refine V_if_ge_t F (tgt := 19) dX3_firstAttack_11 (by decide) (by decide) ?_
    refine V_aload_n F dX3_firstAttack_19 rfl ?_
    refine V_getf F (q0 := 0) (j := 1) lk_X3_21 dX3_firstAttack_20 ig_X3 rfl rfl (by decide) rfl rfl ?_
    refine V_iload_n F dX3_firstAttack_23 rfl ?_
    refine V_iload_n F dX3_firstAttack_24 rfl ?_
    refine V_iload_n F dX3_firstAttack_25 rfl ?_
    refine V_callVN F (q0 := 2) (c_attackOf hI hi hj hk z1 z2) mi_X0_attackOf mm_X0_attackOf nk_X3_97 dX3_firstAttack_26 (rmR (by omega)) rfl rfl (by decide) (Nat.le_of_ble_eq_true rfl) rfl rfl rfl (fun r μ' h => ?_)
    obtain ⟨rfl, hM1, hS1⟩ := h
    exact V_iret F dX3_firstAttack_29 (⟨rfl, hM1, hS1⟩)
theorem c_lowest {rel p : Nat} (hI : XInv T n μ) (hp : p < n) (hrel : rel < 3) (h7p : T 7 p = 0) : Ct (GS g) l (22) yX3_lowestRelated cX3_lowestRelated 4 (some .int) [.ref (g.1 0), .int (nI p), .int (nI rel)] μ (XQ T n μ (nI (lows T rel p))) := by
  have hn := hI.1.n24
  have hW := hI.1.1
  refine Ct.of (own := RX3) mi_X3_lowestRelated rfl [some (.ref (g.1 0)), some (.int (nI p)), some (.int (nI rel)), none] (Nat.le_of_ble_eq_true rfl) rfl (fun p₀ e₀ s₀ m₀ b₀ h₀ c₀ F => ?_)
  have loop : ∀ (d q : Nat) (ν : Mem), q + d = p → lows T rel p = (((List.range d).map (q + ·)).find? (fun q => T 7 q == 0 && rnd T rel p q == 4)).getD p → Memo T n ν → sameW μ ν →
      V (GS g) p₀ l e₀ (rmD (22)) s₀ m₀ (List.toArray [.ref (g.1 0), .int (nI p), .int (nI rel)]) b₀ h₀ c₀ 4 0 0 (MQ b₀ (Qp (GS g) (XQ T n μ (nI (lows T rel p)))) (List.toArray [.ref (g.1 0), .int (nI p), .int (nI rel)]) s₀ 0 0 (gA (GS g))) 2 ([some (.ref (g.1 0)), some (.int (nI p)), some (.int (nI rel)), some (.int (nI q))]) ([]) (ν) := by
    intro d
    induction d with
    | zero =>
      intro q ν hq hres hM hS
      refine V_iload_n F dX3_lowestRelated_2 rfl ?_
      refine V_iload_n F dX3_lowestRelated_3 rfl ?_
      refine V_icmp_ge_N F (tgt := 41) dX3_lowestRelated_4 (by decide) (by omega) (by omega) (fun hc => ?_) (fun hc => ?_)
      · skip
        refine V_iload_n F dX3_lowestRelated_41 rfl ?_
        exact V_iret F dX3_lowestRelated_42 (⟨by rw [hres]; rfl, hM, hS⟩)
      · omega
    | succ d ih =>
      intro q ν hq hres hM hS
      have hIν := hI.of_W hS hM
      have n2 := hW.need (show q < n by omega)
      rw [range_map_succ, List.find?_cons] at hres
      have step : (T 7 q == 0 && rnd T rel p q == 4) = false → ∀ ν', Memo T n ν' → sameW μ ν' → V (GS g) p₀ l e₀ (rmD (22)) s₀ m₀ (List.toArray [.ref (g.1 0), .int (nI p), .int (nI rel)]) b₀ h₀ c₀ 4 0 0 (MQ b₀ (Qp (GS g) (XQ T n μ (nI (lows T rel p)))) (List.toArray [.ref (g.1 0), .int (nI p), .int (nI rel)]) s₀ 0 0 (gA (GS g))) 35 ([some (.ref (g.1 0)), some (.int (nI p)), some (.int (nI rel)), some (.int (nI q))]) ([]) (ν') := by
        intro hb ν' hM' hS'
        rw [hb] at hres
        refine V_iinc F (lv' := [_, _, _, _]) dX3_lowestRelated_35 rfl (by decide) rfl rfl ?_
        refine V_goto F (tgt := 2) dX3_lowestRelated_38 (by decide) ?_
        rw [show nI q + Int32.ofInt 1 = nI (q + 1) from nI_1 q]
        exact ih (q + 1) ν' (by omega) hres hM' hS'
      refine V_iload_n F dX3_lowestRelated_2 rfl ?_
      refine V_iload_n F dX3_lowestRelated_3 rfl ?_
      refine V_icmp_ge_N F (tgt := 41) dX3_lowestRelated_4 (by decide) (by omega) (by omega) (fun hc => ?_) (fun hc => ?_)
      · omega
      · skip
        refine V_aload_n F dX3_lowestRelated_7 rfl ?_
        refine V_getf F (q0 := 0) (j := 0) lk_X3_10 dX3_lowestRelated_8 ig_X3 rfl rfl (by decide) rfl rfl ?_
        refine V_iload_n F dX3_lowestRelated_11 rfl ?_
        refine V_callVNi F (q0 := 1) (c_isClosed (d := T 7 q) (show q < 24 by omega) (hIν.1.fld 7 rfl (by omega) (by omega)) (by omega)) mi_X2_isClosed mm_X2_isClosed nk_X3_75 dX3_lowestRelated_12 (rmR (by omega)) rfl rfl (by decide) (Nat.le_of_ble_eq_true rfl) rfl rfl rfl ?_
        by_cases z : T 7 q = 0
        · rw [if_pos z]
          refine V_if_eq_f F (tgt := 35) dX3_lowestRelated_15 (by decide) (by decide) ?_
          refine V_aload_n F dX3_lowestRelated_18 rfl ?_
          refine V_getf F (q0 := 0) (j := 1) lk_X3_21 dX3_lowestRelated_19 ig_X3 rfl rfl (by decide) rfl rfl ?_
          refine V_iload_n F dX3_lowestRelated_22 rfl ?_
          refine V_iload_n F dX3_lowestRelated_23 rfl ?_
          refine V_iload_n F dX3_lowestRelated_24 rfl ?_
          refine V_callVN F (q0 := 2) (c_roundsOf hIν hp (show q < n by omega) hrel h7p z) mi_X0_roundsOf mm_X0_roundsOf nk_X3_94 dX3_lowestRelated_25 (rmR (by omega)) rfl rfl (by decide) (Nat.le_of_ble_eq_true rfl) rfl rfl rfl (fun r μ' h => ?_)
          obtain ⟨rfl, hM1, hS1⟩ := h
          have hr := rnd_le (T := T) rel p q
          refine V_bipush F (v := (-4)) dX3_lowestRelated_28 (by decide) ?_
          unfold rdI
          by_cases h4 : rnd T rel p q = 4
          · rw [if_pos h4]
            refine V_icmp_ne_f F (tgt := 35) dX3_lowestRelated_30 (by decide) (by decide) ?_
            refine V_iload_n F dX3_lowestRelated_33 rfl ?_
            refine V_iret F dX3_lowestRelated_34 ⟨?_, hM1, hS.trans hS1⟩
            rw [hres, z, h4]
            rfl
          · rw [if_neg h4]
            refine V_icmp_ne_t F (tgt := 35) dX3_lowestRelated_30 (by decide) (fun z => by have : ∀ k, k < 4 → ¬ nI k = -4 := by { decide +kernel }; exact this _ (by omega) z) ?_
            exact step (by simp [h4]) _ hM1 (hS.trans hS1)
        · rw [if_neg z]
          refine V_if_eq_t F (tgt := 35) dX3_lowestRelated_15 (by decide) (by decide) ?_
          exact step (by simp [z]) _ hM hS
  refine V_iconst F (v := nI 0) dX3_lowestRelated_0 (by decide) ?_
  refine V_istore_n F (lv' := [_, _, _, _]) dX3_lowestRelated_1 (by decide) rfl rfl ?_
  exact loop p 0 μ (by omega) (by simp [lows]) hI.2 (sameW.rfl' μ)
theorem c_representative (hI : XInv T n μ) (p rel : Int32) : Ct (GS g) l (23) yX3_representative cX3_representative 4 (some .int) [.ref (g.1 0), .int p, .int rel] μ (XQ T n μ (rPair (fRep T) T n p p rel)) := by
  have hn := hI.1.n24
  refine Ct.of (own := RX3) mi_X3_representative rfl [some (.ref (g.1 0)), some (.int p), some (.int rel), none] (Nat.le_of_ble_eq_true rfl) rfl (fun p₀ e₀ s₀ m₀ b₀ h₀ c₀ F => ?_)
  refine V_aload_n F dX3_representative_0 rfl ?_
  refine V_iload_n F dX3_representative_1 rfl ?_
  refine V_iload_n F dX3_representative_2 rfl ?_
  refine V_iload_n F dX3_representative_3 rfl ?_
  refine V_callVi F (q0 := 0) (c_errorOfPair hI.1 p p rel) mi_X3_errorOfPair mm_X3_errorOfPair lk_X3_90 dX3_representative_4 (rmR (by omega)) rfl rfl (by decide) (Nat.le_of_ble_eq_true rfl) rfl rfl rfl ?_
  refine V_istore_n F (lv' := [_, _, _, _]) dX3_representative_7 (by decide) rfl rfl ?_
  refine V_iload_n F dX3_representative_8 rfl ?_
  rcases rPair_cases (fRep T) T (show n < 2 ^ 31 by omega) p p rel with ⟨h1, h2⟩ | ⟨i, j, k, hi, hj, hk, rfl, e2, rfl, z1, z2, h1, h2⟩
  · skip
    refine V_if_ge_f F (tgt := 16) dX3_representative_9 (by decide) (fun z => Int32.not_lt.mpr z h1) ?_
    refine V_iload_n F dX3_representative_12 rfl ?_
    refine V_goto F (tgt := 22) dX3_representative_13 (by decide) ?_
    exact V_iret F dX3_representative_22 (⟨by rw [h2], hI.2, sameW.rfl' μ⟩)
  · rw [h1, h2]
    refine V_if_ge_t F (tgt := 16) dX3_representative_9 (by decide) (by decide) ?_
    refine V_aload_n F dX3_representative_16 rfl ?_
    refine V_iload_n F dX3_representative_17 rfl ?_
    refine V_iload_n F dX3_representative_18 rfl ?_
    refine V_callV F (q0 := 0) (c_lowest hI hi hk z1) mi_X3_lowestRelated mm_X3_lowestRelated lk_X3_100 dX3_representative_19 (rmR (by omega)) rfl rfl (by decide) (Nat.le_of_ble_eq_true rfl) rfl rfl rfl (fun r μ' h => ?_)
    obtain ⟨rfl, hM1, hS1⟩ := h
    exact V_iret F dX3_representative_22 (⟨rfl, hM1, hS1⟩)
theorem lows_le (rel p : Nat) : lows T rel p ≤ p := by
  unfold lows
  cases h : (List.range p).find? (fun q => T 7 q == 0 && rnd T rel p q == 4) with
  | none => exact Nat.le_refl _
  | some q =>
    have := List.mem_range.mp (List.mem_of_find?_eq_some h)
    show q ≤ p
    omega
theorem c_classCount (hI : XInv T n μ) (rel : Int32) : Ct (GS g) l (23) yX3_classCount cX3_classCount 4 (some .int) [.ref (g.1 0), .int rel] μ (XQ T n μ (rCls T n rel)) := by
  have hn := hI.1.n24
  have hW := hI.1.1
  refine Ct.of (own := RX3) mi_X3_classCount rfl [some (.ref (g.1 0)), some (.int rel), none, none] (Nat.le_of_ble_eq_true rfl) rfl (fun p₀ e₀ s₀ m₀ b₀ h₀ c₀ F => ?_)
  refine V_iload_n F dX3_classCount_0 rfl ?_
  cases h1 : pj 3 rel with
  | none =>
    have e0 : rCls T n rel = -1 := by unfold rCls; rw [h1]
    rw [e0]
    refine V_callSi F (c_isRel_f (pj_none h1 (by omega))) mi_X3_isRelation ms_X3_isRelation lk_X3_103 dX3_classCount_1 (rmR (by omega)) rfl rfl (by decide) (Nat.le_of_ble_eq_true rfl) ?_
    refine V_if_ne_f F (tgt := 9) dX3_classCount_4 (by decide) (by decide) ?_
    refine V_iconst F (v := (-1)) dX3_classCount_7 (by decide) ?_
    exact V_iret F dX3_classCount_8 (⟨rfl, hI.2, sameW.rfl' μ⟩)
  | some k =>
    obtain ⟨hk, rfl⟩ := pj_some h1 (by omega)
    have e0 : rCls T n (nI k) = nI (cls T n k) := by unfold rCls; rw [h1]
    rw [e0]
    refine V_callSi F (c_isRel_t hk) mi_X3_isRelation ms_X3_isRelation lk_X3_103 dX3_classCount_1 (rmR (by omega)) rfl rfl (by decide) (Nat.le_of_ble_eq_true rfl) ?_
    refine V_if_ne_t F (tgt := 9) dX3_classCount_4 (by decide) (by decide) ?_
    have loop : ∀ (d p cnt : Nat) (ν : Mem), p + d = n → cnt ≤ p → cnt = ((List.range p).filter (fun p => T 7 p == 0 && lows T k p == p)).length → Memo T n ν → sameW μ ν →
        V (GS g) p₀ l e₀ (rmD (23)) s₀ m₀ (List.toArray [.ref (g.1 0), .int (nI k)]) b₀ h₀ c₀ 4 0 0 (MQ b₀ (Qp (GS g) (XQ T n μ (nI (cls T n k)))) (List.toArray [.ref (g.1 0), .int (nI k)]) s₀ 0 0 (gA (GS g))) 13 ([some (.ref (g.1 0)), some (.int (nI k)), some (.int (nI cnt)), some (.int (nI p))]) ([]) (ν) := by
      intro d
      induction d with
      | zero =>
        intro p cnt ν hp hle hcnt hM hS
        have hIν := hI.of_W hS hM
        refine V_iload_n F dX3_classCount_13 rfl ?_
        refine V_aload_n F dX3_classCount_14 rfl ?_
        refine V_getf F (q0 := 0) (j := 0) lk_X3_10 dX3_classCount_15 ig_X3 rfl rfl (by decide) rfl rfl ?_
        refine V_getN F (q0 := 1) (j := 0) nk_X3_36 dX3_classCount_18 ig_X2 rfl rfl (by decide) rfl rfl ?_
        refine V_val F (hIν.1.2.1) ?_
        refine V_icmp_ge_N F (tgt := 54) dX3_classCount_21 (by decide) (by omega) (by omega) (fun hc => ?_) (fun hc => ?_)
        · skip
          refine V_iload_n F dX3_classCount_54 rfl ?_
          exact V_iret F dX3_classCount_55 (⟨by rw [hcnt, show p = n by omega]; rfl, hM, hS⟩)
        · omega
      | succ d ih =>
        intro p cnt ν hp hle hcnt hM hS
        have hIν := hI.of_W hS hM
        have n2 := hW.need (show p < n by omega)
        have e : (List.range (p + 1)).filter (fun p => T 7 p == 0 && lows T k p == p) = (List.range p).filter (fun p => T 7 p == 0 && lows T k p == p) ++ (if (T 7 p == 0 && lows T k p == p) = true then [p] else []) := by
          rw [List.range_succ, List.filter_append]
          congr 1
          simp only [List.filter_cons, List.filter_nil]
        have skip_ : (T 7 p == 0 && lows T k p == p) = false → ∀ ν', Memo T n ν' → sameW μ ν' → V (GS g) p₀ l e₀ (rmD (23)) s₀ m₀ (List.toArray [.ref (g.1 0), .int (nI k)]) b₀ h₀ c₀ 4 0 0 (MQ b₀ (Qp (GS g) (XQ T n μ (nI (cls T n k)))) (List.toArray [.ref (g.1 0), .int (nI k)]) s₀ 0 0 (gA (GS g))) 48 ([some (.ref (g.1 0)), some (.int (nI k)), some (.int (nI cnt)), some (.int (nI p))]) ([]) (ν') := by
          intro hb ν' hM' hS'
          refine V_iinc F (lv' := [_, _, _, _]) dX3_classCount_48 rfl (by decide) rfl rfl ?_
          refine V_goto F (tgt := 13) dX3_classCount_51 (by decide) ?_
          rw [show nI p + Int32.ofInt 1 = nI (p + 1) from nI_1 p]
          refine ih (p + 1) cnt ν' (by omega) (by omega) ?_ hM' hS'
          rw [e, hb, hcnt]
          simp
        refine V_iload_n F dX3_classCount_13 rfl ?_
        refine V_aload_n F dX3_classCount_14 rfl ?_
        refine V_getf F (q0 := 0) (j := 0) lk_X3_10 dX3_classCount_15 ig_X3 rfl rfl (by decide) rfl rfl ?_
        refine V_getN F (q0 := 1) (j := 0) nk_X3_36 dX3_classCount_18 ig_X2 rfl rfl (by decide) rfl rfl ?_
        refine V_val F (hIν.1.2.1) ?_
        refine V_icmp_ge_N F (tgt := 54) dX3_classCount_21 (by decide) (by omega) (by omega) (fun hc => ?_) (fun hc => ?_)
        · omega
        · skip
          refine V_aload_n F dX3_classCount_24 rfl ?_
          refine V_getf F (q0 := 0) (j := 0) lk_X3_10 dX3_classCount_25 ig_X3 rfl rfl (by decide) rfl rfl ?_
          refine V_iload_n F dX3_classCount_28 rfl ?_
          refine V_callVNi F (q0 := 1) (c_isClosed (d := T 7 p) (show p < 24 by omega) (hIν.1.fld 7 rfl (by omega) (by omega)) (by omega)) mi_X2_isClosed mm_X2_isClosed nk_X3_75 dX3_classCount_29 (rmR (by omega)) rfl rfl (by decide) (Nat.le_of_ble_eq_true rfl) rfl rfl rfl ?_
          by_cases z : T 7 p = 0
          · rw [if_pos z]
            refine V_if_eq_f F (tgt := 48) dX3_classCount_32 (by decide) (by decide) ?_
            refine V_aload_n F dX3_classCount_35 rfl ?_
            refine V_iload_n F dX3_classCount_36 rfl ?_
            refine V_iload_n F dX3_classCount_37 rfl ?_
            refine V_callV F (q0 := 0) (c_lowest hIν (show p < n by omega) hk z) mi_X3_lowestRelated mm_X3_lowestRelated lk_X3_100 dX3_classCount_38 (rmR (by omega)) rfl rfl (by decide) (Nat.le_of_ble_eq_true rfl) rfl rfl rfl (fun r μ' h => ?_)
            obtain ⟨rfl, hM1, hS1⟩ := h
            have hlo := lows_le (T := T) k p
            refine V_iload_n F dX3_classCount_41 rfl ?_
            refine V_icmp_ne_N F (tgt := 48) dX3_classCount_42 (by decide) (by omega) (by omega) (fun hx => ?_) (fun hx => ?_)
            · exact skip_ (by simp [hx]) _ hM1 (hS.trans hS1)
            · have hx := Classical.not_not.mp hx
              refine V_iinc F (lv' := [_, _, _, _]) dX3_classCount_45 rfl (by decide) rfl rfl ?_
              refine V_iinc F (lv' := [_, _, _, _]) dX3_classCount_48 rfl (by decide) rfl rfl ?_
              refine V_goto F (tgt := 13) dX3_classCount_51 (by decide) ?_
              rw [show nI p + Int32.ofInt 1 = nI (p + 1) from nI_1 p, show nI cnt + Int32.ofInt 1 = nI (cnt + 1) from nI_1 cnt]
              refine ih (p + 1) (cnt + 1) _ (by omega) (by omega) ?_ hM1 (hS.trans hS1)
              rw [e, hcnt, z, hx]
              simp
          · rw [if_neg z]
            refine V_if_eq_t F (tgt := 48) dX3_classCount_32 (by decide) (by decide) ?_
            exact skip_ (by simp [z]) _ hM hS
    refine V_iconst F (v := nI 0) dX3_classCount_9 (by decide) ?_
    refine V_istore_n F (lv' := [_, _, _, _]) dX3_classCount_10 (by decide) rfl rfl ?_
    refine V_iconst F (v := nI 0) dX3_classCount_11 (by decide) ?_
    refine V_istore_n F (lv' := [_, _, _, _]) dX3_classCount_12 (by decide) rfl rfl ?_
    exact loop n 0 0 μ (by omega) (Nat.le_refl _) rfl hI.2 (sameW.rfl' μ)
end CMP
end
section
section PMATH
variable {T : Tb} {n : Nat}
/-- a move of the other state answers itself -/
theorem hld_self (rel k v : Nat) {a q : Nat} {l : List Nat} (ha : a ∈ mvs T q l) : hld T rel k a v q l = false := by
  unfold hld
  rw [List.all_eq_false]
  refine ⟨a, ha, ?_⟩
  rw [agr_refl]
  simp only [flw, Bool.not_true, Bool.false_or, Bool.not_eq_true, List.any_eq_false]
  intro l' _
  rw [win_refl]
theorem sid_sub (rel k p q : Nat) (l : List Nat) (h : ∀ a ∈ mvs T p l, a ∈ mvs T q l) : sid T rel k p q l = false := by
  unfold sid
  rw [List.any_eq_false]
  intro a ha
  rw [Bool.not_eq_true, List.any_eq_false]
  intro v hv
  rw [Bool.not_eq_true]
  exact hld_self rel k v (h a ha)
theorem win3_eq (rel p q : Nat) (l : List Nat) : win T rel 3 p q l = (sid T rel 2 p q l || sid T rel 2 q p l) := rfl
theorem rnd4 (rel p q : Nat) : rnd T rel p q = 4 ↔ win T rel 3 p q [] = false := by
  have h3 : rnd T rel p q ≤ 3 ↔ win T rel 3 p q [] = true := (rnd_Sp (T := T) rel p q).2 3 (by omega)
  have hl := rnd_le (T := T) rel p q
  rw [Bool.eq_false_iff, Ne, ← h3]
  omega
theorem rnd_same (rel : Nat) {p q : Nat} (h1 : ∀ a ∈ mvs T p [], a ∈ mvs T q []) (h2 : ∀ a ∈ mvs T q [], a ∈ mvs T p []) : rnd T rel p q = 4 := by
  rw [rnd4, win3_eq, sid_sub _ _ _ _ _ h1, sid_sub _ _ _ _ _ h2]
  rfl
theorem rnd_absorb (rel : Nat) {p q o : Nat} (ho : ∀ a, a ∈ mvs T o [] ↔ a ∈ mvs T p [] ∨ a ∈ mvs T q []) (h : rnd T rel p q = 4) : rnd T rel o p = 4 := by
  rw [rnd4, win3_eq, Bool.or_eq_false_iff] at h ⊢
  refine ⟨?_, sid_sub _ _ _ _ _ (fun a ha => (ho a).mpr (Or.inl ha))⟩
  have h2 := h.2
  unfold sid at h2 ⊢
  rw [List.any_eq_false] at h2 ⊢
  intro a ha
  rcases (ho a).mp ha with h3 | h3
  · rw [Bool.not_eq_true, List.any_eq_false]
    intro v hv
    rw [Bool.not_eq_true]
    exact hld_self _ _ _ h3
  · exact h2 a h3
/-- the moves of what is built -/
theorem mvs_zero (hW : WF T n) (l : List Nat) : mvs T 0 l = [] := by
  unfold mvs
  rw [acts_eq hW (show 0 < n from hW.1.1), if_pos hW.2.1.1]
  rfl
theorem mvs_act (hW : WF T n) {p : Nat} (hp : p < n) (h1 : 1 ≤ T 0 p) (h3 : T 0 p ≤ 3) (l : List Nat) : mvs T p l = [p] := by
  unfold mvs
  rw [acts_eq hW hp, if_neg (by omega), if_pos h3]
  rfl
theorem openb_cons (l : List Nat) (x y : Nat) (gs : List (Nat × Nat)) : openb l ((x, y) :: gs) = ((vl l x == vl l y) && openb l gs) := rfl
theorem mvs_mat (hW : WF T n) {p : Nat} (hp : p < n) (hk : T 0 p = 4) (l : List Nat) (h : vl l (T 1 p) = vl l (T 2 p)) : mvs T p l = mvs T (T 3 p) l := by
  unfold mvs
  rw [acts_eq hW hp, if_neg (by omega), if_neg (by omega), if_pos hk, List.filter_map, List.map_map]
  have e : ((fun a : Nat × List (Nat × Nat) => openb l a.2) ∘ fun a : Nat × List (Nat × Nat) => (a.1, (T 1 p, T 2 p) :: a.2)) = fun a => openb l a.2 := by
    funext a
    simp only [Function.comp, openb_cons, h, beq_self_eq_true, Bool.true_and]
  rw [e]
  rfl
theorem mvs_mat0 (hW : WF T n) {p : Nat} (hp : p < n) (hk : T 0 p = 4) (l : List Nat) (h : ¬ vl l (T 1 p) = vl l (T 2 p)) : mvs T p l = [] := by
  unfold mvs
  rw [acts_eq hW hp, if_neg (by omega), if_neg (by omega), if_pos hk, List.filter_map]
  have e : ((fun a : Nat × List (Nat × Nat) => openb l a.2) ∘ fun a : Nat × List (Nat × Nat) => (a.1, (T 1 p, T 2 p) :: a.2)) = fun _ => false := by
    funext a
    have h0 : (vl l (T 1 p) == vl l (T 2 p)) = false := beq_eq_false_iff_ne.mpr h
    simp only [Function.comp, openb_cons, h0, Bool.false_and]
  rw [e]
  simp
theorem mvs_sum (hW : WF T n) {p : Nat} (hp : p < n) (hk : T 0 p = 5) (l : List Nat) : mvs T p l = mvs T (T 3 p) l ++ mvs T (T 4 p) l := by
  unfold mvs
  rw [acts_eq hW hp, if_neg (by omega), if_neg (by omega), if_neg (by omega), List.filter_append, List.map_append]
/-- values alike: the same names are equal -/
def Eqv (d : Nat) (l l' : List Nat) : Prop := ∀ x y, x < 3 + d → y < 3 + d → (vl l x = vl l y ↔ vl l' x = vl l' y)
theorem getD_fr : ∀ (l : List Nat) (k : Nat), l.getD k 0 < fr l := by
  intro l
  induction l with
  | nil => intro k; simp [fr]
  | cons v l ih =>
    intro k
    cases k with
    | zero => simp [fr]; omega
    | succ k =>
      have := ih k
      simp only [fr, List.getD_cons_succ]
      omega
theorem vl_fr (l : List Nat) (x : Nat) : vl l x < fr l := by
  unfold vl
  split
  · have := fr_ge l
    omega
  · exact getD_fr l _
theorem vl_3 (v : Nat) (l : List Nat) : vl (v :: l) 3 = v := rfl
theorem vl_4 (v : Nat) (l : List Nat) {x : Nat} (h : 4 ≤ x) : vl (v :: l) x = vl l (x - 1) := by
  unfold vl
  rw [if_neg (by omega), if_neg (by omega)]
  obtain ⟨k, rfl⟩ : ∃ k, x = k + 4 := ⟨x - 4, by omega⟩
  rw [show k + 4 - 3 = k + 1 by omega, show k + 4 - 1 - 3 = k by omega, List.getD_cons_succ]
theorem vl_lo (l : List Nat) {x : Nat} (h : x < 3) : vl l x = x := if_pos h
/-- behind an input: a name for a name -/
theorem Eqv.ext {d : Nat} {l l' : List Nat} (h : Eqv d l l') (v : Nat) (hv : v ≤ fr l) : ∃ v', v' ≤ fr l' ∧ Eqv (d + 1) (v :: l) (v' :: l') ∧ (v = fr l → v' = fr l') := by
  by_cases hx : ∃ x, x < 3 + d ∧ vl l x = v
  · obtain ⟨x, hx, rfl⟩ := hx
    refine ⟨vl l' x, Nat.le_of_lt (vl_fr l' x), ?_, fun e => absurd (vl_fr l x) (by omega)⟩
    have key : ∀ a, a < 3 + (d + 1) → ∃ b, b < 3 + d ∧ vl (vl l x :: l) a = vl l b ∧ vl (vl l' x :: l') a = vl l' b := by
      intro a ha
      by_cases h3 : a < 3
      · exact ⟨a, by omega, by rw [vl_lo _ h3, vl_lo _ h3], by rw [vl_lo _ h3, vl_lo _ h3]⟩
      · by_cases h4 : a = 3
        · subst h4
          exact ⟨x, hx, rfl, rfl⟩
        · exact ⟨a - 1, by omega, vl_4 _ _ (by omega), vl_4 _ _ (by omega)⟩
    intro a b ha hb
    obtain ⟨i, i1, i2, i3⟩ := key a ha
    obtain ⟨j, j1, j2, j3⟩ := key b hb
    rw [i2, i3, j2, j3]
    exact h i j i1 j1
  · refine ⟨fr l', Nat.le_refl _, ?_, fun _ => rfl⟩
    have key : ∀ a, a < 3 + (d + 1) → a = 3 ∨ ∃ b, b < 3 + d ∧ vl (v :: l) a = vl l b ∧ vl (fr l' :: l') a = vl l' b := by
      intro a ha
      by_cases h3 : a < 3
      · exact Or.inr ⟨a, by omega, by rw [vl_lo _ h3, vl_lo _ h3], by rw [vl_lo _ h3, vl_lo _ h3]⟩
      · by_cases h4 : a = 3
        · exact Or.inl h4
        · exact Or.inr ⟨a - 1, by omega, vl_4 _ _ (by omega), vl_4 _ _ (by omega)⟩
    intro a b ha hb
    rcases key a ha with rfl | ⟨i, i1, i2, i3⟩
    · rcases key b hb with rfl | ⟨j, j1, j2, j3⟩
      · exact ⟨fun _ => rfl, fun _ => rfl⟩
      · rw [vl_3, vl_3, j2, j3]
        exact ⟨fun e => absurd ⟨j, j1, e.symm⟩ hx, fun e => absurd (vl_fr l' j) (by omega)⟩
    · rcases key b hb with rfl | ⟨j, j1, j2, j3⟩
      · rw [vl_3, vl_3, i2, i3]
        exact ⟨fun e => absurd ⟨i, i1, e⟩ hx, fun e => absurd (vl_fr l' i) (by omega)⟩
      · rw [i2, i3, j2, j3]
        exact h i j i1 j1
theorem Eqv_openb {d : Nat} {l l' : List Nat} (h : Eqv d l l') (gs : List (Nat × Nat)) (hg : ∀ q ∈ gs, q.1 < 3 + d ∧ q.2 < 3 + d) : openb l gs = openb l' gs := by
  unfold openb
  refine List.all_congr_of fun q hq => ?_
  obtain ⟨h1, h2⟩ := hg q hq
  rw [Bool.eq_iff_iff, beq_iff_eq, beq_iff_eq]
  exact h _ _ h1 h2
theorem mvs_E (hW : WF T n) {p d : Nat} {l l' : List Nat} (hp : p < n) (h7 : T 7 p ≤ d) (h : Eqv d l l') : mvs T p l = mvs T p l' := by
  unfold mvs
  congr 1
  refine List.filter_congr fun a ha => ?_
  obtain ⟨-, -, -, -, -, -, a7⟩ := acts_mem hW hp a ha
  exact Eqv_openb h a.2 (fun q hq => by have := a7 q hq; omega)
/-- positions with like values are worth the same -/
theorem win_E (hW : WF T n) (rel : Nat) : ∀ (k p q d : Nat) (l l' : List Nat), p < n → q < n → T 7 p ≤ d → T 7 q ≤ d → Eqv d l l' → win T rel k p q l = true → win T rel k p q l' = true := by
  intro k
  induction k with
  | zero => intro p q d l l' _ _ _ _ _ h; cases h
  | succ k ih =>
    have key : ∀ (p q d : Nat) (l l' : List Nat), p < n → q < n → T 7 p ≤ d → T 7 q ≤ d → Eqv d l l' → sid T rel k p q l = true → sid T rel k p q l' = true := by
      intro p q d l l' hp hq h7p h7q hE h
      unfold sid at h ⊢
      obtain ⟨a, ha, h⟩ := List.any_eq_true.mp h
      obtain ⟨v, hv, h⟩ := List.any_eq_true.mp h
      obtain ⟨a1, a2, a3, a4, a5, a6⟩ := mvs_mem hW hp ha
      obtain ⟨n1, n2, c3, c5, c7⟩ := act_facts hW (show a < n by omega) a3 a4
      have go : ∀ v', (∀ b ∈ mvs T q l, agr T l a b = true → flw T rel k a v b l = true → flw T rel k a v' b l' = true) → hld T rel k a v' q l' = true := by
        intro v' hf
        unfold hld at h ⊢
        rw [← mvs_E hW hq h7q hE]
        refine List.all_eq_true.mpr fun b hb => ?_
        have h := List.all_eq_true.mp h b hb
        obtain ⟨b1, b2, b3, b4, b5, b6⟩ := mvs_mem hW hq hb
        obtain ⟨m1, m2, d3, d5, d7⟩ := act_facts hW (show b < n by omega) b3 b4
        have e : agr T l' a b = agr T l a b := by
          unfold agr
          have e1 := hE (T 1 a) (T 1 b) (by omega) (by omega)
          have e2 := hE (T 2 a) (T 2 b) (by omega) (by omega)
          congr 1
          · congr 1
            rw [Bool.eq_iff_iff, beq_iff_eq, beq_iff_eq]
            exact e1.symm
          · rw [Bool.eq_iff_iff, beq_iff_eq, beq_iff_eq]
            exact e2.symm
        rw [e]
        cases hag : agr T l a b with
        | false => rfl
        | true =>
          rw [hag] at h
          simp only [Bool.not_true, Bool.false_or] at h ⊢
          exact hf b hb hag h
      have kind : ∀ b, agr T l a b = true → T 0 a = T 0 b := by
        intro b hb
        unfold agr at hb
        simp only [Bool.and_eq_true, beq_iff_eq] at hb
        exact hb.1.1
      by_cases hk : T 0 a = 3
      · rw [if_pos hk] at c7
        have next : ∀ (b : Nat) (w w' : Nat), b ∈ mvs T q l → agr T l a b = true → Eqv (d + 1) (w :: l) (w' :: l') → win T rel k (T 3 a) (T 3 b) (w :: l) = true → win T rel k (T 3 a) (T 3 b) (w' :: l') = true := by
          intro b w w' hb hag hEE hw
          obtain ⟨b1, b2, b3, b4, b5, b6⟩ := mvs_mem hW hq hb
          obtain ⟨m1, m2, d3, d5, d7⟩ := act_facts hW (show b < n by omega) b3 b4
          rw [if_pos ((kind b hag).symm.trans hk)] at d7
          exact ih _ _ (d + 1) _ _ (by omega) (by omega) (by omega) (by omega) hEE hw
        by_cases h1 : rel = 1
        · have hv1 : v ≤ fr l := by
            unfold nms at hv
            rw [if_pos ⟨hk, h1⟩] at hv
            have := List.mem_range.mp hv
            omega
          obtain ⟨v', hv', hEE, -⟩ := hE.ext v hv1
          refine List.any_eq_true.mpr ⟨a, by rw [← mvs_E hW hp h7p hE]; exact ha, List.any_eq_true.mpr ⟨v', ?_, go v' fun b hb hag hfl => ?_⟩⟩
          · unfold nms
            rw [if_pos ⟨hk, h1⟩]
            exact List.mem_range.mpr (by omega)
          · unfold flw nxt at hfl ⊢
            rw [if_pos hk, if_neg (by omega), if_pos h1] at hfl ⊢
            simp only [List.any_cons, List.any_nil, Bool.or_false] at hfl ⊢
            exact next b v v' hb hag hEE hfl
        · have hn : ∀ l'', nms T rel a l'' = [9] := fun l'' => if_neg (fun z => h1 z.2)
          refine List.any_eq_true.mpr ⟨a, by rw [← mvs_E hW hp h7p hE]; exact ha, List.any_eq_true.mpr ⟨v, by rw [hn] at hv ⊢; exact hv, go v fun b hb hag hfl => ?_⟩⟩
          unfold flw nxt at hfl ⊢
          rw [if_pos hk] at hfl ⊢
          by_cases h0 : rel = 0
          · rw [if_pos h0] at hfl ⊢
            simp only [List.any_cons, List.any_nil, Bool.or_false] at hfl ⊢
            obtain ⟨w, hw, hEE, he⟩ := hE.ext (fr l) (Nat.le_refl _)
            rw [he rfl] at hEE
            exact next b _ _ hb hag hEE hfl
          · rw [if_neg h0, if_neg h1] at hfl ⊢
            obtain ⟨x, hx, hfl⟩ := List.any_eq_true.mp hfl
            obtain ⟨w, hw, rfl⟩ := List.mem_map.mp hx
            have hw := List.mem_range.mp hw
            obtain ⟨w', hw', hEE, -⟩ := hE.ext w (by omega)
            exact List.any_eq_true.mpr ⟨w' :: l', List.mem_map.mpr ⟨w', List.mem_range.mpr (by omega), rfl⟩, next b _ _ hb hag hEE hfl⟩
      · rw [if_neg hk] at c7
        have hn : ∀ l'', nms T rel a l'' = [9] := fun l'' => if_neg (fun z => hk z.1)
        refine List.any_eq_true.mpr ⟨a, by rw [← mvs_E hW hp h7p hE]; exact ha, List.any_eq_true.mpr ⟨v, by rw [hn] at hv ⊢; exact hv, go v fun b hb hag hfl => ?_⟩⟩
        obtain ⟨b1, b2, b3, b4, b5, b6⟩ := mvs_mem hW hq hb
        obtain ⟨m1, m2, d3, d5, d7⟩ := act_facts hW (show b < n by omega) b3 b4
        rw [if_neg (fun z => hk ((kind b hag).trans z))] at d7
        unfold flw nxt at hfl ⊢
        rw [if_neg hk] at hfl ⊢
        simp only [List.any_cons, List.any_nil, Bool.or_false] at hfl ⊢
        exact ih _ _ d _ _ (by omega) (by omega) (by omega) (by omega) hE hfl
    intro p q d l l' hp hq h7p h7q hE h
    rw [win_eq, Bool.or_eq_true] at h ⊢
    exact h.imp (key p q d l l' hp hq h7p h7q hE) (key q p d l l' hq hp h7q h7p hE)
theorem Eqv0 (l l' : List Nat) : Eqv 0 l l' := fun x y hx hy => by rw [vl_lo l (by omega), vl_lo l (by omega), vl_lo l' (by omega), vl_lo l' (by omega)]
/-- closed processes: what was received says nothing -/
theorem win_closed (hW : WF T n) (rel k : Nat) {p q : Nat} (hp : p < n) (hq : q < n) (h7p : T 7 p = 0) (h7q : T 7 q = 0) (l l' : List Nat) : win T rel k p q l = win T rel k p q l' := by
  rw [Bool.eq_iff_iff]
  exact ⟨win_E hW rel k p q 0 l l' hp hq (by omega) (by omega) (Eqv0 l l'), win_E hW rel k p q 0 l' l hp hq (by omega) (by omega) (Eqv0 l' l)⟩
theorem any_const {α : Type} {f : α → Bool} {w : Bool} : ∀ (l : List α), l ≠ [] → (∀ x ∈ l, f x = w) → l.any f = w := by
  intro l
  induction l with
  | nil => intro h; exact absurd rfl h
  | cons x r ih =>
    intro _ h
    rw [List.any_cons, h x List.mem_cons_self]
    cases r with
    | nil => simp
    | cons y r => rw [ih (by simp) (fun z hz => h z (List.mem_cons_of_mem _ hz)), Bool.or_self]
theorem nxt_ne (rel a v : Nat) (l : List Nat) : nxt T rel a v l ≠ [] := by
  unfold nxt
  split
  · split
    · simp
    · split
      · simp
      · intro h
        have := congrArg List.length h
        simp at this
  · simp
theorem nms_ne (rel a : Nat) (l : List Nat) : nms T rel a l ≠ [] := by
  unfold nms
  split
  · intro h
    have := congrArg List.length h
    simp at this
  · simp
/-- two actions that say the same, with closed processes behind them -/
def Pfx (T : Tb) (n a b : Nat) : Prop := a < n ∧ b < n ∧ 1 ≤ T 0 a ∧ T 0 a ≤ 3 ∧ T 0 a = T 0 b ∧ T 1 a = T 1 b ∧ T 2 a = T 2 b ∧ T 7 (T 3 a) = 0 ∧ T 7 (T 3 b) = 0
theorem Pfx_symm {a b : Nat} (h : Pfx T n a b) : Pfx T n b a := by
  obtain ⟨h1, h2, h3, h4, h5, h6, h7, h8, h9⟩ := h
  exact ⟨h2, h1, by omega, by omega, h5.symm, h6.symm, h7.symm, h9, h8⟩
theorem Pfx_hld (hW : WF T n) {a b : Nat} (h : Pfx T n a b) (rel k v : Nat) : hld T rel k a v b [] = win T rel k (T 3 a) (T 3 b) [] := by
  obtain ⟨h1, h2, h3, h4, h5, h6, h7, h8, h9⟩ := h
  unfold hld
  rw [mvs_act hW h2 (by omega) (by omega)]
  have e : agr T [] a b = true := by
    unfold agr
    rw [h5, h6, h7]
    simp
  simp only [List.all_cons, List.all_nil, Bool.and_true, e, Bool.not_true, Bool.false_or]
  unfold flw
  refine any_const _ (nxt_ne rel a v []) fun l' _ => ?_
  exact win_closed hW rel k (hW.part h1).2.2.1 (hW.part h2).2.2.1 h8 h9 l' []
theorem Pfx_win (hW : WF T n) {a b : Nat} (h : Pfx T n a b) (rel k : Nat) : win T rel (k + 1) a b [] = win T rel k (T 3 a) (T 3 b) [] := by
  have one : ∀ a b, Pfx T n a b → sid T rel k a b [] = win T rel k (T 3 a) (T 3 b) [] := by
    intro a b h
    unfold sid
    rw [mvs_act hW h.1 h.2.2.1 h.2.2.2.1]
    simp only [List.any_cons, List.any_nil, Bool.or_false]
    exact any_const _ (nms_ne rel a []) fun v _ => Pfx_hld hW h rel k v
  rw [win_eq, one a b h, one b a (Pfx_symm h), win_symm rel k (T 3 b), Bool.or_self]
theorem Pfx_rnd (hW : WF T n) {a b : Nat} (h : Pfx T n a b) (rel : Nat) (h5a : T 5 (T 3 a) ≤ 2) (h5b : T 5 (T 3 b) ≤ 2) : rnd T rel a b = if rnd T rel (T 3 a) (T 3 b) = 4 then 4 else rnd T rel (T 3 a) (T 3 b) + 1 := by
  have w1 : win T rel 1 a b [] = false := Pfx_win hW h rel 0
  have w2 : win T rel 2 a b [] = win T rel 1 (T 3 a) (T 3 b) [] := Pfx_win hW h rel 1
  have w3 : win T rel 3 a b [] = win T rel 2 (T 3 a) (T 3 b) [] := Pfx_win hW h rel 2
  have w4 : win T rel 3 (T 3 a) (T 3 b) [] = win T rel 2 (T 3 a) (T 3 b) [] := win_stop hW rel (hW.part h.1).2.2.1 (hW.part h.2.1).2.2.1 h5a h5b (by omega)
  unfold rnd
  rw [w1, w2, w3, w4]
  cases win T rel 1 (T 3 a) (T 3 b) [] <;> cases win T rel 2 (T 3 a) (T 3 b) [] <;> simp
theorem rnd_two (hW : WF T n) (rel : Nat) {p q : Nat} (hp : p < n) (hq : q < n) (h5p : T 5 p ≤ 2) (h5q : T 5 q ≤ 2) (hr : rnd T rel p q ≠ 4) : rnd T rel p q ≤ 2 := by
  have hl := rnd_le (T := T) rel p q
  have hS := (rnd_Sp (T := T) rel p q).2
  have h3 : win T rel 3 p q [] = true := (hS 3 (by omega)).mp (by omega)
  have w : win T rel 3 p q [] = win T rel 2 p q [] := win_stop hW rel hp hq h5p h5q (by omega)
  exact (hS 2 (by omega)).mpr (w.symm.trans h3)
theorem Pfx_atk (hW : WF T n) {a b : Nat} (h : Pfx T n a b) (rel : Nat) (hk : T 0 a ≠ 3) (h5a : T 5 (T 3 a) ≤ 2) (h5b : T 5 (T 3 b) ≤ 2) (hr : rnd T rel (T 3 a) (T 3 b) ≠ 4) : atkR T rel a b = nI 9 := by
  have e := Pfx_rnd hW h rel h5a h5b
  rw [if_neg hr] at e
  have hl := rnd_le (T := T) rel (T 3 a) (T 3 b)
  have hS := (rnd_Sp (T := T) rel (T 3 a) (T 3 b)).2 (rnd T rel (T 3 a) (T 3 b)) (by omega)
  have hw : win T rel (rnd T rel (T 3 a) (T 3 b)) (T 3 a) (T 3 b) [] = true := hS.mp (Nat.le_refl _)
  have h3 : rnd T rel (T 3 a) (T 3 b) ≤ 2 := rnd_two hW rel (hW.part h.1).2.2.1 (hW.part h.2.1).2.2.1 h5a h5b hr
  unfold atkR atkF
  rw [e, Nat.add_sub_cancel, if_neg (show ¬ (rnd T rel (T 3 a) (T 3 b) + 1 = 4) by omega), mvs_act hW h.1 h.2.2.1 h.2.2.2.1]
  have e2 : nms T rel a [] = [9] := if_neg (fun z => hk z.1)
  unfold atkL
  rw [e2, List.find?_cons, Pfx_hld hW h, hw]
theorem rnd_congr {T' : Tb} {n' : Nat} (hW : WF T n) (hW' : WF T' n') (hn : n ≤ n') (hT : ∀ f p, p < n → T' f p = T f p) (rel : Nat) {p q : Nat} (hp : p < n) (hq : q < n) : rnd T' rel p q = rnd T rel p q := by
  unfold rnd
  simp only [win_congr hW hW' hn hT rel _ p q _ hp hq]
/-- what the public methods answer for numbers of processes -/
theorem rPair_ok {f : Nat → Nat → Nat → Int32} {i j k : Nat} (hn : n ≤ 24) (hi : i < n) (hj : j < n) (hk : k < 3) (h1 : T 7 i = 0) (h2 : T 7 j = 0) : rPair f T n (nI i) (nI j) (nI k) = f i j k := by
  unfold rPair
  rw [pj_nI hi (by omega), pj_nI hj (by omega), pj_nI hk (by omega)]
  exact if_pos ⟨h1, h2⟩
theorem rMC_ok {i : Nat} (hn : n ≤ 24) (hi : i < n) (h1 : T 7 i = 0) : rMC T n (nI i) = nI (mvs T i []).length := by
  unfold rMC
  rw [pj_nI hi (by omega)]
  exact if_pos h1
theorem rFld_ok {i f : Nat} (hn : n ≤ 24) (hi : i < n) : rFld T n f (nI i) = nI (T f i) := by
  unfold rFld
  rw [pj_nI hi (by omega)]
end PMATH
end
section
section LAWH0
variable {T : Tb} {n : Nat}
/-- the law's row of sizes -/
def DR (T : Tb) (n : Nat) (μ : Mem) : Prop := ∀ j, j < n → μ.1 16 j = nI (64 * T 5 j + 8 * T 6 j + T 7 j)
def szF (T : Tb) (k x y p q : Nat) : Nat := 64 * bD T k p q + 8 * bB T k p q + bN T k x y p q
theorem DR.of_sameM {μ μ' : Mem} (h : DR T n μ) (s : sameM μ μ') : DR T n μ' := fun j hj => by rw [s 16 (by omega)]; exact h j hj
theorem DR.of_sameW {μ μ' : Mem} (h : DR T n μ) (s : sameW μ μ') : DR T n μ' := fun j hj => by rw [s.1 16 (by omega)]; exact h j hj
theorem sameM_W {μ μ' : Mem} (s : sameW μ μ') : sameM μ μ' := fun c hc => s.1 c (by omega)
def AQ (T : Tb) (n : Nat) : Option Value → Mem → Prop := fun r μ' => ∃ (T' : Tb) (n' : Nat), r = some (.int (nI n')) ∧ n ≤ n' ∧ n' ≤ n + 1 ∧ XInv T' n' μ' ∧ DR T' n' μ'
end LAWH0
section LAWH
variable {g : Gm} {l : Launch} {μ : Mem} {T : Tb} {n : Nat}
theorem c_most {a b : Nat} (ha : a < 2 ^ 31) (hb : b < 2 ^ 31) : Ct (GS g) l (0) yL_most cL_most 2 (some .int) [.int (nI a), .int (nI b)] μ (Is (.int (nI (max a b))) μ) := by
  refine Ct.of (own := RL) mi_L_most rfl [some (.int (nI a)), some (.int (nI b))] (Nat.le_of_ble_eq_true rfl) rfl (fun p₀ e₀ s₀ m₀ b₀ h₀ c₀ F => ?_)
  refine V_iload_n F dL_most_0 rfl ?_
  refine V_iload_n F dL_most_1 rfl ?_
  refine V_icmp_le_N F (tgt := 9) dL_most_2 (by decide) (by omega) (by omega) (fun h => ?_) (fun h => ?_)
  · rw [show max a b = b from Nat.max_eq_right h]
    refine V_iload_n F dL_most_9 rfl ?_
    exact V_iret F dL_most_10 (⟨rfl, rfl⟩)
  · rw [show max a b = a from Nat.max_eq_left (by omega)]
    refine V_iload_n F dL_most_5 rfl ?_
    refine V_goto F (tgt := 10) dL_most_6 (by decide) ?_
    exact V_iret F dL_most_10 (⟨rfl, rfl⟩)
theorem c_named {a : Nat} (ha : a < 2 ^ 31) : Ct (GS g) l (0) yL_named cL_named 1 (some .int) [.int (nI a)] μ (Is (.int (nI (a - 2))) μ) := by
  refine Ct.of (own := RL) mi_L_named rfl [some (.int (nI a))] (Nat.le_of_ble_eq_true rfl) rfl (fun p₀ e₀ s₀ m₀ b₀ h₀ c₀ F => ?_)
  refine V_iload_n F dL_named_0 rfl ?_
  refine V_iconst F (v := nI 2) dL_named_1 (by decide) ?_
  refine V_icmp_le_N F (tgt := 11) dL_named_2 (by decide) (by omega) (by omega) (fun h => ?_) (fun h => ?_)
  · rw [show a - 2 = 0 by omega]
    refine V_iconst F (v := nI 0) dL_named_11 (by decide) ?_
    exact V_iret F dL_named_12 (⟨rfl, rfl⟩)
  · skip
    refine V_iload_n F dL_named_5 rfl ?_
    refine V_iconst F (v := nI 2) dL_named_6 (by decide) ?_
    refine V_isubN F (by omega) dL_named_7 ?_
    refine V_goto F (tgt := 12) dL_named_8 (by decide) ?_
    exact V_iret F dL_named_12 (⟨rfl, rfl⟩)
theorem c_process (k x y p q : Int32) : Ct (GS g) l (0) yL_process cL_process 5 (some .int) [.int k, .int x, .int y, .int p, .int q] μ ((fun r μ' => (∃ v : Int32, r = some (.int v)) ∧ μ' = μ)) := by
  refine Ct.of (own := RL) mi_L_process rfl [some (.int k), some (.int x), some (.int y), some (.int p), some (.int q)] (Nat.le_of_ble_eq_true rfl) rfl (fun p₀ e₀ s₀ m₀ b₀ h₀ c₀ F => ?_)
  refine V_iload_n F dL_process_0 rfl ?_
  refine V_bipush F (v := nI 20) dL_process_1 (by decide) ?_
  refine V_ishl F dL_process_3 ?_
  refine V_iload_n F dL_process_4 rfl ?_
  refine V_bipush F (v := nI 15) dL_process_5 (by decide) ?_
  refine V_ishl F dL_process_7 ?_
  refine V_ior F dL_process_8 ?_
  refine V_iload_n F dL_process_9 rfl ?_
  refine V_bipush F (v := nI 10) dL_process_10 (by decide) ?_
  refine V_ishl F dL_process_12 ?_
  refine V_ior F dL_process_13 ?_
  refine V_iload_n F dL_process_14 rfl ?_
  refine V_iconst F (v := nI 5) dL_process_15 (by decide) ?_
  refine V_ishl F dL_process_16 ?_
  refine V_ior F dL_process_17 ?_
  refine V_iload F dL_process_18 rfl ?_
  refine V_ior F dL_process_20 ?_
  exact V_iret F dL_process_21 (⟨⟨_, rfl⟩, rfl⟩)
theorem c_sizes {k x y p q : Nat} (hW : WF T n) (hD : DR T n μ) (hk1 : 1 ≤ k) (hk : k ≤ 5) (hx : x < 6) (hy : y < 6) (hp : p < n) (hq : q < n) (h1 : k = 1 → x = 0 ∧ y = 0) (h3 : k = 3 → y = 0) (h5 : k = 5 → x = 0 ∧ y = 0) : Ct (GS g) l (1) yL_sizes cL_sizes 10 (some .int) [.ref (g.1 16), .int (nI k), .int (nI x), .int (nI y), .int (nI p), .int (nI q)] μ (Is (.int (nI (szF T k x y p (if k = 5 then q else 0)))) μ) := by
  have hn := hW.1.2
  have d1 := hW.depth hp
  have d2 := hW.depth hq
  have d3 := hW.need hp
  have d4 := hW.need hq
  have z5 : T 5 0 = 0 := hW.2.1.2.2.2.2.2.1
  have z6 : T 6 0 = 0 := hW.2.1.2.2.2.2.2.2.1
  have z7 : T 7 0 = 0 := hW.2.1.2.2.2.2.2.2.2.1
  have ep := hD p hp
  have eq := hD q hq
  have v1 : (64 * T 5 p + 8 * T 6 p + T 7 p) / 64 = T 5 p := by omega
  have v2 : (64 * T 5 p + 8 * T 6 p + T 7 p) / 8 % 8 = T 6 p := by omega
  have v3 : (64 * T 5 p + 8 * T 6 p + T 7 p) % 8 = T 7 p := by omega
  have w1 : (64 * T 5 q + 8 * T 6 q + T 7 q) / 64 = T 5 q := by omega
  have w2 : (64 * T 5 q + 8 * T 6 q + T 7 q) / 8 % 8 = T 6 q := by omega
  have w3 : (64 * T 5 q + 8 * T 6 q + T 7 q) % 8 = T 7 q := by omega
  refine Ct.of (own := RL) mi_L_sizes rfl [some (.ref (g.1 16)), some (.int (nI k)), some (.int (nI x)), some (.int (nI y)), some (.int (nI p)), some (.int (nI q)), none, none, none, none] (Nat.le_of_ble_eq_true rfl) rfl (fun p₀ e₀ s₀ m₀ b₀ h₀ c₀ F => ?_)
  refine V_aload_n F dL_sizes_0 rfl ?_
  refine V_iload F dL_sizes_1 rfl ?_
  refine V_ia F dL_sizes_3 rfl (rfl) (show p < 24 by omega) (ep) ?_
  refine V_bipush F (v := nI 64) dL_sizes_4 (by decide) ?_
  refine V_idiv F dL_sizes_6 (by decide) ?_
  refine V_val F (pk_div (by omega) (by omega) (by omega)) ?_
  refine V_val F (congrArg nI v1) ?_
  refine V_istore F (lv' := [_, _, _, _, _, _, _, _, _, _]) dL_sizes_7 (by decide) rfl rfl ?_
  refine V_aload_n F dL_sizes_9 rfl ?_
  refine V_iload F dL_sizes_10 rfl ?_
  refine V_ia F dL_sizes_12 rfl (rfl) (show p < 24 by omega) (ep) ?_
  refine V_bipush F (v := nI 8) dL_sizes_13 (by decide) ?_
  refine V_idiv F dL_sizes_15 (by decide) ?_
  refine V_val F (pk_div (by omega) (by omega) (by omega)) ?_
  refine V_bipush F (v := nI 8) dL_sizes_16 (by decide) ?_
  refine V_irem F dL_sizes_18 (by decide) ?_
  refine V_val F (pk_rem (by omega) (by omega) (by omega)) ?_
  refine V_val F (congrArg nI v2) ?_
  refine V_istore F (lv' := [_, _, _, _, _, _, _, _, _, _]) dL_sizes_19 (by decide) rfl rfl ?_
  refine V_aload_n F dL_sizes_21 rfl ?_
  refine V_iload F dL_sizes_22 rfl ?_
  refine V_ia F dL_sizes_24 rfl (rfl) (show p < 24 by omega) (ep) ?_
  refine V_bipush F (v := nI 8) dL_sizes_25 (by decide) ?_
  refine V_irem F dL_sizes_27 (by decide) ?_
  refine V_val F (pk_rem (by omega) (by omega) (by omega)) ?_
  refine V_val F (congrArg nI v3) ?_
  refine V_istore F (lv' := [_, _, _, _, _, _, _, _, _, _]) dL_sizes_28 (by decide) rfl rfl ?_
  refine V_iload_n F dL_sizes_30 rfl ?_
  refine V_iconst F (v := nI 5) dL_sizes_31 (by decide) ?_
  refine V_icmp_ne_N F (tgt := 81) dL_sizes_32 (by decide) (by omega) (by omega) (fun hk5 => ?_) (fun hk5 => ?_)
  · rw [if_neg hk5]
    refine V_iload_n F dL_sizes_81 rfl ?_
    refine V_iconst F (v := nI 4) dL_sizes_82 (by decide) ?_
    refine V_icmp_ne_N F (tgt := 115) dL_sizes_83 (by decide) (by omega) (by omega) (fun hk4 => ?_) (fun hk4 => ?_)
    · skip
      refine V_iload_n F dL_sizes_115 rfl ?_
      refine V_iconst F (v := nI 3) dL_sizes_116 (by decide) ?_
      have main : V (GS g) p₀ l e₀ (rmD (1)) s₀ m₀ (List.toArray [.ref (g.1 16), .int (nI k), .int (nI x), .int (nI y), .int (nI p), .int (nI q)]) b₀ h₀ c₀ 10 0 0 (MQ b₀ (Qp (GS g) (Is (.int (nI (szF T k x y p 0))) μ)) (List.toArray [.ref (g.1 16), .int (nI k), .int (nI x), .int (nI y), .int (nI p), .int (nI q)]) s₀ 0 0 (gA (GS g))) 134 ([some (.ref (g.1 16)), some (.int (nI k)), some (.int (nI x)), some (.int (nI y)), some (.int (nI p)), some (.int (nI q)), some (.int (nI (T 5 p))), some (.int (nI (T 6 p))), some (.int (nI (T 7 p))), none]) ([.int (nI (T 7 p - (if k = 3 then 1 else 0)))]) (μ) := by
        refine V_istore F (lv' := [_, _, _, _, _, _, _, _, _, _]) dL_sizes_134 (by decide) rfl rfl ?_
        refine V_bipush F (v := nI 64) dL_sizes_136 (by decide) ?_
        refine V_iload F dL_sizes_138 rfl ?_
        refine V_iconst F (v := nI 1) dL_sizes_140 (by decide) ?_
        (first | refine V_iaddN F dL_sizes_141 ?_ | refine V_iadd F dL_sizes_141 ?_)
        (first | refine V_imulN F dL_sizes_142 ?_ | refine V_imul F dL_sizes_142 ?_)
        refine V_bipush F (v := nI 8) dL_sizes_143 (by decide) ?_
        (first | refine V_iaddN F dL_sizes_145 ?_ | refine V_iadd F dL_sizes_145 ?_)
        refine V_iload_n F dL_sizes_146 rfl ?_
        refine V_iconst F (v := nI 1) dL_sizes_147 (by decide) ?_
        refine V_icmp_ne_N F (tgt := 156) dL_sizes_148 (by decide) (by omega) (by omega) (fun hk1' => ?_) (fun hk1' => ?_)
        · skip
          refine V_iload F dL_sizes_156 rfl ?_
          refine V_iload_n F dL_sizes_158 rfl ?_
          refine V_iconst F (v := nI 2) dL_sizes_159 (by decide) ?_
          refine V_icmp_ne_N F (tgt := 177) dL_sizes_160 (by decide) (by omega) (by omega) (fun hk2 => ?_) (fun hk2 => ?_)
          · have hk3 : k = 3 := by omega
            refine V_iload_n F dL_sizes_177 rfl ?_
            refine V_callSi F (c_named (by omega)) mi_L_named ms_L_named lk_L_15 dL_sizes_178 (rmR (by omega)) rfl rfl (by decide) (Nat.le_of_ble_eq_true rfl) ?_
            refine V_callSi F (c_most (by omega) (by omega)) mi_L_most ms_L_most lk_L_9 dL_sizes_181 (rmR (by omega)) rfl rfl (by decide) (Nat.le_of_ble_eq_true rfl) ?_
            (first | refine V_iaddN F dL_sizes_184 ?_ | refine V_iadd F dL_sizes_184 ?_)
            exact V_iret F dL_sizes_185 (⟨congrArg (fun z => some (Value.int (nI z))) (by have := h3 hk3; unfold szF bD bB bN; rw [if_pos (show k ≤ 3 by omega), if_pos (show k ≤ 3 by omega), z5, z7]; omega), rfl⟩)
          · have hk3 : k = 2 := by omega
            refine V_iload_n F dL_sizes_163 rfl ?_
            refine V_callSi F (c_named (by omega)) mi_L_named ms_L_named lk_L_15 dL_sizes_164 (rmR (by omega)) rfl rfl (by decide) (Nat.le_of_ble_eq_true rfl) ?_
            refine V_iload_n F dL_sizes_167 rfl ?_
            refine V_callSi F (c_named (by omega)) mi_L_named ms_L_named lk_L_15 dL_sizes_168 (rmR (by omega)) rfl rfl (by decide) (Nat.le_of_ble_eq_true rfl) ?_
            refine V_callSi F (c_most (by omega) (by omega)) mi_L_most ms_L_most lk_L_9 dL_sizes_171 (rmR (by omega)) rfl rfl (by decide) (Nat.le_of_ble_eq_true rfl) ?_
            refine V_goto F (tgt := 181) dL_sizes_174 (by decide) ?_
            refine V_callSi F (c_most (by omega) (by omega)) mi_L_most ms_L_most lk_L_9 dL_sizes_181 (rmR (by omega)) rfl rfl (by decide) (Nat.le_of_ble_eq_true rfl) ?_
            (first | refine V_iaddN F dL_sizes_184 ?_ | refine V_iadd F dL_sizes_184 ?_)
            exact V_iret F dL_sizes_185 (⟨congrArg (fun z => some (Value.int (nI z))) (by unfold szF bD bB bN; rw [if_pos (show k ≤ 3 by omega), if_pos (show k ≤ 3 by omega), if_neg (show ¬ k = 3 by omega), z5, z7]; omega), rfl⟩)
        · have hk3 : k = 1 := by omega
          refine V_iload F dL_sizes_151 rfl ?_
          refine V_goto F (tgt := 184) dL_sizes_153 (by decide) ?_
          (first | refine V_iaddN F dL_sizes_184 ?_ | refine V_iadd F dL_sizes_184 ?_)
          exact V_iret F dL_sizes_185 (⟨congrArg (fun z => some (Value.int (nI z))) (by have := h1 hk3; unfold szF bD bB bN; rw [if_pos (show k ≤ 3 by omega), if_pos (show k ≤ 3 by omega), if_neg (show ¬ k = 3 by omega), z5, z7]; omega), rfl⟩)
      refine V_icmp_ne_N F (tgt := 132) dL_sizes_117 (by decide) (by omega) (by omega) (fun hk3 => ?_) (fun hk3 => ?_)
      · rw [if_neg hk3] at main
        refine V_iload F dL_sizes_132 rfl ?_
        exact main
      · rw [if_pos (Classical.not_not.mp hk3)] at main
        refine V_iload F dL_sizes_120 rfl ?_
        rcases Nat.eq_zero_or_pos (T 7 p) with h0 | h0
        · skip
          refine V_if_le_t F (tgt := 132) dL_sizes_122 (by decide) (by rw [h0]; decide) ?_
          refine V_iload F dL_sizes_132 rfl ?_
          rw [show T 7 p - 1 = T 7 p by omega] at main
          exact main
        · skip
          refine V_if_le_f F (tgt := 132) dL_sizes_122 (by decide) (nI_nle h0 (by omega)) ?_
          refine V_iload F dL_sizes_125 rfl ?_
          refine V_iconst F (v := nI 1) dL_sizes_127 (by decide) ?_
          refine V_isubN F (by omega) dL_sizes_128 ?_
          refine V_goto F (tgt := 134) dL_sizes_129 (by decide) ?_
          exact main
    · have hk4 := Classical.not_not.mp hk4
      refine V_bipush F (v := nI 64) dL_sizes_86 (by decide) ?_
      refine V_iload F dL_sizes_88 rfl ?_
      (first | refine V_imulN F dL_sizes_90 ?_ | refine V_imul F dL_sizes_90 ?_)
      refine V_bipush F (v := nI 8) dL_sizes_91 (by decide) ?_
      refine V_iload F dL_sizes_93 rfl ?_
      (first | refine V_imulN F dL_sizes_95 ?_ | refine V_imul F dL_sizes_95 ?_)
      (first | refine V_iaddN F dL_sizes_96 ?_ | refine V_iadd F dL_sizes_96 ?_)
      refine V_iload F dL_sizes_97 rfl ?_
      refine V_iload_n F dL_sizes_99 rfl ?_
      refine V_callSi F (c_named (by omega)) mi_L_named ms_L_named lk_L_15 dL_sizes_100 (rmR (by omega)) rfl rfl (by decide) (Nat.le_of_ble_eq_true rfl) ?_
      refine V_iload_n F dL_sizes_103 rfl ?_
      refine V_callSi F (c_named (by omega)) mi_L_named ms_L_named lk_L_15 dL_sizes_104 (rmR (by omega)) rfl rfl (by decide) (Nat.le_of_ble_eq_true rfl) ?_
      refine V_callSi F (c_most (by omega) (by omega)) mi_L_most ms_L_most lk_L_9 dL_sizes_107 (rmR (by omega)) rfl rfl (by decide) (Nat.le_of_ble_eq_true rfl) ?_
      refine V_callSi F (c_most (by omega) (by omega)) mi_L_most ms_L_most lk_L_9 dL_sizes_110 (rmR (by omega)) rfl rfl (by decide) (Nat.le_of_ble_eq_true rfl) ?_
      (first | refine V_iaddN F dL_sizes_113 ?_ | refine V_iadd F dL_sizes_113 ?_)
      exact V_iret F dL_sizes_114 (⟨congrArg (fun z => some (Value.int (nI z))) (by unfold szF bD bB bN; rw [if_neg (show ¬ k ≤ 3 by omega), if_neg (show ¬ k ≤ 3 by omega), if_neg (show ¬ k = 3 by omega), z5, z6, z7]; omega), rfl⟩)
  · have hk5 := Classical.not_not.mp hk5
    rw [if_pos hk5]
    refine V_bipush F (v := nI 64) dL_sizes_35 (by decide) ?_
    refine V_iload F dL_sizes_37 rfl ?_
    refine V_aload_n F dL_sizes_39 rfl ?_
    refine V_iload F dL_sizes_40 rfl ?_
    refine V_ia F dL_sizes_42 rfl (rfl) (show q < 24 by omega) (eq) ?_
    refine V_bipush F (v := nI 64) dL_sizes_43 (by decide) ?_
    refine V_idiv F dL_sizes_45 (by decide) ?_
    refine V_val F (pk_div (by omega) (by omega) (by omega)) ?_
    refine V_val F (congrArg nI w1) ?_
    refine V_callSi F (c_most (by omega) (by omega)) mi_L_most ms_L_most lk_L_9 dL_sizes_46 (rmR (by omega)) rfl rfl (by decide) (Nat.le_of_ble_eq_true rfl) ?_
    (first | refine V_imulN F dL_sizes_49 ?_ | refine V_imul F dL_sizes_49 ?_)
    refine V_bipush F (v := nI 8) dL_sizes_50 (by decide) ?_
    refine V_iload F dL_sizes_52 rfl ?_
    refine V_aload_n F dL_sizes_54 rfl ?_
    refine V_iload F dL_sizes_55 rfl ?_
    refine V_ia F dL_sizes_57 rfl (rfl) (show q < 24 by omega) (eq) ?_
    refine V_bipush F (v := nI 8) dL_sizes_58 (by decide) ?_
    refine V_idiv F dL_sizes_60 (by decide) ?_
    refine V_val F (pk_div (by omega) (by omega) (by omega)) ?_
    refine V_bipush F (v := nI 8) dL_sizes_61 (by decide) ?_
    refine V_irem F dL_sizes_63 (by decide) ?_
    refine V_val F (pk_rem (by omega) (by omega) (by omega)) ?_
    refine V_val F (congrArg nI w2) ?_
    (first | refine V_iaddN F dL_sizes_64 ?_ | refine V_iadd F dL_sizes_64 ?_)
    (first | refine V_imulN F dL_sizes_65 ?_ | refine V_imul F dL_sizes_65 ?_)
    (first | refine V_iaddN F dL_sizes_66 ?_ | refine V_iadd F dL_sizes_66 ?_)
    refine V_iload F dL_sizes_67 rfl ?_
    refine V_aload_n F dL_sizes_69 rfl ?_
    refine V_iload F dL_sizes_70 rfl ?_
    refine V_ia F dL_sizes_72 rfl (rfl) (show q < 24 by omega) (eq) ?_
    refine V_bipush F (v := nI 8) dL_sizes_73 (by decide) ?_
    refine V_irem F dL_sizes_75 (by decide) ?_
    refine V_val F (pk_rem (by omega) (by omega) (by omega)) ?_
    refine V_val F (congrArg nI w3) ?_
    refine V_callSi F (c_most (by omega) (by omega)) mi_L_most ms_L_most lk_L_9 dL_sizes_76 (rmR (by omega)) rfl rfl (by decide) (Nat.le_of_ble_eq_true rfl) ?_
    (first | refine V_iaddN F dL_sizes_79 ?_ | refine V_iadd F dL_sizes_79 ?_)
    exact V_iret F dL_sizes_80 (⟨congrArg (fun z => some (Value.int (nI z))) (by have := h5 hk5; unfold szF bD bB bN; rw [if_neg (show ¬ k ≤ 3 by omega), if_neg (show ¬ k ≤ 3 by omega), if_neg (show ¬ k = 3 by omega)]; omega), rfl⟩)
theorem c_builds {k x y p q : Nat} (hI : XInv T n μ) (hk1 : 1 ≤ k) (hk : k ≤ 5) (hx : x < 6) (hy : y < 6) (hp : p < n) (hq : q < n) (h1 : k = 1 → x = 0 ∧ y = 0) (h3 : k = 3 → y = 0) (h5 : k = 5 → x = 0 ∧ y = 0) : Ct (GS g) l (5) yL_builds cL_builds 6 (some .int) [.ref (g.1 0), .int (nI k), .int (nI x), .int (nI y), .int (nI p), .int (nI q)] μ (BQ T n k x y p (if k = 5 then q else 0) μ) := by
  have hn := hI.1.n24
  have e : (nI k).toInt = (k : Int) := nI_toInt (by omega)
  refine Ct.of (own := RL) mi_L_builds rfl [some (.ref (g.1 0)), some (.int (nI k)), some (.int (nI x)), some (.int (nI y)), some (.int (nI p)), some (.int (nI q))] (Nat.le_of_ble_eq_true rfl) rfl (fun p₀ e₀ s₀ m₀ b₀ h₀ c₀ F => ?_)
  refine V_iload_n F dL_builds_0 rfl ?_
  rcases (by omega : k = 1 ∨ k = 2 ∨ k = 3 ∨ k = 4 ∨ k = 5) with rfl | rfl | rfl | rfl | rfl
  · obtain ⟨rfl, rfl⟩ := h1 rfl
    refine V_tableIn F (off := 31) (tgt := 32) dL_builds_1 (by rw [e]; omega) (by rw [e]; omega) (by rw [e]; rfl) (by decide) ?_
    refine V_aload_n F dL_builds_32 rfl ?_
    refine V_iload F dL_builds_33 rfl ?_
    refine V_callV F (q0 := 0) (c_tau hI _) mi_X3_tau mm_X3_tau lk_L_19 dL_builds_35 (rmR (by omega)) rfl rfl (by decide) (Nat.le_of_ble_eq_true rfl) rfl rfl rfl (fun r μ' h => ?_)
    have h : BQ T n 1 0 0 p 0 μ r μ' := by have h2 := h; unfold oTau at h2; rw [pj_nI hp (by omega)] at h2; exact h2
    rcases h with ⟨h1, rfl, h2⟩ | ⟨h1, rfl, h2⟩
    · exact V_iret F dL_builds_38 (Or.inl ⟨h1, rfl, h2⟩)
    · exact V_iret F dL_builds_38 (Or.inr ⟨h1, rfl, h2⟩)
  · refine V_tableIn F (off := 38) (tgt := 39) dL_builds_1 (by rw [e]; omega) (by rw [e]; omega) (by rw [e]; rfl) (by decide) ?_
    refine V_aload_n F dL_builds_39 rfl ?_
    refine V_iload_n F dL_builds_40 rfl ?_
    refine V_iload_n F dL_builds_41 rfl ?_
    refine V_iload F dL_builds_42 rfl ?_
    refine V_callV F (q0 := 0) (c_output hI _ _ _) mi_X3_output mm_X3_output lk_L_24 dL_builds_44 (rmR (by omega)) rfl rfl (by decide) (Nat.le_of_ble_eq_true rfl) rfl rfl rfl (fun r μ' h => ?_)
    have h : BQ T n 2 x y p 0 μ r μ' := by have h2 := h; unfold oOut at h2; rw [pj_nI hx (by omega), pj_nI hy (by omega), pj_nI hp (by omega)] at h2; exact h2
    rcases h with ⟨h1, rfl, h2⟩ | ⟨h1, rfl, h2⟩
    · exact V_iret F dL_builds_47 (Or.inl ⟨h1, rfl, h2⟩)
    · exact V_iret F dL_builds_47 (Or.inr ⟨h1, rfl, h2⟩)
  · obtain rfl := h3 rfl
    refine V_tableIn F (off := 47) (tgt := 48) dL_builds_1 (by rw [e]; omega) (by rw [e]; omega) (by rw [e]; rfl) (by decide) ?_
    refine V_aload_n F dL_builds_48 rfl ?_
    refine V_iload_n F dL_builds_49 rfl ?_
    refine V_iload F dL_builds_50 rfl ?_
    refine V_callV F (q0 := 0) (c_input hI _ _) mi_X3_input mm_X3_input lk_L_28 dL_builds_52 (rmR (by omega)) rfl rfl (by decide) (Nat.le_of_ble_eq_true rfl) rfl rfl rfl (fun r μ' h => ?_)
    have h : BQ T n 3 x 0 p 0 μ r μ' := by have h2 := h; unfold oIn at h2; rw [pj_nI hx (by omega), pj_nI hp (by omega)] at h2; exact h2
    rcases h with ⟨h1, rfl, h2⟩ | ⟨h1, rfl, h2⟩
    · exact V_iret F dL_builds_55 (Or.inl ⟨h1, rfl, h2⟩)
    · exact V_iret F dL_builds_55 (Or.inr ⟨h1, rfl, h2⟩)
  · refine V_tableIn F (off := 55) (tgt := 56) dL_builds_1 (by rw [e]; omega) (by rw [e]; omega) (by rw [e]; rfl) (by decide) ?_
    refine V_aload_n F dL_builds_56 rfl ?_
    refine V_iload_n F dL_builds_57 rfl ?_
    refine V_iload_n F dL_builds_58 rfl ?_
    refine V_iload F dL_builds_59 rfl ?_
    refine V_callV F (q0 := 0) (c_match hI _ _ _) mi_X3_match mm_X3_match lk_L_31 dL_builds_61 (rmR (by omega)) rfl rfl (by decide) (Nat.le_of_ble_eq_true rfl) rfl rfl rfl (fun r μ' h => ?_)
    have h : BQ T n 4 x y p 0 μ r μ' := by have h2 := h; unfold oMat at h2; rw [pj_nI hx (by omega), pj_nI hy (by omega), pj_nI hp (by omega)] at h2; exact h2
    rcases h with ⟨h1, rfl, h2⟩ | ⟨h1, rfl, h2⟩
    · exact V_iret F dL_builds_64 (Or.inl ⟨h1, rfl, h2⟩)
    · exact V_iret F dL_builds_64 (Or.inr ⟨h1, rfl, h2⟩)
  · obtain ⟨rfl, rfl⟩ := h5 rfl
    refine V_tableOut F (tgt := 65) dL_builds_1 (by rw [e]; omega) (by decide) ?_
    refine V_aload_n F dL_builds_65 rfl ?_
    refine V_iload F dL_builds_66 rfl ?_
    refine V_iload F dL_builds_68 rfl ?_
    refine V_callV F (q0 := 0) (c_sum hI _ _) mi_X3_sum mm_X3_sum lk_L_34 dL_builds_70 (rmR (by omega)) rfl rfl (by decide) (Nat.le_of_ble_eq_true rfl) rfl rfl rfl (fun r μ' h => ?_)
    have h : BQ T n 5 0 0 p q μ r μ' := by have h2 := h; unfold oSum at h2; rw [pj_nI hp (by omega), pj_nI hq (by omega)] at h2; exact h2
    rcases h with ⟨h1, rfl, h2⟩ | ⟨h1, rfl, h2⟩
    · exact V_iret F dL_builds_73 (Or.inl ⟨h1, rfl, h2⟩)
    · exact V_iret F dL_builds_73 (Or.inr ⟨h1, rfl, h2⟩)
theorem c_related {p q : Nat} (hI : XInv T n μ) (hp : p < n) (hq : q < n) (h7p : T 7 p = 0) (h7q : T 7 q = 0) (hr : ∀ rel, rel < 3 → rnd T rel p q = 4) : Ct (GS g) l (23) yL_related cL_related 3 (some .boolean) [.ref (g.1 0), .int (nI p), .int (nI q)] μ (XQ T n μ (nI 1)) := by
  have hn := hI.1.n24
  have e : ∀ k, k < 3 → rPair (fRel T) T n (nI p) (nI q) (nI k) = nI 1 := fun k hk => by rw [rPair_ok (by omega) hp hq hk h7p h7q]; exact if_pos (hr k hk)
  refine Ct.of (own := RL) mi_L_related rfl [some (.ref (g.1 0)), some (.int (nI p)), some (.int (nI q))] (Nat.le_of_ble_eq_true rfl) rfl (fun p₀ e₀ s₀ m₀ b₀ h₀ c₀ F => ?_)
  refine V_aload_n F dL_related_0 rfl ?_
  refine V_iload_n F dL_related_1 rfl ?_
  refine V_iload_n F dL_related_2 rfl ?_
  refine V_iconst F (v := nI 0) dL_related_3 (by decide) ?_
  refine V_callV F (q0 := 0) (c_areRelated hI _ _ _) mi_X3_areRelated mm_X3_areRelated lk_L_53 dL_related_4 (rmR (by omega)) rfl rfl (by decide) (Nat.le_of_ble_eq_true rfl) rfl rfl rfl (fun r μ' h => ?_)
  obtain ⟨rfl, hM1, hS1⟩ := h
  have hI1 := hI.of_W hS1 hM1
  rw [e 0 (by omega)]
  refine V_iconst F (v := nI 1) dL_related_7 (by decide) ?_
  refine V_icmp_ne_f F (tgt := 49) dL_related_8 (by decide) (rfl) ?_
  refine V_aload_n F dL_related_11 rfl ?_
  refine V_iload_n F dL_related_12 rfl ?_
  refine V_iload_n F dL_related_13 rfl ?_
  refine V_iconst F (v := nI 1) dL_related_14 (by decide) ?_
  refine V_callV F (q0 := 0) (c_areRelated hI1 _ _ _) mi_X3_areRelated mm_X3_areRelated lk_L_53 dL_related_15 (rmR (by omega)) rfl rfl (by decide) (Nat.le_of_ble_eq_true rfl) rfl rfl rfl (fun r μ' h => ?_)
  obtain ⟨rfl, hM2, hS2⟩ := h
  have hI2 := hI1.of_W hS2 hM2
  rw [e 1 (by omega)]
  refine V_iconst F (v := nI 1) dL_related_18 (by decide) ?_
  refine V_icmp_ne_f F (tgt := 49) dL_related_19 (by decide) (rfl) ?_
  refine V_aload_n F dL_related_22 rfl ?_
  refine V_iload_n F dL_related_23 rfl ?_
  refine V_iload_n F dL_related_24 rfl ?_
  refine V_iconst F (v := nI 2) dL_related_25 (by decide) ?_
  refine V_callV F (q0 := 0) (c_areRelated hI2 _ _ _) mi_X3_areRelated mm_X3_areRelated lk_L_53 dL_related_26 (rmR (by omega)) rfl rfl (by decide) (Nat.le_of_ble_eq_true rfl) rfl rfl rfl (fun r μ' h => ?_)
  obtain ⟨rfl, hM3, hS3⟩ := h
  have hI3 := hI2.of_W hS3 hM3
  rw [e 2 (by omega)]
  refine V_iconst F (v := nI 1) dL_related_29 (by decide) ?_
  refine V_icmp_ne_f F (tgt := 49) dL_related_30 (by decide) (rfl) ?_
  refine V_aload_n F dL_related_33 rfl ?_
  refine V_iload_n F dL_related_34 rfl ?_
  refine V_iload_n F dL_related_35 rfl ?_
  refine V_iconst F (v := nI 2) dL_related_36 (by decide) ?_
  refine V_callV F (q0 := 0) (c_rounds hI3 _ _ _) mi_X3_rounds mm_X3_rounds lk_L_56 dL_related_37 (rmR (by omega)) rfl rfl (by decide) (Nat.le_of_ble_eq_true rfl) rfl rfl rfl (fun r μ' h => ?_)
  obtain ⟨rfl, hM4, hS4⟩ := h
  have e4 : rPair (fRnd T) T n (nI p) (nI q) (nI 2) = -4 := by rw [rPair_ok (by omega) hp hq (by omega) h7p h7q]; exact if_pos (hr 2 (by omega))
  rw [e4]
  refine V_bipush F (v := (-4)) dL_related_40 (by decide) ?_
  refine V_icmp_ne_f F (tgt := 49) dL_related_42 (by decide) (rfl) ?_
  refine V_iconst F (v := nI 1) dL_related_45 (by decide) ?_
  refine V_goto F (tgt := 50) dL_related_46 (by decide) ?_
  exact V_zret F dL_related_50 (rfl) (⟨rfl, hM4, ((hS1.trans hS2).trans hS3).trans hS4⟩)
end LAWH
end
section
section ADDS0
variable {T : Tb} {n : Nat}
theorem szF_parts (hW : WF T n) {k x y p q : Nat} (hp : p < n) (hq : q < n) (hx : x < 6) (hy : y < 6) : szF T k x y p q / 64 = bD T k p q ∧ szF T k x y p q / 8 % 8 = bB T k p q ∧ bD T k p q ≤ 4 ∧ bB T k p q ≤ 6 ∧ bN T k x y p q ≤ 3 := by
  have d1 := hW.depth hp
  have d2 := hW.depth hq
  have d3 := hW.need hp
  have d4 := hW.need hq
  have h1 : bD T k p q ≤ 4 := by unfold bD; split <;> omega
  have h2 : bB T k p q ≤ 6 := by unfold bB; split <;> omega
  have h3 : bN T k x y p q ≤ 3 := by unfold bN; omega
  unfold szF
  omega
theorem XInv_wr {μ : Mem} {i j : Nat} {v w : Int32} (hX : XInv T n μ) : XInv T n (wr (wr μ 15 i v) 16 j w) := hX.of_sameX ⟨fun c hc => by
  funext j
  rw [wr_ne (by omega), wr_ne (by omega)], rfl⟩
theorem AQ_new {k x y p q : Nat} {μ μ' : Mem} {v : Int32} (hD : DR T n μ) (hX : XInv (bT T n k x y p q) (n + 1) μ') (hs : sameM μ μ') : AQ T n (some (.int (nI (n + 1)))) (wr (wr μ' 15 n v) 16 n (nI (szF T k x y p q))) := by
  refine ⟨bT T n k x y p q, n + 1, rfl, by omega, Nat.le_refl _, XInv_wr hX, fun j hj => ?_⟩
  · by_cases hjn : j = n
    · subst hjn
      rw [wr_eq]
      simp [bT, szF]
    · rw [wr_ne (by omega), wr_ne (by omega), hs 16 (by omega), bT_old hjn, bT_old hjn, bT_old hjn]
      exact hD j (by omega)
end ADDS0
section ADDS
variable {g : Gm} {l : Launch} {μ : Mem} {T : Tb} {n : Nat}
theorem c_adds {y : Nat} (hI : XInv T n μ) (hD : DR T n μ) (hn : n < 24) (hy : y < 2 ^ 31) : Ct (GS g) l (6) yL_adds cL_adds 12 (some .int) [.ref (g.1 0), .int (nI y), .int (nI n), .ref (g.1 15), .ref (g.1 16)] μ (AQ T n) := by
  have hW := hI.1.1
  have h1n := hW.1.1
  refine Ct.of (own := RL) mi_L_adds rfl [some (.ref (g.1 0)), some (.int (nI y)), some (.int (nI n)), some (.ref (g.1 15)), some (.ref (g.1 16)), none, none, none, none, none, none, none] (Nat.le_of_ble_eq_true rfl) rfl (fun p₀ e₀ s₀ m₀ b₀ h₀ c₀ F => ?_)
  have m87 : ∀ (k x z p q : Nat), 1 ≤ k → k ≤ 5 → x < 6 → z < 6 → p < n → q < n → (k = 1 → x = 0 ∧ z = 0) → (k = 3 → z = 0) → (k = 5 → x = 0 ∧ z = 0) → V (GS g) p₀ l e₀ (rmD (6)) s₀ m₀ (List.toArray [.ref (g.1 0), .int (nI y), .int (nI n), .ref (g.1 15), .ref (g.1 16)]) b₀ h₀ c₀ 12 0 0 (MQ b₀ (Qp (GS g) (AQ T n)) (List.toArray [.ref (g.1 0), .int (nI y), .int (nI n), .ref (g.1 15), .ref (g.1 16)]) s₀ 0 0 (gA (GS g))) 87 ([some (.ref (g.1 0)), some (.int (nI y)), some (.int (nI n)), some (.ref (g.1 15)), some (.ref (g.1 16)), some (.int (nI k)), some (.int (nI x)), some (.int (nI z)), some (.int (nI p)), some (.int (nI q)), none, none]) ([]) (μ) := by
    intro k x z p q hk1 hk5 hx hz hp hq k1 k3 k5
    have hq0 : (if k = 5 then q else 0) < n := by split <;> omega
    obtain ⟨s1, s2, s3, s4, s5⟩ := szF_parts hW (k := k) (x := x) (y := z) (p := p) (q := if k = 5 then q else 0) hp hq0 hx hz
    have sb : szF T k x z p (if k = 5 then q else 0) < 2 ^ 31 := by omega
    refine V_aload F dL_adds_87 rfl ?_
    refine V_iload F dL_adds_89 rfl ?_
    refine V_iload F dL_adds_91 rfl ?_
    refine V_iload F dL_adds_93 rfl ?_
    refine V_iload F dL_adds_95 rfl ?_
    refine V_iload F dL_adds_97 rfl ?_
    refine V_callSi F (c_sizes hW hD hk1 hk5 hx hz hp hq k1 k3 k5) mi_L_sizes ms_L_sizes lk_L_37 dL_adds_99 (rmR (by omega)) rfl rfl (by decide) (Nat.le_of_ble_eq_true rfl) ?_
    refine V_istore F (lv' := [_, _, _, _, _, _, _, _, _, _, _, _]) dL_adds_102 (by decide) rfl rfl ?_
    refine V_aload_n F dL_adds_104 rfl ?_
    refine V_iload F dL_adds_105 rfl ?_
    refine V_iload F dL_adds_107 rfl ?_
    refine V_iload F dL_adds_109 rfl ?_
    refine V_iload F dL_adds_111 rfl ?_
    refine V_iload F dL_adds_113 rfl ?_
    refine V_callS F (c_builds hI hk1 hk5 hx hz hp hq k1 k3 k5) mi_L_builds ms_L_builds lk_L_41 dL_adds_115 (rmR (by omega)) rfl rfl (by decide) (Nat.le_of_ble_eq_true rfl) (fun r μ' h => ?_)
    rcases h with ⟨hf, rfl, hX, hs⟩ | ⟨hf, rfl, rfl⟩
    · obtain ⟨f1, f2, f3⟩ := id hf
      refine V_istore F (lv' := [_, _, _, _, _, _, _, _, _, _, _, _]) dL_adds_118 (by decide) rfl rfl ?_
      refine V_iload_n F dL_adds_120 rfl ?_
      refine V_bipush F (v := nI 24) dL_adds_121 (by decide) ?_
      refine V_icmp_eq_N F (tgt := 147) dL_adds_123 (by decide) (by omega) (by omega) (fun e24 => ?_) (fun e24 => ?_)
      · omega
      · skip
        refine V_iload F dL_adds_126 rfl ?_
        refine V_bipush F (v := nI 64) dL_adds_128 (by decide) ?_
        refine V_idiv F dL_adds_130 (by decide) ?_
        refine V_val F (pk_div (by omega) (by omega) (by omega)) ?_
        refine V_val F (congrArg nI s1) ?_
        refine V_iconst F (v := nI 3) dL_adds_131 (by decide) ?_
        refine V_icmp_gt_N F (tgt := 147) dL_adds_132 (by decide) (by omega) (by omega) (fun e3 => ?_) (fun e3 => ?_)
        · omega
        · skip
          refine V_iload F dL_adds_135 rfl ?_
          refine V_bipush F (v := nI 8) dL_adds_137 (by decide) ?_
          refine V_idiv F dL_adds_139 (by decide) ?_
          refine V_val F (pk_div (by omega) (by omega) (by omega)) ?_
          refine V_bipush F (v := nI 8) dL_adds_140 (by decide) ?_
          refine V_irem F dL_adds_142 (by decide) ?_
          refine V_val F (pk_rem (by omega) (by omega) (by omega)) ?_
          refine V_val F (congrArg nI s2) ?_
          refine V_iconst F (v := nI 3) dL_adds_143 (by decide) ?_
          refine V_icmp_le_N F (tgt := 160) dL_adds_144 (by decide) (by omega) (by omega) (fun e4 => ?_) (fun e4 => ?_)
          · skip
            refine V_aload_n F dL_adds_160 rfl ?_
            refine V_iload_n F dL_adds_161 rfl ?_
            refine V_iload F dL_adds_162 rfl ?_
            refine V_iload F dL_adds_164 rfl ?_
            refine V_iload F dL_adds_166 rfl ?_
            refine V_iload F dL_adds_168 rfl ?_
            refine V_iload F dL_adds_170 rfl ?_
            refine V_iconst F (v := nI 5) dL_adds_172 (by decide) ?_
            have m182 : ∀ w : Int32, V (GS g) p₀ l e₀ (rmD (6)) s₀ m₀ (List.toArray [.ref (g.1 0), .int (nI y), .int (nI n), .ref (g.1 15), .ref (g.1 16)]) b₀ h₀ c₀ 12 0 0 (MQ b₀ (Qp (GS g) (AQ T n)) (List.toArray [.ref (g.1 0), .int (nI y), .int (nI n), .ref (g.1 15), .ref (g.1 16)]) s₀ 0 0 (gA (GS g))) 182 ([some (.ref (g.1 0)), some (.int (nI y)), some (.int (nI n)), some (.ref (g.1 15)), some (.ref (g.1 16)), some (.int (nI k)), some (.int (nI x)), some (.int (nI z)), some (.int (nI p)), some (.int (nI q)), some (.int (nI (szF T k x z p (if k = 5 then q else 0)))), some (.int (nI n))]) ([.int w, .int (nI p), .int (nI z), .int (nI x), .int (nI k), .int (nI n), .ref (g.1 15)]) (μ') := by
              intro w
              refine V_callS F (c_process _ _ _ _ _) mi_L_process ms_L_process lk_L_45 dL_adds_182 (rmR (by omega)) rfl rfl (by decide) (Nat.le_of_ble_eq_true rfl) (fun r μ' h => ?_)
              obtain ⟨⟨v, rfl⟩, rfl⟩ := h
              refine V_ias F dL_adds_185 rfl (rfl) (show n < 24 by omega) ?_
              refine V_aload F dL_adds_186 rfl ?_
              refine V_iload_n F dL_adds_188 rfl ?_
              refine V_iload F dL_adds_189 rfl ?_
              refine V_ias F dL_adds_191 rfl (rfl) (show n < 24 by omega) ?_
              have hA := AQ_new (v := v) hD hX hs
              refine V_iload F dL_adds_192 rfl ?_
              refine V_iload_n F dL_adds_194 rfl ?_
              refine V_icmp_ne_f F (tgt := 214) dL_adds_195 (by decide) (rfl) ?_
              refine V_aload_n F dL_adds_198 rfl ?_
              refine V_callVi F (q0 := 0) (c_processCount (XInv_wr hX).1) mi_X3_processCount mm_X3_processCount lk_L_49 dL_adds_199 (rmR (by omega)) rfl rfl (by decide) (Nat.le_of_ble_eq_true rfl) rfl rfl rfl ?_
              refine V_iload_n F dL_adds_202 rfl ?_
              refine V_iconst F (v := nI 1) dL_adds_203 (by decide) ?_
              (first | refine V_iaddN F dL_adds_204 ?_ | refine V_iadd F dL_adds_204 ?_)
              refine V_icmp_ne_f F (tgt := 214) dL_adds_205 (by decide) (rfl) ?_
              refine V_iload_n F dL_adds_208 rfl ?_
              refine V_iconst F (v := nI 1) dL_adds_209 (by decide) ?_
              (first | refine V_iaddN F dL_adds_210 ?_ | refine V_iadd F dL_adds_210 ?_)
              refine V_goto F (tgt := 215) dL_adds_211 (by decide) ?_
              exact V_iret F dL_adds_215 hA
            refine V_icmp_ne_N F (tgt := 181) dL_adds_173 (by decide) (by omega) (by omega) (fun e5 => ?_) (fun e5 => ?_)
            · skip
              refine V_iconst F (v := nI 0) dL_adds_181 (by decide) ?_
              exact m182 _
            · skip
              refine V_iload F dL_adds_176 rfl ?_
              refine V_goto F (tgt := 182) dL_adds_178 (by decide) ?_
              exact m182 _
          · omega
    · skip
      have m147 : V (GS g) p₀ l e₀ (rmD (6)) s₀ m₀ (List.toArray [.ref (g.1 0), .int (nI y), .int (nI n), .ref (g.1 15), .ref (g.1 16)]) b₀ h₀ c₀ 12 0 0 (MQ b₀ (Qp (GS g) (AQ T n)) (List.toArray [.ref (g.1 0), .int (nI y), .int (nI n), .ref (g.1 15), .ref (g.1 16)]) s₀ 0 0 (gA (GS g))) 147 ([some (.ref (g.1 0)), some (.int (nI y)), some (.int (nI n)), some (.ref (g.1 15)), some (.ref (g.1 16)), some (.int (nI k)), some (.int (nI x)), some (.int (nI z)), some (.int (nI p)), some (.int (nI q)), some (.int (nI (szF T k x z p (if k = 5 then q else 0)))), some (.int (-3))]) ([]) (μ') := by
        refine V_iload F dL_adds_147 rfl ?_
        refine V_bipush F (v := (-3)) dL_adds_149 (by decide) ?_
        refine V_icmp_ne_f F (tgt := 158) dL_adds_151 (by decide) (rfl) ?_
        refine V_iload_n F dL_adds_154 rfl ?_
        refine V_goto F (tgt := 159) dL_adds_155 (by decide) ?_
        exact V_iret F dL_adds_159 ⟨T, n, rfl, Nat.le_refl _, by omega, hI, hD⟩
      refine V_istore F (lv' := [_, _, _, _, _, _, _, _, _, _, _, _]) dL_adds_118 (by decide) rfl rfl ?_
      refine V_iload_n F dL_adds_120 rfl ?_
      refine V_bipush F (v := nI 24) dL_adds_121 (by decide) ?_
      refine V_icmp_eq_N F (tgt := 147) dL_adds_123 (by decide) (by omega) (by omega) (fun e24 => ?_) (fun e24 => ?_)
      · exact m147
      · skip
        refine V_iload F dL_adds_126 rfl ?_
        refine V_bipush F (v := nI 64) dL_adds_128 (by decide) ?_
        refine V_idiv F dL_adds_130 (by decide) ?_
        refine V_val F (pk_div (by omega) (by omega) (by omega)) ?_
        refine V_val F (congrArg nI s1) ?_
        refine V_iconst F (v := nI 3) dL_adds_131 (by decide) ?_
        refine V_icmp_gt_N F (tgt := 147) dL_adds_132 (by decide) (by omega) (by omega) (fun e3 => ?_) (fun e3 => ?_)
        · exact m147
        · skip
          refine V_iload F dL_adds_135 rfl ?_
          refine V_bipush F (v := nI 8) dL_adds_137 (by decide) ?_
          refine V_idiv F dL_adds_139 (by decide) ?_
          refine V_val F (pk_div (by omega) (by omega) (by omega)) ?_
          refine V_bipush F (v := nI 8) dL_adds_140 (by decide) ?_
          refine V_irem F dL_adds_142 (by decide) ?_
          refine V_val F (pk_rem (by omega) (by omega) (by omega)) ?_
          refine V_val F (congrArg nI s2) ?_
          refine V_iconst F (v := nI 3) dL_adds_143 (by decide) ?_
          refine V_icmp_le_N F (tgt := 160) dL_adds_144 (by decide) (by omega) (by omega) (fun e4 => ?_) (fun e4 => ?_)
          · exact absurd ⟨hn, by omega, e4⟩ hf
          · exact m147
  have m66 : ∀ (k x z p q : Nat), 1 ≤ k → k ≤ 5 → x < 6 → z < 6 → p < n → q < n → (k = 1 → x = 0) → (k = 5 → x = 0) → V (GS g) p₀ l e₀ (rmD (6)) s₀ m₀ (List.toArray [.ref (g.1 0), .int (nI y), .int (nI n), .ref (g.1 15), .ref (g.1 16)]) b₀ h₀ c₀ 12 0 0 (MQ b₀ (Qp (GS g) (AQ T n)) (List.toArray [.ref (g.1 0), .int (nI y), .int (nI n), .ref (g.1 15), .ref (g.1 16)]) s₀ 0 0 (gA (GS g))) 66 ([some (.ref (g.1 0)), some (.int (nI y)), some (.int (nI n)), some (.ref (g.1 15)), some (.ref (g.1 16)), some (.int (nI k)), some (.int (nI x)), some (.int (nI z)), some (.int (nI p)), some (.int (nI q)), none, none]) ([]) (μ) := by
    intro k x z p q hk1 hk5 hx hz hp hq k1 k5
    refine V_iload F dL_adds_66 rfl ?_
    refine V_iconst F (v := nI 1) dL_adds_68 (by decide) ?_
    refine V_icmp_eq_N F (tgt := 84) dL_adds_69 (by decide) (by omega) (by omega) (fun e1 => ?_) (fun e1 => ?_)
    · skip
      refine V_iconst F (v := nI 0) dL_adds_84 (by decide) ?_
      refine V_istore F (lv' := [_, _, _, _, _, _, _, _, _, _, _, _]) dL_adds_85 (by decide) rfl rfl ?_
      exact m87 k x 0 p q hk1 hk5 hx (by omega) hp hq (fun h => ⟨k1 h, rfl⟩) (fun _ => rfl) (fun h => ⟨k5 h, rfl⟩)
    · skip
      refine V_iload F dL_adds_72 rfl ?_
      refine V_iconst F (v := nI 3) dL_adds_74 (by decide) ?_
      refine V_icmp_eq_N F (tgt := 84) dL_adds_75 (by decide) (by omega) (by omega) (fun e3 => ?_) (fun e3 => ?_)
      · skip
        refine V_iconst F (v := nI 0) dL_adds_84 (by decide) ?_
        refine V_istore F (lv' := [_, _, _, _, _, _, _, _, _, _, _, _]) dL_adds_85 (by decide) rfl rfl ?_
        exact m87 k x 0 p q hk1 hk5 hx (by omega) hp hq (fun h => ⟨k1 h, rfl⟩) (fun _ => rfl) (fun h => ⟨k5 h, rfl⟩)
      · skip
        refine V_iload F dL_adds_78 rfl ?_
        refine V_iconst F (v := nI 5) dL_adds_80 (by decide) ?_
        refine V_icmp_ne_N F (tgt := 87) dL_adds_81 (by decide) (by omega) (by omega) (fun e5 => ?_) (fun e5 => ?_)
        · exact m87 k x z p q hk1 hk5 hx hz hp hq (fun h => absurd h e1) (fun h => absurd h e3) (fun h => absurd h e5)
        · skip
          refine V_iconst F (v := nI 0) dL_adds_84 (by decide) ?_
          refine V_istore F (lv' := [_, _, _, _, _, _, _, _, _, _, _, _]) dL_adds_85 (by decide) rfl rfl ?_
          exact m87 k x 0 p q hk1 hk5 hx (by omega) hp hq (fun h => ⟨k1 h, rfl⟩) (fun _ => rfl) (fun h => ⟨k5 h, rfl⟩)
  have m51 : ∀ (k x z p q : Nat), 1 ≤ k → k ≤ 5 → x < 6 → z < 6 → p < n → q < n → V (GS g) p₀ l e₀ (rmD (6)) s₀ m₀ (List.toArray [.ref (g.1 0), .int (nI y), .int (nI n), .ref (g.1 15), .ref (g.1 16)]) b₀ h₀ c₀ 12 0 0 (MQ b₀ (Qp (GS g) (AQ T n)) (List.toArray [.ref (g.1 0), .int (nI y), .int (nI n), .ref (g.1 15), .ref (g.1 16)]) s₀ 0 0 (gA (GS g))) 51 ([some (.ref (g.1 0)), some (.int (nI y)), some (.int (nI n)), some (.ref (g.1 15)), some (.ref (g.1 16)), some (.int (nI k)), some (.int (nI x)), some (.int (nI z)), some (.int (nI p)), some (.int (nI q)), none, none]) ([]) (μ) := by
    intro k x z p q hk1 hk5 hx hz hp hq
    refine V_iload F dL_adds_51 rfl ?_
    refine V_iconst F (v := nI 1) dL_adds_53 (by decide) ?_
    refine V_icmp_eq_N F (tgt := 63) dL_adds_54 (by decide) (by omega) (by omega) (fun e1 => ?_) (fun e1 => ?_)
    · skip
      refine V_iconst F (v := nI 0) dL_adds_63 (by decide) ?_
      refine V_istore F (lv' := [_, _, _, _, _, _, _, _, _, _, _, _]) dL_adds_64 (by decide) rfl rfl ?_
      exact m66 k 0 z p q hk1 hk5 (by omega) hz hp hq (fun _ => rfl) (fun _ => rfl)
    · skip
      refine V_iload F dL_adds_57 rfl ?_
      refine V_iconst F (v := nI 5) dL_adds_59 (by decide) ?_
      refine V_icmp_ne_N F (tgt := 66) dL_adds_60 (by decide) (by omega) (by omega) (fun e5 => ?_) (fun e5 => ?_)
      · exact m66 k x z p q hk1 hk5 hx hz hp hq (fun h => absurd h e1) (fun h => absurd h e5)
      · skip
        refine V_iconst F (v := nI 0) dL_adds_63 (by decide) ?_
        refine V_istore F (lv' := [_, _, _, _, _, _, _, _, _, _, _, _]) dL_adds_64 (by decide) rfl rfl ?_
        exact m66 k 0 z p q hk1 hk5 (by omega) hz hp hq (fun _ => rfl) (fun _ => rfl)
  refine V_iconst F (v := nI 1) dL_adds_0 (by decide) ?_
  refine V_iload_n F dL_adds_1 rfl ?_
  refine V_iconst F (v := nI 5) dL_adds_2 (by decide) ?_
  refine V_irem F dL_adds_3 (by decide) ?_
  refine V_val F (pk_rem (by omega) (by omega) (by omega)) ?_
  (first | refine V_iaddN F dL_adds_4 ?_ | refine V_iadd F dL_adds_4 ?_)
  refine V_istore F (lv' := [_, _, _, _, _, _, _, _, _, _, _, _]) dL_adds_5 (by decide) rfl rfl ?_
  refine V_iload_n F dL_adds_7 rfl ?_
  refine V_iconst F (v := nI 3) dL_adds_8 (by decide) ?_
  refine V_ishr F dL_adds_9 ?_
  refine V_val F (pk_shrN (by omega) _ 3 (by decide +kernel)) ?_
  refine V_iconst F (v := nI 5) dL_adds_10 (by decide) ?_
  refine V_irem F dL_adds_11 (by decide) ?_
  refine V_val F (pk_rem (by omega) (by omega) (by omega)) ?_
  refine V_istore F (lv' := [_, _, _, _, _, _, _, _, _, _, _, _]) dL_adds_12 (by decide) rfl rfl ?_
  refine V_iload_n F dL_adds_14 rfl ?_
  refine V_bipush F (v := nI 6) dL_adds_15 (by decide) ?_
  refine V_ishr F dL_adds_17 ?_
  refine V_val F (pk_shrN (by omega) _ 6 (by decide +kernel)) ?_
  refine V_iconst F (v := nI 5) dL_adds_18 (by decide) ?_
  refine V_irem F dL_adds_19 (by decide) ?_
  refine V_val F (pk_rem (by omega) (by omega) (by omega)) ?_
  refine V_istore F (lv' := [_, _, _, _, _, _, _, _, _, _, _, _]) dL_adds_20 (by decide) rfl rfl ?_
  refine V_iload_n F dL_adds_22 rfl ?_
  refine V_iconst F (v := nI 1) dL_adds_23 (by decide) ?_
  refine V_isubN F (h1n) dL_adds_24 ?_
  refine V_iload_n F dL_adds_25 rfl ?_
  refine V_bipush F (v := nI 9) dL_adds_26 (by decide) ?_
  refine V_ishr F dL_adds_28 ?_
  refine V_val F (pk_shrN (by omega) _ 9 (by decide +kernel)) ?_
  refine V_iload_n F dL_adds_29 rfl ?_
  refine V_iconst F (v := nI 4) dL_adds_30 (by decide) ?_
  have m39 : ∀ m, 1 ≤ m → m ≤ n → V (GS g) p₀ l e₀ (rmD (6)) s₀ m₀ (List.toArray [.ref (g.1 0), .int (nI y), .int (nI n), .ref (g.1 15), .ref (g.1 16)]) b₀ h₀ c₀ 12 0 0 (MQ b₀ (Qp (GS g) (AQ T n)) (List.toArray [.ref (g.1 0), .int (nI y), .int (nI n), .ref (g.1 15), .ref (g.1 16)]) s₀ 0 0 (gA (GS g))) 39 ([some (.ref (g.1 0)), some (.int (nI y)), some (.int (nI n)), some (.ref (g.1 15)), some (.ref (g.1 16)), some (.int (nI (1 + y % 5))), some (.int (nI (y / 2 ^ 3 % 5))), some (.int (nI (y / 2 ^ 6 % 5))), none, none, none, none]) ([.int (nI m), .int (nI (y / 2 ^ 9)), .int (nI (n - 1))]) (μ) := by
    intro m hm1 hm
    have hr := Nat.mod_lt (y / 2 ^ 9) (show 0 < m by omega)
    refine V_irem F dL_adds_39 (nI_nz (by omega) (by omega)) ?_
    refine V_val F (pk_rem (by omega) (by omega) (by omega)) ?_
    refine V_isubN F (by omega) dL_adds_40 ?_
    refine V_istore F (lv' := [_, _, _, _, _, _, _, _, _, _, _, _]) dL_adds_41 (by decide) rfl rfl ?_
    refine V_iload_n F dL_adds_43 rfl ?_
    refine V_bipush F (v := nI 12) dL_adds_44 (by decide) ?_
    refine V_ishr F dL_adds_46 ?_
    refine V_val F (pk_shrN (by omega) _ 12 (by decide +kernel)) ?_
    refine V_iload_n F dL_adds_47 rfl ?_
    refine V_irem F dL_adds_48 (nI_nz (by omega) (by omega)) ?_
    refine V_val F (pk_rem (by omega) (by omega) (by omega)) ?_
    refine V_istore F (lv' := [_, _, _, _, _, _, _, _, _, _, _, _]) dL_adds_49 (by decide) rfl rfl ?_
    exact m51 _ _ _ _ _ (by omega) (by omega) (by omega) (by omega) (by omega) (Nat.mod_lt _ (by omega))
  refine V_icmp_ge_N F (tgt := 38) dL_adds_31 (by decide) (by omega) (by omega) (fun e4 => ?_) (fun e4 => ?_)
  · skip
    refine V_iconst F (v := nI 4) dL_adds_38 (by decide) ?_
    exact m39 4 (by omega) (by omega)
  · skip
    refine V_iload_n F dL_adds_34 rfl ?_
    refine V_goto F (tgt := 39) dL_adds_35 (by decide) ?_
    exact m39 n h1n (Nat.le_refl _)
end ADDS
end
section
section CELL
theorem lc_L_7 : Cond.constant RL 7 (15485959) ∈ wsG := wsG_mem 349 (by decide +kernel) (by decide +kernel)
theorem lc_L_8 : Cond.constant RL 8 (2147483647) ∈ wsG := wsG_mem 350 (by decide +kernel) (by decide +kernel)
theorem and_nn (w : Int32) : ¬ (w &&& 2147483647) < 0 := by
  have h : (w &&& 2147483647).toBitVec.msb = false := by
    show (w.toBitVec &&& (2147483647 : Int32).toBitVec).msb = false
    rw [BitVec.msb_and, show (2147483647 : Int32).toBitVec.msb = false by decide +kernel, Bool.and_false]
  have h2 : (0 : Int) ≤ (w &&& 2147483647).toInt := by
    show (0 : Int) ≤ (w &&& 2147483647).toBitVec.toInt
    rw [BitVec.toInt_eq_toNat_of_msb h]
    exact Int.natCast_nonneg _
  rw [Int32.lt_iff_toInt_lt]
  exact Int.not_lt.mpr h2
/-- the cell's answer: an int that is no less than 0 -/
def CQ (μ : Mem) : Option Value → Mem → Prop := fun r μ' => (∃ y : Nat, y < 2 ^ 31 ∧ r = some (.int (nI y))) ∧ μ' = μ
def PpX (G : Geo) (b L : Nat) (xs : Nat → Int32) (av : List Value) (μ : Mem) : Array Value → State → Prop := va_Pc av (fun U => va_P (gD G) vwCl (gW G μ) U.heap ∧ St G U U.heap ∧ va_X b L xs U U.heap ∧ b < U.heap.size)
theorem va_X_step {A : Nat → Prop} {b L : Nat} {xs : Nat → Int32} {s U : State} {H : Heap} {locs : List Loc} (h : va_X b L xs s s.heap) (hbl : b < s.heap.size) (hbA : ¬ A b) (hS : va_S A s.heap H locs) (hW : s.WarmedH U.vm) : va_X b L xs U H := by
  obtain ⟨scr, h1, h2, h3, h4, h5⟩ := h
  exact ⟨scr, by rw [hS.2.1 b hbl hbA]; exact h1, State.isArrayOf_alike hW.alike h2, h3, h4, h5⟩
theorem PpX.blind {G : Geo} {b L : Nat} {xs : Nat → Int32} {av : List Value} {μ : Mem} : FrameBlind (PpX G b L xs av μ) := fun a U g mk h => ⟨h.1, h.2.1, h.2.2.1.calling g mk a, by
  obtain ⟨scr, h1, h2, h3⟩ := h.2.2.2.1
  exact ⟨scr, h1, State.isArrayOf_alike (T := U.calling g mk a) (Vm.Alike.refl U.vm) h2, h3⟩, h.2.2.2.2⟩
def CtX (G : Geo) (b L : Nat) (xs : Nat → Int32) (l : Launch) (dp : Nat) (y : MethodName) (cb : ByteArray) (nL : Nat) (ret : Option FieldType) (av : List Value) (μ : Mem) (Q : Option Value → Mem → Prop) : Prop :=
  Met l y (Cond.code y cb nL ret :: wsG) (rmD dp) (PpX G b L xs av μ) (Qp G Q) 0 0 (gA G)
theorem CtX.of {G : Geo} {b L : Nat} {xs : Nat → Int32} {l : Launch} {dp : Nat} {y : MethodName} {own : String} {cb : ByteArray} {nL j : Nat} {ret : Option FieldType} {av : List Value} {μ : Mem} {Q : Option Value → Mem → Prop} (hM : MI y cb nL ret j) (ho : y.cls = own) (lv : List (Option Value)) (hn : (lg_sl av).length ≤ nL) (hlv : al 0 lv = lv_args 0 av)
    (body : ∀ (p : Program) (e : Env) (s : State) (m : MethodId) (below : List Frame) (meth : Method) (c : Code), va_X b L xs s s.heap → b < s.heap.size → Fx G p (rmD dp) s m av.toArray meth c own cb nL ret 0 0 → V G p l e (rmD dp) s m av.toArray below meth c nL 0 0 (MQ below (Qp G Q) av.toArray s 0 0 (gA G)) 0 lv [] μ) : CtX G b L xs l dp y cb nL ret av μ Q := by
  refine Met.ofW (cc := cb) (maxL := nL) (ret := ret) hM.2.2.2 rfl ?_
  intro p e s m args below meth c s₁ B hml hv
  obtain ⟨rfl, hP, hst, hX, hbl⟩ := hv
  have hts := atoms_spec (ws := Cond.code y cb nL ret :: wsG) B.pre
  have hown : s.vm.findClass y.cls = some m.cls := findClass_of_methodNamed B.named
  have hl := lv_entry av (n := nL) hn
  rw [lg_entry_eq]
  exact body p e s m below meth c hX hbl ⟨B.exec, B.bytes, B.returns, B.notSynchronized, hml, ho ▸ hown, fun w hw => hts w (List.mem_cons_of_mem _ hw), hst, Nat.zero_le _, Nat.zero_le _⟩ s.heap [] _ hP va_S.rf (hlv ▸ hl)
section CROWSX
variable {G : Geo} {p : Program} {l : Launch} {e : Env} {R : Room} {s : State} {m : MethodId} {args : Array Value} {below : List Frame} {meth : Method} {c : Code} {k n : Nat} {Z : State → Prop} {own : String} {cc : ByteArray} {nL pc : Nat} {ret : Option FieldType} {lv : List (Option Value)} {st : List Value} {μ : Mem} {b L : Nat} {xs : Nat → Int32}
theorem V_sld (F : Fx G p R s m args meth c own cc nL ret k n) (hX : va_X b L xs s s.heap) (hbl : b < s.heap.size) (hbA : ¬ gA G b) (hL : L ≤ 2048) {j : Nat} (hj : j < L) (d : decode cc pc = .ok (.iaload, 1)) (kk : V G p l e R s m args below meth c nL k n Z (pc + 1) lv (.int (xs j) :: st) μ) : V G p l e R s m args below meth c nL k n Z pc lv (.int (nI j) :: .ref b :: st) μ := by
  intro H locs ls hP hS hl
  refine va_sld F.1 F.2.1 hX hbl hbA hS (vp_in_nI hj (by omega)) d ?_
  rw [nI_clamp (by omega)]
  exact kk H locs ls hP hS hl
theorem V_sln (F : Fx G p R s m args meth c own cc nL ret k n) (hX : va_X b L xs s s.heap) (hbl : b < s.heap.size) (hbA : ¬ gA G b) (d : decode cc pc = .ok (.arraylength, 1)) (kk : V G p l e R s m args below meth c nL k n Z (pc + 1) lv (.int (nI L) :: st) μ) : V G p l e R s m args below meth c nL k n Z pc lv (.ref b :: st) μ := by
  intro H locs ls hP hS hl
  exact va_slen F.1 F.2.1 hX hbl hbA hS d (kk H locs ls hP hS hl)
theorem V_ldcI (F : Fx G p R s m args meth c own cc nL ret k n) {index : Nat} {v : Int32} (hc : Cond.constant own index v ∈ wsG) (d : decode cc pc = .ok (.ldc index, 2)) (kk : V G p l e R s m args below meth c nL k n Z (pc + 2) lv (.int v :: st) μ) : V G p l e R s m args below meth c nL k n Z pc lv st μ := by
  intro H locs ls hP hS hl
  exact lv_ldc F.1 F.2.1 F.2.2.2.2.2.1 (F.2.2.2.2.2.2.1 _ hc) d (kk H locs ls hP hS hl)
theorem V_callX (F : Fx G p R s m args meth c own cc nL ret k n) (hX : va_X b L xs s s.heap) (hbl : b < s.heap.size) (hbA : ¬ gA G b) {y : MethodName} {cb : ByteArray} {nLc dp index j : Nat} {retc : Option FieldType} {As : List Value} {Qc : Option Value → Mem → Prop} (hC : CtX G b L xs l dp y cb nLc retc As μ Qc) (hM : MI y cb nLc retc j) (hs : Cond.static y ∈ wsG) (hlink : Cond.methodLink own index y ∈ wsG) (d : decode cc pc = .ok (.invokestatic index, 3)) (hR : dp + 1 ≤ R.frames ∧ (dp + 1) * 40 ≤ R.locals) {st0 : List Value} (hst : st0 = As.reverse ++ st) (hn : As.length = j) (hnl : nLc ≤ 21) (hw : (st.map fun v => v.category).sum ≤ 8)
    (kk : ∀ (r : Option Value) (μ' : Mem), Qc r μ' → V G p l e R s m args below meth c nL k n Z (pc + 3) lv (r.toList ++ st) μ') : V G p l e R s m args below meth c nL k n Z pc lv st0 μ := by
  refine V_run (As := As.toArray) (Qc := Qc) (fun H locs ls hP hS hz => ?_) kk
  subst hst
  exact va_runS ⟨F.1, F.2.1, F.2.2.2.2.1, F.2.2.2.2.2.1, F.2.2.2.2.2.2.1⟩ hC ⟨callB_of j F.2.2.2.2.2.2.1 (good_code hM.1) rfl rfl rfl (F.2.2.2.2.2.2.1 _ hM.2.1) (F.2.2.2.2.2.2.1 _ hlink) hM.2.2.1 (room_ok hR hnl), F.2.2.2.2.2.2.1 _ hs⟩
    ⟨PpX.blind, fun U hU hW => ⟨rfl, by rw [hU]; exact hP, by rw [hU]; exact F.2.2.2.2.2.2.2.1.step hS hW, by rw [hU]; exact va_X_step hX hbl hbA hS hW, by rw [hU]; exact Nat.lt_of_lt_of_le hbl hS.1⟩⟩ rfl hn hz rfl (lv_room hw) d F.2.2.2.2.2.2.2.2
end CROWSX
variable {g : Gm} {l : Launch} {μ : Mem} {b L : Nat} {xs : Nat → Int32}
theorem c_cell {k : Nat} (hk : k < 2 ^ 20) (hL : L ≤ 2048) (hbA : ¬ AS g.1 b) : CtX (GS g) b L xs l 0 yL_cell cL_cell 2 (some .int) [.ref b, .int (nI k)] μ (CQ μ) := by
  refine CtX.of (own := RL) mi_L_cell rfl [some (.ref b), some (.int (nI k))] (Nat.le_of_ble_eq_true rfl) rfl (fun p₀ e₀ s₀ m₀ b₀ h₀ c₀ hX hbl F => ?_)
  have fin : ∀ w : Int32, V (GS g) p₀ l e₀ (rmD 0) s₀ m₀ #[.ref b, .int (nI k)] b₀ h₀ c₀ 2 0 0 (MQ b₀ (Qp (GS g) (CQ μ)) #[.ref b, .int (nI k)] s₀ 0 0 (gA (GS g))) 19 [some (.ref b), some (.int (nI k))] [.int w] μ := by
    intro w
    refine V_ldcI F lc_L_8 dL_cell_19 ?_
    refine V_iand F dL_cell_21 ?_
    obtain ⟨y, hy, e⟩ := nI_of (and_nn w)
    rw [e]
    exact V_iret F dL_cell_22 ⟨⟨y, hy, rfl⟩, rfl⟩
  refine V_iload_n F dL_cell_0 rfl ?_
  refine V_aload_n F dL_cell_1 rfl ?_
  refine V_sln F hX hbl hbA dL_cell_2 ?_
  refine V_icmp_ge_N F (tgt := 12) dL_cell_3 (by decide) (by omega) (by omega) (fun h => ?_) (fun h => ?_)
  · refine V_ldcI F lc_L_7 dL_cell_12 ?_
    refine V_iload_n F dL_cell_14 rfl ?_
    refine V_imul F dL_cell_15 ?_
    refine V_bipush F (v := nI 109) dL_cell_16 (by decide) ?_
    refine V_iadd F dL_cell_18 ?_
    exact fin _
  · skip
    refine V_aload_n F dL_cell_6 rfl ?_
    refine V_iload_n F dL_cell_7 rfl ?_
    refine V_sld F hX hbl hbA hL (by omega) dL_cell_8 ?_
    refine V_goto F (tgt := 19) dL_cell_9 (by decide) ?_
    exact fin _
end CELL
end
section
section CTOR
abbrev Kp : Type := va_G × (ClassId × ClassId) × (Nat → Nat) × (Nat → Nat)
/-- a geometry whose world is this list -/
abbrev Gc (κ : Kp) (N0 : Nat) (ws : va_W) : Geo := (fun _ => ws, fun q => N0 ≤ q, κ.1, κ.2.1, κ.2.2.1, κ.2.2.2)
abbrev rmC (dp mc ms : Nat) : Room := { frames := dp, cells := mc, slots := ms, locals := dp * 40 }
abbrev aI (κ : Kp) (q N : Nat) (f : Nat → Int32) : Nat × va_E := (q, .inl (κ.2.1.1, N, .inl f))
abbrev aJ (κ : Kp) (q N : Nat) (f : Nat → Int64) : Nat × va_E := (q, .inl (κ.2.1.2, N, .inr (.inl f)))
abbrev ob (q ci : Nat) (fs : List Value) : Nat × va_E := (q, .inr (ci, fs))
abbrev z32 : Nat → Int32 := fun _ => 0
abbrev z64 : Nat → Int64 := fun _ => 0
def Pc0 (κ : Kp) (N0 : Nat) (av : List Value) (w0 : va_W) : Array Value → State → Prop := va_Pc av (fun U => N0 ≤ U.heap.size ∧ va_P κ.1 vwCl w0 U.heap ∧ St (Gc κ N0 w0) U U.heap)
def Qc0 (κ : Kp) (N0 : Nat) (Pr : Option Value → va_W → Prop) : Array Value → State → Outcome → State → Prop := fun _ st oc t => (∃ (r : Option Value) (w1 : va_W), oc = .returned r ∧ Pr r w1 ∧ va_D (fun q => N0 ≤ q) w1 ∧ va_P κ.1 vwCl w1 t.heap) ∧ va_F (fun q => N0 ≤ q) st t
/-- a contract of a method that makes cells -/
def Cc (κ : Kp) (N0 : Nat) (l : Launch) (dp mc ms : Nat) (y : MethodName) (b : ByteArray) (nL : Nat) (ret : Option FieldType) (av : List Value) (w0 : va_W) (Pr : Option Value → va_W → Prop) : Prop :=
  Met l y (Cond.code y b nL ret :: wsG) (rmC dp mc ms) (Pc0 κ N0 av w0) (Qc0 κ N0 Pr) mc ms (fun q => N0 ≤ q)
theorem Pc0.blind {κ : Kp} {N0 : Nat} {av : List Value} {w0 : va_W} : FrameBlind (Pc0 κ N0 av w0) := fun a U g mk h => ⟨h.1, h.2.1, h.2.2.1, h.2.2.2.calling g mk a⟩
theorem rot_at {ws : va_W} {x : Nat × va_E} {k : Nat} {q : Nat × va_E} (h : (x :: ws)[k]? = some q) : (ws ++ [x])[if k = 0 then ws.length else k - 1]? = some q := by
  cases k with
  | zero => simpa using h
  | succ k =>
    have h2 : ws[k]? = some q := by simpa using h
    have hl := (List.getElem?_eq_some_iff.mp h2).1
    rw [if_neg (by omega), Nat.add_sub_cancel, List.getElem?_append_left hl]
    exact h2
theorem rot_P {D : va_G} {ws : va_W} {x : Nat × va_E} {H : Heap} (h : va_P D vwCl (ws ++ [x]) H) : va_P D vwCl (x :: ws) H := fun _ _ hk => h _ _ (rot_at hk)
theorem rot_D {A : Nat → Prop} {ws : va_W} {x : Nat × va_E} (h : va_D A (ws ++ [x])) : va_D A (x :: ws) := by
  refine ⟨fun i j p q hi hj e => ?_, fun _ _ hk => h.2 _ _ (rot_at hk)⟩
  have hij := h.1 _ _ p q (rot_at hi) (rot_at hj) e
  have hi2 := (List.getElem?_eq_some_iff.mp hi).1
  have hj2 := (List.getElem?_eq_some_iff.mp hj).1
  simp only [List.length_cons] at hi2 hj2
  by_cases h1 : i = 0 <;> by_cases h2 : j = 0 <;> simp only [h1, h2, if_true, if_false] at hij <;> omega
section CROWS
variable {κ : Kp} {N0 : Nat} {ws : va_W} {p : Program} {l : Launch} {e : Env} {R : Room} {s : State} {m : MethodId} {args : Array Value} {below : List Frame} {meth : Method} {c : Code} {k n : Nat} {Z : State → Prop} {own : String} {cc : ByteArray} {nL pc : Nat} {ret : Option FieldType} {lv : List (Option Value)} {st : List Value} {μ : Mem}
theorem Fx.world {ws' : va_W} {k' n' : Nat} (F : Fx (Gc κ N0 ws) p R s m args meth c own cc nL ret k n) (hD : va_D (fun q => N0 ≤ q) ws') (hR : k' ≤ R.cells ∧ n' ≤ R.slots) : Fx (Gc κ N0 ws') p R s m args meth c own cc nL ret k' n' :=
  ⟨F.1, F.2.1, F.2.2.1, F.2.2.2.1, F.2.2.2.2.1, F.2.2.2.2.2.1, F.2.2.2.2.2.2.1, ⟨F.2.2.2.2.2.2.2.1.1, fun _ => hD, F.2.2.2.2.2.2.2.1.2.2⟩, hR⟩
theorem Vc_newI (hN : N0 ≤ s.heap.size) (F : Fx (Gc κ N0 ws) p R s m args meth c own cc nL ret k n) {N : Nat} (d : decode cc pc = .ok (.newarray .int, 2)) (hN2 : N < 2 ^ 20) (hR : k + 1 ≤ R.cells ∧ n + N ≤ R.slots)
    (kk : ∀ q : Nat, Fx (Gc κ N0 (aI κ q N z32 :: ws)) p R s m args meth c own cc nL ret (k + 1) (n + N) → V (Gc κ N0 (aI κ q N z32 :: ws)) p l e R s m args below meth c nL (k + 1) (n + N) Z (pc + 2) lv (.ref q :: st) μ) : V (Gc κ N0 ws) p l e R s m args below meth c nL k n Z pc lv (.int (nI N) :: st) μ := by
  intro H locs ls hP hS hl
  refine va_newa (atype := .int) (ty := .int) F.1 F.2.1 (F.2.2.2.2.2.2.1 _ ma_int) rfl F.2.2.2.2.2.2.2.1.1 hP (F.2.2.2.2.2.2.2.1.2.1 μ) hS (fun q h => Nat.le_trans hN h) (N' := N) (a0 := (N, .inl z32)) (fun cA => rfl) (by rw [← nI_0]; exact fun q => by have := (nI_ltI (by omega) (by omega)).mp q; omega) (nI_clamp (by omega)) (by show N * 4 ≤ _; omega) hR.1 hR.2 d ?_
  intro q cA H1 hK1 hP1 hD1 hS1
  have e1 : s.vm.findClass ("[" ++ FieldType.int.toString) = some cA := (hK1.2 2 (cA, .int) rfl).2
  have e2 : s.vm.findClass ("[" ++ FieldType.int.toString) = some κ.2.1.1 := (F.2.2.2.2.2.2.2.1.1.2 0 (κ.2.1.1, .int) rfl).2
  have e3 : cA = κ.2.1.1 := Option.some.inj (e1.symm.trans e2)
  subst e3
  exact kk q (F.world (rot_D hD1) hR) H1 locs ls (rot_P hP1) hS1 hl
theorem Vc_newJ (hN : N0 ≤ s.heap.size) (F : Fx (Gc κ N0 ws) p R s m args meth c own cc nL ret k n) {N : Nat} (d : decode cc pc = .ok (.newarray .long, 2)) (hN2 : N < 2 ^ 20) (hR : k + 1 ≤ R.cells ∧ n + N ≤ R.slots)
    (kk : ∀ q : Nat, Fx (Gc κ N0 (aJ κ q N z64 :: ws)) p R s m args meth c own cc nL ret (k + 1) (n + N) → V (Gc κ N0 (aJ κ q N z64 :: ws)) p l e R s m args below meth c nL (k + 1) (n + N) Z (pc + 2) lv (.ref q :: st) μ) : V (Gc κ N0 ws) p l e R s m args below meth c nL k n Z pc lv (.int (nI N) :: st) μ := by
  intro H locs ls hP hS hl
  refine va_newa (atype := .long) (ty := .long) F.1 F.2.1 (F.2.2.2.2.2.2.1 _ ma_long) rfl F.2.2.2.2.2.2.2.1.1 hP (F.2.2.2.2.2.2.2.1.2.1 μ) hS (fun q h => Nat.le_trans hN h) (N' := N) (a0 := (N, .inr (.inl z64))) (fun cA => rfl) (by rw [← nI_0]; exact fun q => by have := (nI_ltI (by omega) (by omega)).mp q; omega) (nI_clamp (by omega)) (by show N * 8 ≤ _; omega) hR.1 hR.2 d ?_
  intro q cA H1 hK1 hP1 hD1 hS1
  have e1 : s.vm.findClass ("[" ++ FieldType.long.toString) = some cA := (hK1.2 2 (cA, .long) rfl).2
  have e2 : s.vm.findClass ("[" ++ FieldType.long.toString) = some κ.2.1.2 := (F.2.2.2.2.2.2.2.1.1.2 1 (κ.2.1.2, .long) rfl).2
  have e3 : cA = κ.2.1.2 := Option.some.inj (e1.symm.trans e2)
  subst e3
  exact kk q (F.world (rot_D hD1) hR) H1 locs ls (rot_P hP1) hS1 hl
theorem Vc_new (hN : N0 ≤ s.heap.size) (F : Fx (Gc κ N0 ws) p R s m args meth c own cc nL ret k n) {C : String} {T : u_T} {N ci index : Nat} {fs : List Value} (d : decode cc pc = .ok (.new index, 3)) (hin : ∀ w ∈ u_ws C T N, w ∈ wsG) (ty : Nat → FieldType) (hty : ∀ k, k < N → parseFieldDescriptor (T k).2.2.1 = some (ty k)) (hcl : Cond.classLink own index C ∈ wsG) (hinst : Cond.instantiable C N ∈ wsG) (hini : Cond.initialized C ∈ wsG) (hc : vwCl[ci]? = some (C, T, N)) (hfs : ∀ j, j < N → defaultValue (ty j) = vp_V fs j) (hR : k + 1 ≤ R.cells ∧ n + N ≤ R.slots)
    (kk : ∀ q : Nat, Fx (Gc κ N0 (ob q ci fs :: ws)) p R s m args meth c own cc nL ret (k + 1) (n + N) → V (Gc κ N0 (ob q ci fs :: ws)) p l e R s m args below meth c nL (k + 1) (n + N) Z (pc + 3) lv (.ref q :: st) μ) : V (Gc κ N0 ws) p l e R s m args below meth c nL k n Z pc lv st μ := by
  intro H locs ls hP hS hl
  refine va_new F.1 F.2.1 F.2.2.2.2.2.2.1 hin ty hty F.2.2.2.2.2.1 (F.2.2.2.2.2.2.1 _ hcl) (F.2.2.2.2.2.2.1 _ hinst) (F.2.2.2.2.2.2.1 _ hini) F.2.2.2.2.2.2.2.1.1 hP (F.2.2.2.2.2.2.2.1.2.1 μ) hS (fun q h => Nat.le_trans hN h) hc hfs hR.1 hR.2 d ?_
  intro q H1 hP1 hD1 hS1
  exact kk q (F.world (rot_D hD1) hR) H1 locs ls (rot_P hP1) hS1 hl
theorem Vc_putF (F : Fx (Gc κ N0 ws) p R s m args meth c own cc nL ret k n) (hname : meth.name = "<init>") {C : String} {T : u_T} {N ci index a : Nat} {fs : List Value} {v : Value} {ty : FieldType} {ws' : va_W} (q0 j : Nat) (hlink : Cond.fieldLink own index C (T j).2.1 (T j).2.2.1 ∈ wsG) (d : decode cc pc = .ok (.putfield index, 3)) (hin : ∀ w ∈ u_ws C T N, w ∈ wsG) (ty0 : Nat → FieldType) (hty : ∀ k, k < N → parseFieldDescriptor (T k).2.2.1 = some (ty0 k)) (hnm : ∀ a, a < N → ∀ b, b < N → a ≠ b → (T a).2.1 ≠ (T b).2.1) (he : ws[q0]? = some (ob a ci fs)) (hc : vwCl[ci]? = some (C, T, N)) (hj : j < N) (hT : (T j).1 = C) (hfin : (T j).2.2.2 = true) (hdecl : (T j).1 = own) (hd : parseFieldDescriptor (T j).2.2.1 = some ty) (hn : narrow ty v = v) (hfit : fits ty v = true) (hl0 : j < fs.length) (hw : ws.set q0 (ob a ci (fs.set j v)) = ws')
    (kk : Fx (Gc κ N0 ws') p R s m args meth c own cc nL ret k n → V (Gc κ N0 ws') p l e R s m args below meth c nL k n Z (pc + 3) lv st μ) : V (Gc κ N0 ws) p l e R s m args below meth c nL k n Z pc lv (v :: .ref a :: st) μ := by
  intro H locs ls hP hS hl
  subst hw
  exact va_putF F.1 F.2.1 F.2.2.2.2.2.2.1 hin ty0 hty hnm F.2.2.2.2.2.1 F.2.2.2.2.2.2.2.1.1 hP (F.2.2.2.2.2.2.2.1.2.1 μ) hS q0 he hc j hj (F.2.2.2.2.2.2.1 _ hlink) (fun x h => by rw [hT] at h; exact h) hfin hname hdecl hd hn hfit hl0 d (fun H1 locs1 hP1 hD1 hS1 => kk (F.world hD1 F.2.2.2.2.2.2.2.2) H1 locs1 ls hP1 hS1 hl)
theorem Vc_put (F : Fx (Gc κ N0 ws) p R s m args meth c own cc nL ret k n) {C : String} {T : u_T} {N ci index a : Nat} {fs : List Value} {v : Value} {ty : FieldType} {ws' : va_W} (q0 j : Nat) (hlink : Cond.fieldLink own index C (T j).2.1 (T j).2.2.1 ∈ wsG) (d : decode cc pc = .ok (.putfield index, 3)) (hin : ∀ w ∈ u_ws C T N, w ∈ wsG) (ty0 : Nat → FieldType) (hty : ∀ k, k < N → parseFieldDescriptor (T k).2.2.1 = some (ty0 k)) (hnm : ∀ a, a < N → ∀ b, b < N → a ≠ b → (T a).2.1 ≠ (T b).2.1) (he : ws[q0]? = some (ob a ci fs)) (hc : vwCl[ci]? = some (C, T, N)) (hj : j < N) (hT : (T j).1 = C) (hfin : (T j).2.2.2 = false) (hd : parseFieldDescriptor (T j).2.2.1 = some ty) (hn : narrow ty v = v) (hfit : fits ty v = true) (hl0 : j < fs.length) (hw : ws.set q0 (ob a ci (fs.set j v)) = ws')
    (kk : Fx (Gc κ N0 ws') p R s m args meth c own cc nL ret k n → V (Gc κ N0 ws') p l e R s m args below meth c nL k n Z (pc + 3) lv st μ) : V (Gc κ N0 ws) p l e R s m args below meth c nL k n Z pc lv (v :: .ref a :: st) μ := by
  intro H locs ls hP hS hl
  subst hw
  exact va_put F.1 F.2.1 F.2.2.2.2.2.2.1 hin ty0 hty hnm F.2.2.2.2.2.1 F.2.2.2.2.2.2.2.1.1 hP (F.2.2.2.2.2.2.2.1.2.1 μ) hS q0 he hc j hj (F.2.2.2.2.2.2.1 _ hlink) (fun x h => by rw [hT] at h; exact h) hfin hd hn hfit hl0 d (fun H1 locs1 hP1 hD1 hS1 => kk (F.world hD1 F.2.2.2.2.2.2.2.2) H1 locs1 ls hP1 hS1 hl)
theorem Vc_ias (F : Fx (Gc κ N0 ws) p R s m args meth c own cc nL ret k n) {a q0 z j : Nat} {f : Nat → Int32} {x : Int32} {ws' : va_W} (d : decode cc pc = .ok (.iastore, 1)) (ha : ws[q0]? = some (aI κ a z f)) (hj : j < z) (hz : z < 2 ^ 20) (hm : ws.set q0 (aI κ a z (upd f j x)) = ws') (kk : Fx (Gc κ N0 ws') p R s m args meth c own cc nL ret k n → V (Gc κ N0 ws') p l e R s m args below meth c nL k n Z (pc + 1) lv st μ) : V (Gc κ N0 ws) p l e R s m args below meth c nL k n Z pc lv (.int x :: .int (nI j) :: .ref a :: st) μ := by
  intro H locs ls hP hS hl
  have e1 : (nI j).toNatClampNeg = j := nI_clamp (by omega)
  refine va_iast F.1 F.2.1 F.2.2.2.2.2.2.2.1.1 hP (F.2.2.2.2.2.2.2.1.2.1 μ) hS q0 0 ha rfl (vp_in_nI hj (by omega)) d (fun H1 locs1 hP1 hD1 hS1 => ?_)
  rw [e1] at hP1 hD1
  have hP2 : va_P κ.1 vwCl ws' H1 := hm ▸ hP1
  have hD2 : va_D (fun q => N0 ≤ q) ws' := hm ▸ hD1
  exact kk (F.world hD2 F.2.2.2.2.2.2.2.2) H1 locs1 ls hP2 hS1 hl
theorem Vc_obj (F : Fx (Gc κ N0 ws) p R s m args meth c own cc nL ret k n) {index a : Nat} (d : decode cc pc = .ok (.invokespecial index, 3)) (hlink : Cond.methodLink own index objectInit ∈ wsG) (hR : 1 ≤ R.frames ∧ (st.map fun v => v.category).sum + 12 ≤ R.locals) (kk : V (Gc κ N0 ws) p l e R s m args below meth c nL k n Z (pc + 3) lv st μ) : V (Gc κ N0 ws) p l e R s m args below meth c nL k n Z pc lv (.ref a :: st) μ := by
  intro H locs ls hP hS hl
  refine W.objInit F.1 F.2.1 F.2.2.2.2.2.1 (F.2.2.2.2.2.2.1 _ hlink) (F.2.2.2.2.2.2.1 _ mn_objectInit) (F.2.2.2.2.2.2.1 _ mc_objectInit) rfl (hl.1.trans F.2.2.2.2.1.symm) rfl d hR.1 ?_ (kk H locs ls hP hS hl)
  have : 2 * (F0 m pc ls (.ref a :: st)).monitorRoom = 0 := rfl
  omega
theorem Vc_run {As : Array Value} {st0 : List Value} {mc ms : Nat} {Pr : Option Value → va_W → Prop} (F : Fx (Gc κ N0 ws) p R s m args meth c own cc nL ret k n) (hR : k + mc ≤ R.cells ∧ n + ms ≤ R.slots) (hr : ∀ (H : Heap) (locs : List Loc) (ls : Array Slot), va_P κ.1 vwCl ws H → va_S (fun q => N0 ≤ q) s.heap H locs → ls.size = nL → va_Run p l e R s m args below meth c H locs k n mc ms (F0 m pc ls st0) st (Qc0 κ N0 Pr As) (fun q => N0 ≤ q))
    (kk : ∀ (r : Option Value) (w1 : va_W), Pr r w1 → Fx (Gc κ N0 w1) p R s m args meth c own cc nL ret (k + mc) (n + ms) → V (Gc κ N0 w1) p l e R s m args below meth c nL (k + mc) (n + ms) Z (pc + 3) lv (r.toList ++ st) μ) : V (Gc κ N0 ws) p l e R s m args below meth c nL k n Z pc lv st0 μ := by
  intro H locs ls hP hS hl T hT X
  obtain ⟨v, st₀, t, T', L, h0, X', hL, e1, e2, ⟨⟨r, w1, hv, hq, hD1, hP1⟩, hz, hk⟩, hst⟩ := hr H locs ls hP hS hl.1 T hT X
  cases hv
  rw [h0] at hz hk
  obtain ⟨t2, a1, b1⟩ := kk v w1 hq (F.world hD1 hR) T'.heap (locs ++ L) ls (by rw [e1]; exact hP1) ⟨Nat.le_trans hS.1 (by rw [e1]; exact hz), fun q h1 h2 => by rw [e1, hk q (Nat.lt_of_lt_of_le h1 hS.1) h2]; exact hS.2.1 q h1 h2, fun q hq => (List.mem_append.mp hq).elim (hS.2.2 q) (hL q)⟩ hl T' rfl X'
  exact ⟨t2, hst t2 a1, b1⟩
theorem roomC_ok {R : Room} {dp mc ms nLc : Nat} (hR : dp + 1 ≤ R.frames ∧ (dp + 1) * 40 ≤ R.locals) (hn : nLc ≤ 21) : (rmC dp mc ms).frames + 1 ≤ R.frames ∧ 8 + (nLc + 11) + (rmC dp mc ms).locals ≤ R.locals := ⟨hR.1, by show 8 + (nLc + 11) + dp * 40 ≤ R.locals; omega⟩
variable {y : MethodName} {b : ByteArray} {nLc dp mc ms index j : Nat} {retc : Option FieldType} {As : List Value} {Pr : Option Value → va_W → Prop}
theorem Vc_callS (hN : N0 ≤ s.heap.size) (F : Fx (Gc κ N0 ws) p R s m args meth c own cc nL ret k n) (hC : Cc κ N0 l dp mc ms y b nLc retc As ws Pr) (hM : MI y b nLc retc j) (hs : Cond.static y ∈ wsG) (hlink : Cond.methodLink own index y ∈ wsG) (d : decode cc pc = .ok (.invokestatic index, 3)) (hR : dp + 1 ≤ R.frames ∧ (dp + 1) * 40 ≤ R.locals) (hR2 : k + mc ≤ R.cells ∧ n + ms ≤ R.slots) {st0 : List Value} (hst : st0 = As.reverse ++ st) (hn : As.length = j) (hnl : nLc ≤ 21) (hw : (st.map fun v => v.category).sum ≤ 8)
    (kk : ∀ (r : Option Value) (w1 : va_W), Pr r w1 → Fx (Gc κ N0 w1) p R s m args meth c own cc nL ret (k + mc) (n + ms) → V (Gc κ N0 w1) p l e R s m args below meth c nL (k + mc) (n + ms) Z (pc + 3) lv (r.toList ++ st) μ) : V (Gc κ N0 ws) p l e R s m args below meth c nL k n Z pc lv st0 μ := by
  refine Vc_run (As := As.toArray) F hR2 (fun H locs ls hP hS hz => ?_) kk
  subst hst
  exact va_runS ⟨F.1, F.2.1, F.2.2.2.2.1, F.2.2.2.2.2.1, F.2.2.2.2.2.2.1⟩ hC ⟨callB_of j F.2.2.2.2.2.2.1 (good_code hM.1) rfl rfl rfl (F.2.2.2.2.2.2.1 _ hM.2.1) (F.2.2.2.2.2.2.1 _ hlink) hM.2.2.1 (roomC_ok hR hnl), F.2.2.2.2.2.2.1 _ hs⟩
    ⟨Pc0.blind, fun U hU hW => ⟨rfl, by rw [hU]; exact Nat.le_trans hN hS.1, by rw [hU]; exact hP, by rw [hU]; exact F.2.2.2.2.2.2.2.1.step hS hW⟩⟩ rfl hn hz rfl (lv_room hw) d hR2
theorem Vc_callSN (hN : N0 ≤ s.heap.size) (F : Fx (Gc κ N0 ws) p R s m args meth c own cc nL ret k n) {host : String} (hC : Cc κ N0 l dp mc ms y b nLc retc As ws Pr) (hM : MI y b nLc retc j) (hs : Cond.static y ∈ wsG) (hlink : Cond.methodLinkNest own index y host ∈ nestW) (d : decode cc pc = .ok (.invokestatic index, 3)) (hR : dp + 1 ≤ R.frames ∧ (dp + 1) * 40 ≤ R.locals) (hR2 : k + mc ≤ R.cells ∧ n + ms ≤ R.slots) {st0 : List Value} (hst : st0 = As.reverse ++ st) (hn : As.length = j) (hnl : nLc ≤ 21) (hw : (st.map fun v => v.category).sum ≤ 8)
    (kk : ∀ (r : Option Value) (w1 : va_W), Pr r w1 → Fx (Gc κ N0 w1) p R s m args meth c own cc nL ret (k + mc) (n + ms) → V (Gc κ N0 w1) p l e R s m args below meth c nL (k + mc) (n + ms) Z (pc + 3) lv (r.toList ++ st) μ) : V (Gc κ N0 ws) p l e R s m args below meth c nL k n Z pc lv st0 μ := by
  refine Vc_run (As := As.toArray) F hR2 (fun H locs ls hP hS hz => ?_) kk
  subst hst
  exact va_runSN ⟨F.1, F.2.1, F.2.2.2.2.1, F.2.2.2.2.2.1, F.2.2.2.2.2.2.1⟩ hC ⟨va_cnB j F.2.2.2.2.2.2.1 (good_code hM.1) rfl rfl rfl (F.2.2.2.2.2.2.2.1.2.2.1 _ hlink) (F.2.2.2.2.2.2.1 _ hM.2.1) hM.2.2.1 (roomC_ok hR hnl), F.2.2.2.2.2.2.1 _ hs, trivial⟩
    ⟨Pc0.blind, fun U hU hW => ⟨rfl, by rw [hU]; exact Nat.le_trans hN hS.1, by rw [hU]; exact hP, by rw [hU]; exact F.2.2.2.2.2.2.2.1.step hS hW⟩⟩ rfl hn hz rfl (lv_room hw) d hR2
theorem Vc_callI (hN : N0 ≤ s.heap.size) (F : Fx (Gc κ N0 ws) p R s m args meth c own cc nL ret k n) {a : Nat} (hC : Cc κ N0 l dp mc ms y b nLc none (.ref a :: As) ws Pr) (hM : MI y b nLc none j) (hi : y.name = "<init>") (hs : Cond.instanceMethod y ∈ wsG) (hlink : Cond.methodLink own index y ∈ wsG) (d : decode cc pc = .ok (.invokespecial index, 3)) (hR : dp + 1 ≤ R.frames ∧ (dp + 1) * 40 ≤ R.locals) (hR2 : k + mc ≤ R.cells ∧ n + ms ≤ R.slots) {st0 : List Value} (hst : st0 = As.reverse ++ .ref a :: st) (hn : As.length = j) (hnl : nLc ≤ 21) (hw : (st.map fun v => v.category).sum ≤ 8)
    (kk : ∀ (r : Option Value) (w1 : va_W), Pr r w1 → Fx (Gc κ N0 w1) p R s m args meth c own cc nL ret (k + mc) (n + ms) → V (Gc κ N0 w1) p l e R s m args below meth c nL (k + mc) (n + ms) Z (pc + 3) lv (r.toList ++ st) μ) : V (Gc κ N0 ws) p l e R s m args below meth c nL k n Z pc lv st0 μ := by
  refine Vc_run (As := (Value.ref a :: As).toArray) F hR2 (fun H locs ls hP hS hz => ?_) kk
  subst hst
  exact va_runI ⟨F.1, F.2.1, F.2.2.2.2.1, F.2.2.2.2.2.1, F.2.2.2.2.2.2.1⟩ hC ⟨callB_of j F.2.2.2.2.2.2.1 (good_code hM.1) rfl rfl rfl (F.2.2.2.2.2.2.1 _ hM.2.1) (F.2.2.2.2.2.2.1 _ hlink) hM.2.2.1 (roomC_ok hR hnl), hi, F.2.2.2.2.2.2.1 _ hs⟩
    ⟨Pc0.blind, fun U hU hW => ⟨rfl, by rw [hU]; exact Nat.le_trans hN hS.1, by rw [hU]; exact hP, by rw [hU]; exact F.2.2.2.2.2.2.2.1.step hS hW⟩⟩ rfl hn hz rfl (lv_room hw) d hR2
theorem Vc_callIN (hN : N0 ≤ s.heap.size) (F : Fx (Gc κ N0 ws) p R s m args meth c own cc nL ret k n) {host : String} {a : Nat} (hC : Cc κ N0 l dp mc ms y b nLc none (.ref a :: As) ws Pr) (hM : MI y b nLc none j) (hi : y.name = "<init>") (hs : Cond.instanceMethod y ∈ wsG) (hlink : Cond.methodLinkNest own index y host ∈ nestW) (d : decode cc pc = .ok (.invokespecial index, 3)) (hR : dp + 1 ≤ R.frames ∧ (dp + 1) * 40 ≤ R.locals) (hR2 : k + mc ≤ R.cells ∧ n + ms ≤ R.slots) {st0 : List Value} (hst : st0 = As.reverse ++ .ref a :: st) (hn : As.length = j) (hnl : nLc ≤ 21) (hw : (st.map fun v => v.category).sum ≤ 8)
    (kk : ∀ (r : Option Value) (w1 : va_W), Pr r w1 → Fx (Gc κ N0 w1) p R s m args meth c own cc nL ret (k + mc) (n + ms) → V (Gc κ N0 w1) p l e R s m args below meth c nL (k + mc) (n + ms) Z (pc + 3) lv (r.toList ++ st) μ) : V (Gc κ N0 ws) p l e R s m args below meth c nL k n Z pc lv st0 μ := by
  refine Vc_run (As := (Value.ref a :: As).toArray) F hR2 (fun H locs ls hP hS hz => ?_) kk
  subst hst
  exact va_runIN ⟨F.1, F.2.1, F.2.2.2.2.1, F.2.2.2.2.2.1, F.2.2.2.2.2.2.1⟩ hC ⟨va_cnB j F.2.2.2.2.2.2.1 (good_code hM.1) rfl rfl rfl (F.2.2.2.2.2.2.2.1.2.2.1 _ hlink) (F.2.2.2.2.2.2.1 _ hM.2.1) hM.2.2.1 (roomC_ok hR hnl), hi, F.2.2.2.2.2.2.1 _ hs⟩
    ⟨Pc0.blind, fun U hU hW => ⟨rfl, by rw [hU]; exact Nat.le_trans hN hS.1, by rw [hU]; exact hP, by rw [hU]; exact F.2.2.2.2.2.2.2.1.step hS hW⟩⟩ rfl hn hz rfl (lv_room hw) d hR2
theorem Vc_vret {mc ms : Nat} (F : Fx (Gc κ N0 ws) p R s m args meth c own cc nL none mc ms) (d : decode cc pc = .ok (.return_, 1)) (hq : Pr none ws) : V (Gc κ N0 ws) p l e R s m args below meth c nL mc ms (MQ below (Qc0 κ N0 Pr) args s mc ms (fun q => N0 ≤ q)) pc lv [] μ := by
  intro H locs ls hP hS hl
  exact W.vret F.1 F.2.1 F.2.2.1 (fun t ht hW => ⟨⟨_, ws, rfl, hq, F.2.2.2.2.2.2.2.1.2.1 μ, by rw [ht]; exact hP⟩, hS.F ht⟩) hS.2.2 d F.2.2.2.1
theorem Vc_aret {mc ms : Nat} {ty : FieldType} (F : Fx (Gc κ N0 ws) p R s m args meth c own cc nL (some (.array ty)) mc ms) {a : Nat} (d : decode cc pc = .ok (.areturn, 1)) (hq : Pr (some (.ref a)) ws) : V (Gc κ N0 ws) p l e R s m args below meth c nL mc ms (MQ below (Qc0 κ N0 Pr) args s mc ms (fun q => N0 ≤ q)) pc lv [.ref a] μ := by
  intro H locs ls hP hS hl
  exact W.aret F.1 F.2.1 F.2.2.1 (Or.inr ⟨_, rfl⟩) (Or.inr ⟨_, rfl⟩) (fun t ht hW => ⟨⟨_, ws, rfl, hq, F.2.2.2.2.2.2.2.1.2.1 μ, by rw [ht]; exact hP⟩, hS.F ht⟩) hS.2.2 d F.2.2.2.1
end CROWS
theorem Cc.of {κ : Kp} {N0 : Nat} {l : Launch} {dp mc ms : Nat} {y : MethodName} {own : String} {b : ByteArray} {nL j : Nat} {ret : Option FieldType} {av : List Value} {w0 : va_W} {Pr : Option Value → va_W → Prop} (hM : MI y b nL ret j) (ho : y.cls = own) (lv : List (Option Value)) (hn : (lg_sl av).length ≤ nL) (hlv : al 0 lv = lv_args 0 av)
    (body : ∀ (p : Program) (e : Env) (s : State) (m : MethodId) (below : List Frame) (meth : Method) (c : Code) (μ : Mem), N0 ≤ s.heap.size → meth.name = y.name → Fx (Gc κ N0 w0) p (rmC dp mc ms) s m av.toArray meth c own b nL ret 0 0 → V (Gc κ N0 w0) p l e (rmC dp mc ms) s m av.toArray below meth c nL 0 0 (MQ below (Qc0 κ N0 Pr) av.toArray s mc ms (fun q => N0 ≤ q)) 0 lv [] μ) : Cc κ N0 l dp mc ms y b nL ret av w0 Pr := by
  refine Met.ofW (cc := b) (maxL := nL) (ret := ret) hM.2.2.2 rfl ?_
  intro p e s m args below meth c s₁ B hml hv
  obtain ⟨rfl, hN, hP, hst⟩ := hv
  have hts := atoms_spec (ws := Cond.code y b nL ret :: wsG) B.pre
  have hown : s.vm.findClass y.cls = some m.cls := findClass_of_methodNamed B.named
  have hl := lv_entry av (n := nL) hn
  rw [lg_entry_eq]
  exact body p e s m below meth c (fun _ _ => 0, fun _ => 0) hN (name_of_methodNamed B.named B.method).1 ⟨B.exec, B.bytes, B.returns, B.notSynchronized, hml, ho ▸ hown, fun w hw => hts w (List.mem_cons_of_mem _ hw), hst, Nat.zero_le _, Nat.zero_le _⟩ s.heap [] _ hP va_S.rf (hlv ▸ hl)

section CTORS
variable {κ : Kp} {N0 : Nat} {l : Launch} {rest : va_W}
theorem rmRC {dp dq mc ms : Nat} (h : dp + 1 ≤ dq) : dp + 1 ≤ (rmC dq mc ms).frames ∧ (dp + 1) * 40 ≤ (rmC dq mc ms).locals := ⟨h, Nat.mul_le_mul_right 40 h⟩
theorem k_put {a z j : Nat} {f : Nat → Int32} {v : Int32} (hj : j < z) (hz : z < 2 ^ 20) : Cc κ N0 l 0 0 0 yX3_put cX3_put 3 none [.ref a, .int (nI j), .int v] (aI κ a z f :: rest) (fun r w1 => r = none ∧ w1 = aI κ a z (upd f j v) :: rest) := by
  have hj0 : ¬ nI j < 0 := by rw [← nI_0]; exact fun q => by have := (nI_ltI (by omega) (by omega)).mp q; omega
  refine Cc.of (own := RX3) mi_X3_put rfl [some (.ref a), some (.int (nI j)), some (.int v)] (Nat.le_of_ble_eq_true rfl) rfl (fun p₀ e₀ s₀ m₀ b₀ h₀ c₀ μ hN hname F => ?_)
  refine V_aload_n F dX3_put_0 rfl ?_
  refine V_ifnull F dX3_put_1 ?_
  refine V_iload_n F dX3_put_4 rfl ?_
  refine V_if_lt_f F (tgt := 18) dX3_put_5 (by decide) (hj0) ?_
  refine V_iload_n F dX3_put_8 rfl ?_
  refine V_aload_n F dX3_put_9 rfl ?_
  refine V_alen F (v := nI z) (x := (z, .inl f)) (q0 := 0) dX3_put_10 0 rfl rfl rfl ?_
  refine V_icmp_ge_f F (tgt := 18) dX3_put_11 (by decide) (fun hh => by have := (nI_leI (by omega) (by omega)).mp hh; omega) ?_
  refine V_aload_n F dX3_put_14 rfl ?_
  refine V_iload_n F dX3_put_15 rfl ?_
  refine V_iload_n F dX3_put_16 rfl ?_
  refine Vc_ias F (q0 := 0) (ws' := aI κ a z (upd f j v) :: rest) dX3_put_17 rfl hj hz rfl (fun F => ?_)
  exact Vc_vret F dX3_put_18 (⟨rfl, rfl⟩)

theorem k_lengthsOfNew : Cc κ N0 l 2 1 24 yX2_lengthsOfNew cX2_lengthsOfNew 1 (some (.array .int)) [] rest (fun r w1 => ∃ q : Nat, r = some (.ref q) ∧ w1 = aI κ q 24 (upd z32 0 (nI 1)) :: rest) := by
  refine Cc.of (own := RX2) mi_X2_lengthsOfNew rfl [none] (Nat.le_of_ble_eq_true rfl) rfl (fun p₀ e₀ s₀ m₀ b₀ h₀ c₀ μ hN hname F => ?_)
  refine V_bipush F (v := nI 24) dX2_lengthsOfNew_0 (by decide) ?_
  refine Vc_newI hN F (N := 24) dX2_lengthsOfNew_2 (by decide) ⟨Nat.le_of_ble_eq_true rfl, Nat.le_of_ble_eq_true rfl⟩ (fun q F => ?_)
  refine V_astore_n F (lv' := [some (.ref q)]) dX2_lengthsOfNew_4 (by decide) rfl rfl ?_
  refine V_aload_n F dX2_lengthsOfNew_5 rfl ?_
  refine V_iconst F (v := nI 0) dX2_lengthsOfNew_6 (by decide) ?_
  refine V_iconst F (v := nI 0) dX2_lengthsOfNew_7 (by decide) ?_
  refine V_callSi F (c_headOf (k := 0) (by decide)) mi_X2_headOf ms_X2_headOf lk_X2_54 dX2_lengthsOfNew_8 (rmRC (by omega)) rfl rfl (by decide) (Nat.le_of_ble_eq_true rfl) ?_
  refine V_callK F (by decide) (c_slen (by decide)) mi_J0_length_8abf5 mm_J0_length_8abf5 lk_X2_58 dX2_lengthsOfNew_11 (rmRC (by omega)) rfl rfl (by decide) (Nat.le_of_ble_eq_true rfl) rfl ?_
  refine V_val F (v := nI 1) (by decide +kernel) ?_
  refine Vc_callSN hN F (k_put (by decide) (by decide)) mi_X3_put ms_X3_put nk_X2_64 dX2_lengthsOfNew_14 (rmRC (by omega)) ⟨Nat.le_of_ble_eq_true rfl, Nat.le_of_ble_eq_true rfl⟩ rfl rfl (by decide) (Nat.le_of_ble_eq_true rfl) (fun r w1 h F => ?_)
  obtain ⟨rfl, rfl⟩ := h
  refine V_aload_n F dX2_lengthsOfNew_17 rfl ?_
  exact Vc_aret F dX2_lengthsOfNew_18 ⟨q, rfl, rfl⟩

theorem k_Store {a : Nat} : Cc κ N0 l 3 11 360 yX2_init cX2_init 1 none [.ref a] (ob a 1 [.int 0, .null, .null, .null, .null, .null, .null, .null, .null, .null, .null, .null] :: rest) (fun r w1 => r = none ∧ ∃ q0 q1 q2 q3 q4 q5 q6 q7 q8 q9 q10 : Nat, w1 = aJ κ q10 72 z64 :: aI κ q9 72 z32 :: aI κ q8 24 (upd z32 0 (nI 1)) :: aI κ q7 24 z32 :: aI κ q6 24 z32 :: aI κ q5 24 z32 :: aI κ q4 24 z32 :: aI κ q3 24 z32 :: aI κ q2 24 z32 :: aI κ q1 24 z32 :: aI κ q0 24 z32 :: ob a 1 [.int (nI 1), .ref q0, .ref q1, .ref q2, .ref q3, .ref q4, .ref q5, .ref q6, .ref q7, .ref q8, .ref q9, .ref q10] :: rest) := by
  refine Cc.of (own := RX2) mi_X2_init rfl [some (.ref a)] (Nat.le_of_ble_eq_true rfl) rfl (fun p₀ e₀ s₀ m₀ b₀ h₀ c₀ μ hN hname F => ?_)
  refine V_aload_n F dX2_init_0 rfl ?_
  refine Vc_obj F dX2_init_1 lk_X2_3 ⟨Nat.le_of_ble_eq_true rfl, Nat.le_of_ble_eq_true rfl⟩ ?_
  refine V_aload_n F dX2_init_4 rfl ?_
  refine V_bipush F (v := nI 24) dX2_init_5 (by decide) ?_
  refine Vc_newI hN F (N := 24) dX2_init_7 (by decide) ⟨Nat.le_of_ble_eq_true rfl, Nat.le_of_ble_eq_true rfl⟩ (fun q0 F => ?_)
  refine Vc_putF F hname (v := .ref q0) (ty := .array .int) (ws' := aI κ q0 24 z32 :: ob a 1 [.int 0, .ref q0, .null, .null, .null, .null, .null, .null, .null, .null, .null, .null] :: rest) 1 1 lk_X2_9 dX2_init_9 ig_X2 tyX2 tyX2_ok nmX2 rfl rfl (by decide) rfl rfl rfl (by decide +kernel) rfl rfl (Nat.le_of_ble_eq_true rfl) rfl (fun F => ?_)
  refine V_aload_n F dX2_init_12 rfl ?_
  refine V_bipush F (v := nI 24) dX2_init_13 (by decide) ?_
  refine Vc_newI hN F (N := 24) dX2_init_15 (by decide) ⟨Nat.le_of_ble_eq_true rfl, Nat.le_of_ble_eq_true rfl⟩ (fun q1 F => ?_)
  refine Vc_putF F hname (v := .ref q1) (ty := .array .int) (ws' := aI κ q1 24 z32 :: aI κ q0 24 z32 :: ob a 1 [.int 0, .ref q0, .ref q1, .null, .null, .null, .null, .null, .null, .null, .null, .null] :: rest) 2 2 lk_X2_15 dX2_init_17 ig_X2 tyX2 tyX2_ok nmX2 rfl rfl (by decide) rfl rfl rfl (by decide +kernel) rfl rfl (Nat.le_of_ble_eq_true rfl) rfl (fun F => ?_)
  refine V_aload_n F dX2_init_20 rfl ?_
  refine V_bipush F (v := nI 24) dX2_init_21 (by decide) ?_
  refine Vc_newI hN F (N := 24) dX2_init_23 (by decide) ⟨Nat.le_of_ble_eq_true rfl, Nat.le_of_ble_eq_true rfl⟩ (fun q2 F => ?_)
  refine Vc_putF F hname (v := .ref q2) (ty := .array .int) (ws' := aI κ q2 24 z32 :: aI κ q1 24 z32 :: aI κ q0 24 z32 :: ob a 1 [.int 0, .ref q0, .ref q1, .ref q2, .null, .null, .null, .null, .null, .null, .null, .null] :: rest) 3 3 lk_X2_18 dX2_init_25 ig_X2 tyX2 tyX2_ok nmX2 rfl rfl (by decide) rfl rfl rfl (by decide +kernel) rfl rfl (Nat.le_of_ble_eq_true rfl) rfl (fun F => ?_)
  refine V_aload_n F dX2_init_28 rfl ?_
  refine V_bipush F (v := nI 24) dX2_init_29 (by decide) ?_
  refine Vc_newI hN F (N := 24) dX2_init_31 (by decide) ⟨Nat.le_of_ble_eq_true rfl, Nat.le_of_ble_eq_true rfl⟩ (fun q3 F => ?_)
  refine Vc_putF F hname (v := .ref q3) (ty := .array .int) (ws' := aI κ q3 24 z32 :: aI κ q2 24 z32 :: aI κ q1 24 z32 :: aI κ q0 24 z32 :: ob a 1 [.int 0, .ref q0, .ref q1, .ref q2, .ref q3, .null, .null, .null, .null, .null, .null, .null] :: rest) 4 4 lk_X2_21 dX2_init_33 ig_X2 tyX2 tyX2_ok nmX2 rfl rfl (by decide) rfl rfl rfl (by decide +kernel) rfl rfl (Nat.le_of_ble_eq_true rfl) rfl (fun F => ?_)
  refine V_aload_n F dX2_init_36 rfl ?_
  refine V_bipush F (v := nI 24) dX2_init_37 (by decide) ?_
  refine Vc_newI hN F (N := 24) dX2_init_39 (by decide) ⟨Nat.le_of_ble_eq_true rfl, Nat.le_of_ble_eq_true rfl⟩ (fun q4 F => ?_)
  refine Vc_putF F hname (v := .ref q4) (ty := .array .int) (ws' := aI κ q4 24 z32 :: aI κ q3 24 z32 :: aI κ q2 24 z32 :: aI κ q1 24 z32 :: aI κ q0 24 z32 :: ob a 1 [.int 0, .ref q0, .ref q1, .ref q2, .ref q3, .ref q4, .null, .null, .null, .null, .null, .null] :: rest) 5 5 lk_X2_24 dX2_init_41 ig_X2 tyX2 tyX2_ok nmX2 rfl rfl (by decide) rfl rfl rfl (by decide +kernel) rfl rfl (Nat.le_of_ble_eq_true rfl) rfl (fun F => ?_)
  refine V_aload_n F dX2_init_44 rfl ?_
  refine V_bipush F (v := nI 24) dX2_init_45 (by decide) ?_
  refine Vc_newI hN F (N := 24) dX2_init_47 (by decide) ⟨Nat.le_of_ble_eq_true rfl, Nat.le_of_ble_eq_true rfl⟩ (fun q5 F => ?_)
  refine Vc_putF F hname (v := .ref q5) (ty := .array .int) (ws' := aI κ q5 24 z32 :: aI κ q4 24 z32 :: aI κ q3 24 z32 :: aI κ q2 24 z32 :: aI κ q1 24 z32 :: aI κ q0 24 z32 :: ob a 1 [.int 0, .ref q0, .ref q1, .ref q2, .ref q3, .ref q4, .ref q5, .null, .null, .null, .null, .null] :: rest) 6 6 lk_X2_27 dX2_init_49 ig_X2 tyX2 tyX2_ok nmX2 rfl rfl (by decide) rfl rfl rfl (by decide +kernel) rfl rfl (Nat.le_of_ble_eq_true rfl) rfl (fun F => ?_)
  refine V_aload_n F dX2_init_52 rfl ?_
  refine V_bipush F (v := nI 24) dX2_init_53 (by decide) ?_
  refine Vc_newI hN F (N := 24) dX2_init_55 (by decide) ⟨Nat.le_of_ble_eq_true rfl, Nat.le_of_ble_eq_true rfl⟩ (fun q6 F => ?_)
  refine Vc_putF F hname (v := .ref q6) (ty := .array .int) (ws' := aI κ q6 24 z32 :: aI κ q5 24 z32 :: aI κ q4 24 z32 :: aI κ q3 24 z32 :: aI κ q2 24 z32 :: aI κ q1 24 z32 :: aI κ q0 24 z32 :: ob a 1 [.int 0, .ref q0, .ref q1, .ref q2, .ref q3, .ref q4, .ref q5, .ref q6, .null, .null, .null, .null] :: rest) 7 7 lk_X2_30 dX2_init_57 ig_X2 tyX2 tyX2_ok nmX2 rfl rfl (by decide) rfl rfl rfl (by decide +kernel) rfl rfl (Nat.le_of_ble_eq_true rfl) rfl (fun F => ?_)
  refine V_aload_n F dX2_init_60 rfl ?_
  refine V_bipush F (v := nI 24) dX2_init_61 (by decide) ?_
  refine Vc_newI hN F (N := 24) dX2_init_63 (by decide) ⟨Nat.le_of_ble_eq_true rfl, Nat.le_of_ble_eq_true rfl⟩ (fun q7 F => ?_)
  refine Vc_putF F hname (v := .ref q7) (ty := .array .int) (ws' := aI κ q7 24 z32 :: aI κ q6 24 z32 :: aI κ q5 24 z32 :: aI κ q4 24 z32 :: aI κ q3 24 z32 :: aI κ q2 24 z32 :: aI κ q1 24 z32 :: aI κ q0 24 z32 :: ob a 1 [.int 0, .ref q0, .ref q1, .ref q2, .ref q3, .ref q4, .ref q5, .ref q6, .ref q7, .null, .null, .null] :: rest) 8 8 lk_X2_33 dX2_init_65 ig_X2 tyX2 tyX2_ok nmX2 rfl rfl (by decide) rfl rfl rfl (by decide +kernel) rfl rfl (Nat.le_of_ble_eq_true rfl) rfl (fun F => ?_)
  refine V_aload_n F dX2_init_68 rfl ?_
  refine Vc_callS hN F k_lengthsOfNew mi_X2_lengthsOfNew ms_X2_lengthsOfNew lk_X2_36 dX2_init_69 (rmRC (by omega)) ⟨Nat.le_of_ble_eq_true rfl, Nat.le_of_ble_eq_true rfl⟩ rfl rfl (by decide) (Nat.le_of_ble_eq_true rfl) (fun r w1 h F => ?_)
  obtain ⟨q8, rfl, rfl⟩ := h
  refine Vc_putF F hname (v := .ref q8) (ty := .array .int) (ws' := aI κ q8 24 (upd z32 0 (nI 1)) :: aI κ q7 24 z32 :: aI κ q6 24 z32 :: aI κ q5 24 z32 :: aI κ q4 24 z32 :: aI κ q3 24 z32 :: aI κ q2 24 z32 :: aI κ q1 24 z32 :: aI κ q0 24 z32 :: ob a 1 [.int 0, .ref q0, .ref q1, .ref q2, .ref q3, .ref q4, .ref q5, .ref q6, .ref q7, .ref q8, .null, .null] :: rest) 9 9 lk_X2_40 dX2_init_72 ig_X2 tyX2 tyX2_ok nmX2 rfl rfl (by decide) rfl rfl rfl (by decide +kernel) rfl rfl (Nat.le_of_ble_eq_true rfl) rfl (fun F => ?_)
  refine V_aload_n F dX2_init_75 rfl ?_
  refine V_bipush F (v := nI 72) dX2_init_76 (by decide) ?_
  refine Vc_newI hN F (N := 72) dX2_init_78 (by decide) ⟨Nat.le_of_ble_eq_true rfl, Nat.le_of_ble_eq_true rfl⟩ (fun q9 F => ?_)
  refine Vc_putF F hname (v := .ref q9) (ty := .array .int) (ws' := aI κ q9 72 z32 :: aI κ q8 24 (upd z32 0 (nI 1)) :: aI κ q7 24 z32 :: aI κ q6 24 z32 :: aI κ q5 24 z32 :: aI κ q4 24 z32 :: aI κ q3 24 z32 :: aI κ q2 24 z32 :: aI κ q1 24 z32 :: aI κ q0 24 z32 :: ob a 1 [.int 0, .ref q0, .ref q1, .ref q2, .ref q3, .ref q4, .ref q5, .ref q6, .ref q7, .ref q8, .ref q9, .null] :: rest) 10 10 lk_X2_43 dX2_init_80 ig_X2 tyX2 tyX2_ok nmX2 rfl rfl (by decide) rfl rfl rfl (by decide +kernel) rfl rfl (Nat.le_of_ble_eq_true rfl) rfl (fun F => ?_)
  refine V_aload_n F dX2_init_83 rfl ?_
  refine V_bipush F (v := nI 72) dX2_init_84 (by decide) ?_
  refine Vc_newJ hN F (N := 72) dX2_init_86 (by decide) ⟨Nat.le_of_ble_eq_true rfl, Nat.le_of_ble_eq_true rfl⟩ (fun q10 F => ?_)
  refine Vc_putF F hname (v := .ref q10) (ty := .array .long) (ws' := aJ κ q10 72 z64 :: aI κ q9 72 z32 :: aI κ q8 24 (upd z32 0 (nI 1)) :: aI κ q7 24 z32 :: aI κ q6 24 z32 :: aI κ q5 24 z32 :: aI κ q4 24 z32 :: aI κ q3 24 z32 :: aI κ q2 24 z32 :: aI κ q1 24 z32 :: aI κ q0 24 z32 :: ob a 1 [.int 0, .ref q0, .ref q1, .ref q2, .ref q3, .ref q4, .ref q5, .ref q6, .ref q7, .ref q8, .ref q9, .ref q10] :: rest) 11 11 lk_X2_46 dX2_init_88 ig_X2 tyX2 tyX2_ok nmX2 rfl rfl (by decide) rfl rfl rfl (by decide +kernel) rfl rfl (Nat.le_of_ble_eq_true rfl) rfl (fun F => ?_)
  refine V_aload_n F dX2_init_91 rfl ?_
  refine V_iconst F (v := nI 1) dX2_init_92 (by decide) ?_
  refine Vc_put F (v := .int (nI 1)) (ty := .int) (ws' := aJ κ q10 72 z64 :: aI κ q9 72 z32 :: aI κ q8 24 (upd z32 0 (nI 1)) :: aI κ q7 24 z32 :: aI κ q6 24 z32 :: aI κ q5 24 z32 :: aI κ q4 24 z32 :: aI κ q3 24 z32 :: aI κ q2 24 z32 :: aI κ q1 24 z32 :: aI κ q0 24 z32 :: ob a 1 [.int (nI 1), .ref q0, .ref q1, .ref q2, .ref q3, .ref q4, .ref q5, .ref q6, .ref q7, .ref q8, .ref q9, .ref q10] :: rest) 11 0 lk_X2_50 dX2_init_93 ig_X2 tyX2 tyX2_ok nmX2 rfl rfl (by decide) rfl rfl (by decide +kernel) rfl rfl (Nat.le_of_ble_eq_true rfl) rfl (fun F => ?_)
  exact Vc_vret F dX2_init_96 ⟨rfl, q0, q1, q2, q3, q4, q5, q6, q7, q8, q9, q10, rfl⟩

theorem k_Game {a t : Nat} : Cc κ N0 l 1 1 4140 yX0_init cX0_init 2 none [.ref a, .ref t] (ob a 0 [.null, .null] :: rest) (fun r w1 => r = none ∧ ∃ q0 : Nat, w1 = aI κ q0 4140 z32 :: ob a 0 [.ref t, .ref q0] :: rest) := by
  refine Cc.of (own := RX0) mi_X0_init rfl [some (.ref a), some (.ref t)] (Nat.le_of_ble_eq_true rfl) rfl (fun p₀ e₀ s₀ m₀ b₀ h₀ c₀ μ hN hname F => ?_)
  refine V_aload_n F dX0_init_0 rfl ?_
  refine Vc_obj F dX0_init_1 lk_X0_3 ⟨Nat.le_of_ble_eq_true rfl, Nat.le_of_ble_eq_true rfl⟩ ?_
  refine V_aload_n F dX0_init_4 rfl ?_
  refine V_aload_n F dX0_init_5 rfl ?_
  refine Vc_putF F hname (v := .ref t) (ty := .object "NamePassingComparer$Store") (ws' := ob a 0 [.ref t, .null] :: rest) 0 0 lk_X0_9 dX0_init_6 ig_X0 tyX0 tyX0_ok nmX0 rfl rfl (by decide) rfl rfl rfl (by decide +kernel) rfl rfl (Nat.le_of_ble_eq_true rfl) rfl (fun F => ?_)
  refine V_aload_n F dX0_init_9 rfl ?_
  refine V_sipush F (v := nI 4140) dX0_init_10 (by decide) ?_
  refine Vc_newI hN F (N := 4140) dX0_init_13 (by decide) ⟨Nat.le_of_ble_eq_true rfl, Nat.le_of_ble_eq_true rfl⟩ (fun q0 F => ?_)
  refine Vc_putF F hname (v := .ref q0) (ty := .array .int) (ws' := aI κ q0 4140 z32 :: ob a 0 [.ref t, .ref q0] :: rest) 1 1 lk_X0_15 dX0_init_15 ig_X0 tyX0 tyX0_ok nmX0 rfl rfl (by decide) rfl rfl rfl (by decide +kernel) rfl rfl (Nat.le_of_ble_eq_true rfl) rfl (fun F => ?_)
  exact Vc_vret F dX0_init_18 ⟨rfl, q0, rfl⟩

theorem k_NPC {a : Nat} : Cc κ N0 l 4 14 4514 yX3_init cX3_init 1 none [.ref a] (ob a 2 [.null, .null] :: rest) (fun r w1 => r = none ∧ ∃ t u q0 q1 q2 q3 q4 q5 q6 q7 q8 q9 q10 q11 : Nat, w1 = aI κ q11 4140 z32 :: ob u 0 [.ref t, .ref q11] :: aJ κ q10 72 z64 :: aI κ q9 72 z32 :: aI κ q8 24 (upd z32 0 (nI 1)) :: aI κ q7 24 z32 :: aI κ q6 24 z32 :: aI κ q5 24 z32 :: aI κ q4 24 z32 :: aI κ q3 24 z32 :: aI κ q2 24 z32 :: aI κ q1 24 z32 :: aI κ q0 24 z32 :: ob t 1 [.int (nI 1), .ref q0, .ref q1, .ref q2, .ref q3, .ref q4, .ref q5, .ref q6, .ref q7, .ref q8, .ref q9, .ref q10] :: ob a 2 [.ref t, .ref u] :: rest) := by
  refine Cc.of (own := RX3) mi_X3_init rfl [some (.ref a)] (Nat.le_of_ble_eq_true rfl) rfl (fun p₀ e₀ s₀ m₀ b₀ h₀ c₀ μ hN hname F => ?_)
  refine V_aload_n F dX3_init_0 rfl ?_
  refine Vc_obj F dX3_init_1 lk_X3_1 ⟨Nat.le_of_ble_eq_true rfl, Nat.le_of_ble_eq_true rfl⟩ ?_
  refine V_aload_n F dX3_init_4 rfl ?_
  refine Vc_new hN F (ci := 1) (fs := [.int 0, .null, .null, .null, .null, .null, .null, .null, .null, .null, .null, .null]) dX3_init_5 ig_X2 tyX2 tyX2_ok lk_X3_7 mk_X2 mt_X2 rfl (by decide +kernel) ⟨Nat.le_of_ble_eq_true rfl, Nat.le_of_ble_eq_true rfl⟩ (fun t F => ?_)
  refine V_dup F dX3_init_8 rfl ?_
  refine Vc_callIN hN F (k_Store (a := t)) mi_X2_init rfl mn_X2_init nk_X3_9 dX3_init_9 (rmRC (by omega)) ⟨Nat.le_of_ble_eq_true rfl, Nat.le_of_ble_eq_true rfl⟩ rfl rfl (by decide) (Nat.le_of_ble_eq_true rfl) (fun r w1 h F => ?_)
  obtain ⟨rfl, q0, q1, q2, q3, q4, q5, q6, q7, q8, q9, q10, rfl⟩ := h
  refine Vc_putF F hname (v := .ref t) (ty := .object "NamePassingComparer$Store") (ws' := aJ κ q10 72 z64 :: aI κ q9 72 z32 :: aI κ q8 24 (upd z32 0 (nI 1)) :: aI κ q7 24 z32 :: aI κ q6 24 z32 :: aI κ q5 24 z32 :: aI κ q4 24 z32 :: aI κ q3 24 z32 :: aI κ q2 24 z32 :: aI κ q1 24 z32 :: aI κ q0 24 z32 :: ob t 1 [.int (nI 1), .ref q0, .ref q1, .ref q2, .ref q3, .ref q4, .ref q5, .ref q6, .ref q7, .ref q8, .ref q9, .ref q10] :: ob a 2 [.ref t, .null] :: rest) 12 0 lk_X3_10 dX3_init_12 ig_X3 tyX3 tyX3_ok nmX3 rfl rfl (by decide) rfl rfl rfl (by decide +kernel) rfl rfl (Nat.le_of_ble_eq_true rfl) rfl (fun F => ?_)
  refine V_aload_n F dX3_init_15 rfl ?_
  refine Vc_new hN F (ci := 0) (fs := [.null, .null]) dX3_init_16 ig_X0 tyX0 tyX0_ok lk_X3_16 mk_X0 mt_X0 rfl (by decide +kernel) ⟨Nat.le_of_ble_eq_true rfl, Nat.le_of_ble_eq_true rfl⟩ (fun u F => ?_)
  refine V_dup F dX3_init_19 rfl ?_
  refine V_aload_n F dX3_init_20 rfl ?_
  refine V_getf F (C := RX3) (T := TX3) (N := 2) 13 0 lk_X3_10 dX3_init_21 ig_X3 rfl rfl (by decide) rfl rfl ?_
  refine Vc_callIN hN F (k_Game (a := u) (t := t)) mi_X0_init rfl mn_X0_init nk_X3_18 dX3_init_24 (rmRC (by omega)) ⟨Nat.le_of_ble_eq_true rfl, Nat.le_of_ble_eq_true rfl⟩ rfl rfl (by decide) (Nat.le_of_ble_eq_true rfl) (fun r w1 h F => ?_)
  obtain ⟨rfl, q11, rfl⟩ := h
  refine Vc_putF F hname (v := .ref u) (ty := .object "NamePassingComparer$Game") (ws' := aI κ q11 4140 z32 :: ob u 0 [.ref t, .ref q11] :: aJ κ q10 72 z64 :: aI κ q9 72 z32 :: aI κ q8 24 (upd z32 0 (nI 1)) :: aI κ q7 24 z32 :: aI κ q6 24 z32 :: aI κ q5 24 z32 :: aI κ q4 24 z32 :: aI κ q3 24 z32 :: aI κ q2 24 z32 :: aI κ q1 24 z32 :: aI κ q0 24 z32 :: ob t 1 [.int (nI 1), .ref q0, .ref q1, .ref q2, .ref q3, .ref q4, .ref q5, .ref q6, .ref q7, .ref q8, .ref q9, .ref q10] :: ob a 2 [.ref t, .ref u] :: rest) 14 1 lk_X3_21 dX3_init_27 ig_X3 tyX3 tyX3_ok nmX3 rfl rfl (by decide) rfl rfl rfl (by decide +kernel) rfl rfl (Nat.le_of_ble_eq_true rfl) rfl (fun F => ?_)
  exact Vc_vret F dX3_init_30 ⟨rfl, t, u, q0, q1, q2, q3, q4, q5, q6, q7, q8, q9, q10, q11, rfl⟩

end CTORS
end CTOR
end
section
/-! THE CLAIM OUT OF ONE WALK OF THE LAW'S BODY. Your part is whole_start (and what it stands on); all else here is the same for every law, but numbers. -/
def R_law : String := "NamePassingComparerLaw"
def lw_P (b : Addr) (xs : List Int32) (args : Array Value) (s : State) : Prop := args = #[.ref b] ∧ s.IntsAt b xs ∧ xs.length ≤ 260 ∧ (Jvm.Cond.and given_1 narrow_1).before args s = true
def lw_Q (_ : Array Value) (s : State) (o : Outcome) (t : State) : Prop := o = .returned (some (.int 1)) ∧ Framed s o t [] 600000 7302250
def lw_Z (below : List Frame) (a : Array Value) (s : State) : State → Prop := fun t => ∃ o, t.status = .running ∧ Ended t below o ∧ lw_Q a s o t
/-- the law's own end, with 1 on the stack, nothing written that was there before, its room as the claim has it -/
theorem lw_ret {p : Program} {l : Launch} {e : Env} {s : State} {m : MethodId} {below : List Frame} {meth : Method} {c : Code} {b : Nat} (hx : p.tables.exec = Jvm.exec) (hb : c.code = code) (hr : meth.sig.returnType = ret) (hlocks : meth.locks = false) {pc : Nat} {H : Heap} {ls : Array Slot} (hdg : decode code pc = .ok (.ireturn, 1)) : W p l e room_1 s m #[Value.ref b] below meth c H [] 600000 7302250 (lw_Z below #[Value.ref b] s) (F0 m pc ls [.int 1]) := by
  intro T hT X
  obtain ⟨fs, hret, hrun, hended, hW, hframe⟩ := X.leave (v := some (.int 1)) (hlocks := hlocks) (fun h => by rw [hr] at h; cases h)
  have hmeth' : T.vm.method? m = some meth := X.method'
  refine ⟨T.setFrames fs, ?_, .returned (some (.int 1)), hrun, hended, rfl, ⟨_, rfl⟩, hW, hframe⟩
  jvm_step X.here [X.here.top, hx, hb, hdg, hmeth', hr, ret, narrow_b1]
  (try refine ⟨rfl, ?_⟩); (try refine ⟨rfl, ?_⟩)
  first | (intro acts; rw [hret _ acts rfl rfl rfl]) | rw [hret _ _ rfl rfl rfl]
  exact Steps.refl _
/-- what holds at the law's entry: the machine, the code, the tables' words (any of lw_tbl by 'hts w (by decide +kernel)'), the script of L ints xs at the cell b, what the Statement gives of the start (any of its parts by flat_of_before) -/
def lw_At (p : Program) (s : State) (m : MethodId) (meth : Method) (c : Code) (b L : Nat) (xs : Nat → Int32) : Prop :=
  p.tables.exec = Jvm.exec ∧ c.code = code ∧ meth.sig.returnType = ret ∧ c.maxLocals = 22 ∧ s.vm.findClass R_law = some m.cls ∧ (∀ w ∈ lw_tbl, w.before #[Value.ref b] s = true) ∧ va_X b L xs s s.heap ∧ b < s.heap.size ∧ meth.locks = false ∧ (Jvm.Cond.and given_1 narrow_1).before #[Value.ref b] s = true
end
section
section ENTRY
abbrev lwNar : List Cond := flatC (Jvm.Cond.and given_1 narrow_1)
abbrev lwTm (i : Nat) : Term := .string RX2 (sIdx.getD i 0)
theorem en_ex : ∀ i : Nat, i < 6 → Cond.exactly (lwTm i) "java/lang/String" ∈ lwNar := by decide +kernel
theorem en_co : ∀ i : Nat, i < 6 → Cond.eq (.field (lwTm i) "java/lang/String" "coder" "B") (.int 0) ∈ lwNar := by decide +kernel
theorem en_ar : ∀ i : Nat, i < 6 → Cond.arrayOf (.field (lwTm i) "java/lang/String" "value" "[B") .byte ∈ lwNar := by decide +kernel
theorem en_le : ∀ i : Nat, i < 6 → Cond.eq (.length (.field (lwTm i) "java/lang/String" "value" "[B")) (.int (Int32.ofNat (sLen.getD i 0))) ∈ lwNar := by decide +kernel
theorem en_el : ∀ i : Nat, i < 6 → ∀ j : Nat, j < sLen.getD i 0 → Cond.eq (.elem (.field (lwTm i) "java/lang/String" "value" "[B") (.int (Int32.ofNat j))) (.int ((sByt.getD i []).getD j 0)) ∈ lwNar := by decide +kernel
theorem en_ne : ∀ i : Nat, i < 6 → ∀ j : Nat, j < 6 → i ≠ j → Cond.not (Cond.eq (lwTm i) (lwTm j)) ∈ lwNar ∨ Cond.not (Cond.eq (lwTm j) (lwTm i)) ∈ lwNar := by decide +kernel
theorem en_sr : ∀ i : Nat, i < 6 → Cond.stringRef RX2 (sIdx.getD i 0) (sTx.getD i "") ∈ tables_1 := by decide +kernel
theorem en_l1 : Cond.laysStatic "java/lang/String" "COMPACT_STRINGS" "Z" ∈ tables_1 := by decide +kernel
theorem en_n1 : Cond.eq (.static "java/lang/String" "COMPACT_STRINGS" "Z") (.int 1) ∈ lwNar := by decide +kernel
theorem en_tbl {w : Cond} (h : w ∈ tables_1) : w ∈ lw_tbl := List.mem_append_right _ h
theorem en_arr {args : Array Value} {s : State} {ty : FieldType} (hty : ty = .int ∨ ty = .long) (h : (Cond.arrayClass ty).before args s = true) : ∃ c : ClassId, ArrOfT s c ty ∧ va_RA s c ty := by
  obtain ⟨c, k, comp, h1, h2, h3⟩ := Cond.arrayClass_spec h
  refine ⟨c, fun n z => ⟨fun k h => (by cases h), k, h2, comp, h3⟩, ?_⟩
  rcases hty with rfl | rfl <;> exact h1
/-- what holds at the law's entry, over any world of new cells -/
theorem law_entry {p : Program} {s : State} {m : MethodId} {meth : Method} {c : Code} {b L : Nat} {xs : Nat → Int32} (C0 : lw_At p s m meth c b L xs) : ∃ κ : Kp, ∀ (W : Mem → va_W) (A : Nat → Prop), (∀ q, A q → s.heap.size ≤ q) → (∀ μ, va_D A (W μ)) → St (W, A, κ.1, κ.2.1, κ.2.2.1, κ.2.2.2) s s.heap := by
  obtain ⟨hx, hb, hr, hml, hown, hts, hX, hbl, hlk, hgv⟩ := C0
  have hG : ∀ w ∈ wsG, w.before #[Value.ref b] s = true := fun w hw => hts w (wsG_in hw)
  have hs := flat_of_before _ hgv
  have ht : ∀ w ∈ tables_1, w.before #[Value.ref b] s = true := fun w hw => hts w (en_tbl hw)
  obtain ⟨c0, i0, k0⟩ := u_known (C := RX0) (T := TX0) (N := 2) (n := 2) hG ig_X0 (hG _ mk_X0)
  obtain ⟨c1, i1, k1⟩ := u_known (C := RX2) (T := TX2) (N := 12) (n := 12) hG ig_X2 (hG _ mk_X2)
  obtain ⟨c2, i2, k2⟩ := u_known (C := RX3) (T := TX3) (N := 2) (n := 2) hG ig_X3 (hG _ mk_X3)
  obtain ⟨cI, aI1, aI2⟩ := en_arr (Or.inl rfl) (hG _ ma_int)
  obtain ⟨cJ, aJ1, aJ2⟩ := en_arr (Or.inr rfl) (hG _ ma_long)
  obtain ⟨aK, aV, hS, hE⟩ := vk_Sof (args := #[Value.ref b]) (s := s) (N := 6) (tm := lwTm) (len := sLen) (byt := sByt) (A := fun q => s.heap.size ≤ q) (by decide +kernel) (fun i hi => hs _ (en_ex i hi)) (fun i hi => hs _ (en_co i hi)) (fun i hi => hs _ (en_ar i hi)) (fun i hi => hs _ (en_le i hi)) (fun i hi j hj => hs _ (en_el i hi j hj)) (fun i j hi hj hij => (en_ne i hi j hj hij).imp (fun h => hs _ h) (fun h => hs _ h)) (fun a h1 h2 => by omega)
  refine ⟨((fun c => match c with | 0 => c0 | 1 => c1 | _ => c2, fun c => match c with | 0 => i0 | 1 => i1 | _ => i2), (cI, cJ), aK, aV), fun W A hA hD => ⟨⟨?_, ?_⟩, hD, fun w hw => va_Nw.of (nestW_tab (nestW_ok hw)) (hts w (nestW_in hw)), hS.narrow hA, fun i hi => vk_R.of (ht _ (en_sr i hi)) (hE i hi), ?_, trivial⟩⟩
  · intro c q hq
    match c, hq with
    | 0, hq => cases hq; exact k0
    | 1, hq => cases hq; exact k1
    | 2, hq => cases hq; exact k2
    | c + 3, hq => cases hq
  · intro k q hq
    match k, hq with
    | 0, hq => cases hq; exact ⟨aI1, aI2⟩
    | 1, hq => cases hq; exact ⟨aJ1, aJ2⟩
    | k + 2, hq => cases hq
  · exact va_Zof (ht _ en_l1) (hG _ mt_J0) (va_eqi (hs _ en_n1)) (fun a h1 h2 => by have := hA a h2; omega)
end ENTRY
end
section
section FACTS
/-- the first table: no process but 0 -/
def Ti : Tb := fun f p => if f = 8 ∧ p = 0 then 1 else 0
theorem wf_i : WF Ti 1 := ⟨⟨by omega, by omega⟩, by decide, fun p h1 h2 => by omega⟩
def U1 : Tb := bT Ti 1 1 0 0 0 0
def U2 (y : Nat) : Tb := bT U1 2 4 3 y 1 0
def U3 (x y : Nat) : Tb := bT (U2 y) 3 3 x 0 2 0
def U4 (x y : Nat) : Tb := bT (U3 x y) 4 3 x 0 0 0
def U5 (x y : Nat) : Tb := bT (U4 x y) 5 3 x 0 1 0
def U6 (x y : Nat) : Tb := bT (U5 x y) 6 5 0 0 5 4
def U7 (x y : Nat) : Tb := bT (U6 x y) 7 5 0 0 6 3
theorem f_1 : 1 < 24 ∧ bD Ti 1 0 0 ≤ 3 ∧ bB Ti 1 0 0 ≤ 3 := by decide +kernel
theorem f_2 : 2 < 24 ∧ bD U1 4 1 0 ≤ 3 ∧ bB U1 4 1 0 ≤ 3 := by decide +kernel
theorem f_3 : ∀ y, y < 3 → 3 < 24 ∧ bD (U2 y) 3 2 0 ≤ 3 ∧ bB (U2 y) 3 2 0 ≤ 3 := by decide +kernel
theorem f_4 : ∀ x, x < 3 → ∀ y, y < 3 → 4 < 24 ∧ bD (U3 x y) 3 0 0 ≤ 3 ∧ bB (U3 x y) 3 0 0 ≤ 3 := by decide +kernel
theorem f_5 : ∀ x, x < 3 → ∀ y, y < 3 → 5 < 24 ∧ bD (U4 x y) 3 1 0 ≤ 3 ∧ bB (U4 x y) 3 1 0 ≤ 3 := by decide +kernel
theorem f_6 : ∀ x, x < 3 → ∀ y, y < 3 → 6 < 24 ∧ bD (U5 x y) 5 5 4 ≤ 3 ∧ bB (U5 x y) 5 5 4 ≤ 3 := by decide +kernel
theorem f_7 : ∀ x, x < 3 → ∀ y, y < 3 → 7 < 24 ∧ bD (U6 x y) 5 6 3 ≤ 3 ∧ bB (U6 x y) 5 6 3 ≤ 3 := by decide +kernel
theorem f_8 : ∀ x, x < 3 → ∀ y, y < 3 → ¬ (8 < 24 ∧ bD (U7 x y) 5 7 2 ≤ 3 ∧ bB (U7 x y) 5 7 2 ≤ 3) := by decide +kernel
theorem q_n : ∀ x, x < 3 → ∀ y, y < 3 → U4 x y 7 2 = 1 ∧ U4 x y 7 3 = 0 ∧ U4 x y 7 4 = 0 ∧ U7 x y 7 6 = 0 ∧ U7 x y 7 7 = 0 := by decide +kernel
theorem q_r : ∀ x, x < 3 → ∀ y, y < 3 → x ≠ y → rnd (U4 x y) 0 3 4 = 4 ∧ rnd (U4 x y) 1 3 4 = 2 ∧ rnd (U4 x y) 2 3 4 = 2 ∧ rnd (U4 x y) 1 4 3 = 2 := by decide +kernel
theorem q_a : ∀ x, x < 3 → ∀ y, y < 3 → x ≠ y → atkR (U4 x y) 1 3 4 = nI y ∧ atkR (U4 x y) 2 3 4 = nI 9 := by decide +kernel
theorem q_m : ∀ x, x < 3 → ∀ y, y < 3 → x ≠ y → (mvs (U7 x y) 7 []).length = 3 := by decide +kernel
theorem q_s : ∀ x, x < 3 → ∀ y, y < 3 → x ≠ y → rnd (U7 x y) 0 6 7 = 4 ∧ rnd (U7 x y) 1 6 7 = 4 ∧ rnd (U7 x y) 2 6 7 = 2 := by decide +kernel
theorem q_b : ∀ x, x < 3 → ∀ y, y < 3 → x ≠ y → atkR (U7 x y) 2 6 7 = nI 1029 ∧ atkR (U7 x y) 2 7 6 = nI 29 := by decide +kernel
theorem q_l : ∀ x, x < 3 → ∀ y, y < 3 → x ≠ y → lows (U7 x y) 1 7 = 6 ∧ lows (U7 x y) 2 7 = 7 := by decide +kernel
theorem q_c : ∀ x, x < 3 → ∀ y, y < 3 → x ≠ y → cls (U7 x y) 8 0 ≤ cls (U7 x y) 8 1 ∧ cls (U7 x y) 8 1 ≤ cls (U7 x y) 8 2 ∧ cls (U7 x y) 8 2 ≤ 8 := by decide +kernel
end FACTS
end
section
section ANS
variable {T : Tb} {n : Nat}
theorem bq_tau {j : Nat} {μ μ' : Mem} {r : Option Value} (h : BP T n (oTau n (nI j)) μ r μ') (hj : j < n) (hn : n ≤ 24) : BQ T n 1 0 0 j 0 μ r μ' := by
  unfold oTau at h; rw [pj_nI hj (by omega)] at h; exact h
theorem bq_out {x y j : Nat} {μ μ' : Mem} {r : Option Value} (h : BP T n (oOut n (nI x) (nI y) (nI j)) μ r μ') (hx : x < 6) (hy : y < 6) (hj : j < n) (hn : n ≤ 24) : BQ T n 2 x y j 0 μ r μ' := by
  unfold oOut at h; rw [pj_nI hx (by omega), pj_nI hy (by omega), pj_nI hj (by omega)] at h; exact h
theorem bq_in {x j : Nat} {μ μ' : Mem} {r : Option Value} (h : BP T n (oIn n (nI x) (nI j)) μ r μ') (hx : x < 6) (hj : j < n) (hn : n ≤ 24) : BQ T n 3 x 0 j 0 μ r μ' := by
  unfold oIn at h; rw [pj_nI hx (by omega), pj_nI hj (by omega)] at h; exact h
theorem bq_mat {x y j : Nat} {μ μ' : Mem} {r : Option Value} (h : BP T n (oMat n (nI x) (nI y) (nI j)) μ r μ') (hx : x < 6) (hy : y < 6) (hj : j < n) (hn : n ≤ 24) : BQ T n 4 x y j 0 μ r μ' := by
  unfold oMat at h; rw [pj_nI hx (by omega), pj_nI hy (by omega), pj_nI hj (by omega)] at h; exact h
theorem bq_sum {i j : Nat} {μ μ' : Mem} {r : Option Value} (h : BP T n (oSum n (nI i) (nI j)) μ r μ') (hi : i < n) (hj : j < n) (hn : n ≤ 24) : BQ T n 5 0 0 i j μ r μ' := by
  unfold oSum at h; rw [pj_nI hi (by omega), pj_nI hj (by omega)] at h; exact h
theorem bq_fit {k x y p q : Nat} {μ μ' : Mem} {r : Option Value} (h : BQ T n k x y p q μ r μ') (hf : bFit T n k p q) : r = some (.int (nI n)) ∧ XInv (bT T n k x y p q) (n + 1) μ' ∧ sameM μ μ' := by
  rcases h with h | h
  · exact h.2
  · exact absurd hf h.1
theorem bq_no {k x y p q : Nat} {μ μ' : Mem} {r : Option Value} (h : BQ T n k x y p q μ r μ') (hf : ¬ bFit T n k p q) : r = some (.int (-3)) ∧ μ' = μ := by
  rcases h with h | h
  · exact absurd h.1 hf
  · exact h.2
theorem a_rel {i j k : Nat} (hn : n ≤ 24) (hi : i < n) (hj : j < n) (hk : k < 3) (h1 : T 7 i = 0) (h2 : T 7 j = 0) (hr : rnd T k i j = 4) : rPair (fRel T) T n (nI i) (nI j) (nI k) = nI 1 := by
  rw [rPair_ok hn hi hj hk h1 h2]; exact if_pos hr
theorem a_rel0 {i j k : Nat} (hn : n ≤ 24) (hi : i < n) (hj : j < n) (hk : k < 3) (h1 : T 7 i = 0) (h2 : T 7 j = 0) (hr : rnd T k i j ≠ 4) : rPair (fRel T) T n (nI i) (nI j) (nI k) = nI 0 := by
  rw [rPair_ok hn hi hj hk h1 h2]; exact if_neg hr
theorem a_rnd {i j k w : Nat} (hn : n ≤ 24) (hi : i < n) (hj : j < n) (hk : k < 3) (h1 : T 7 i = 0) (h2 : T 7 j = 0) (hr : rnd T k i j = w) (hw : w ≠ 4) : rPair (fRnd T) T n (nI i) (nI j) (nI k) = nI w := by
  rw [rPair_ok hn hi hj hk h1 h2]; unfold fRnd rdI; rw [hr]; exact if_neg hw
theorem a_rnd4 {i j k : Nat} (hn : n ≤ 24) (hi : i < n) (hj : j < n) (hk : k < 3) (h1 : T 7 i = 0) (h2 : T 7 j = 0) (hr : rnd T k i j = 4) : rPair (fRnd T) T n (nI i) (nI j) (nI k) = -4 := by
  rw [rPair_ok hn hi hj hk h1 h2]; exact if_pos hr
theorem a_atk {i j k : Nat} {v : Int32} (hn : n ≤ 24) (hi : i < n) (hj : j < n) (hk : k < 3) (h1 : T 7 i = 0) (h2 : T 7 j = 0) (hr : atkR T k i j = v) : rPair (fAtk T) T n (nI i) (nI j) (nI k) = v := by
  rw [rPair_ok hn hi hj hk h1 h2]; exact hr
theorem a_rep {i k w : Nat} (hn : n ≤ 24) (hi : i < n) (hk : k < 3) (h1 : T 7 i = 0) (hr : lows T k i = w) : rPair (fRep T) T n (nI i) (nI i) (nI k) = nI w := by
  rw [rPair_ok hn hi hi hk h1 h1]; unfold fRep; rw [hr]
theorem a_mc {i w : Nat} (hn : n ≤ 24) (hi : i < n) (h1 : T 7 i = 0) (hr : (mvs T i []).length = w) : rMC T n (nI i) = nI w := by
  rw [rMC_ok hn hi h1, hr]
theorem a_cls {k : Nat} (hk : k < 3) : rCls T n (nI k) = nI (cls T n k) := by
  unfold rCls; rw [pj_nI hk (by omega)]
end ANS
section LAWB
variable {g : Gm} {p : Program} {l : Launch} {e : Env} {s : State} {m : MethodId} {below : List Frame} {meth : Method} {c : Code} {b L : Nat} {xs : Nat → Int32}
theorem lw_done (F : Fx (GS g) p room_1 s m #[Value.ref b] meth c RL cL_law 22 ret 600000 7302250) (hA : ∀ q, AS g.1 q → s.heap.size ≤ q) {lv : List (Option Value)} {μ : Mem} : V (GS g) p l e room_1 s m #[Value.ref b] below meth c 22 600000 7302250 (lw_Z below #[Value.ref b] s) 1075 (lv) ([]) (μ) := by
  refine V_iconst F (v := 1) dL_law_1075 (by decide) ?_
  refine V_goto F (tgt := 1080) dL_law_1076 (by decide) ?_
  intro H locs ls hP hS hl
  exact va_forget (fun q hq => hA _ (hS.2.2 q hq)) (lw_ret F.1 F.2.1 F.2.2.1 F.2.2.2.1 dL_law_1080)

set_option maxHeartbeats 1000000 in
theorem lw_e (F : Fx (GS g) p room_1 s m #[Value.ref b] meth c RL cL_law 22 ret 600000 7302250) (hA : ∀ q, AS g.1 q → s.heap.size ≤ q) {x y : Nat} (hx : x < 3) (hy : y < 3) (hne : x ≠ y) {μ : Mem} (hI : XInv (U7 x y) 8 μ) : V (GS g) p l e room_1 s m #[Value.ref b] below meth c 22 600000 7302250 (lw_Z below #[Value.ref b] s) 1007 ([some (.ref b), some (.ref (g.1 0)), none, none, none, some (.int (nI 1)), none, none, some (.int (nI x)), some (.int (nI y)), some (.int (nI 2)), some (.int (nI 3)), some (.int (nI 4)), some (.int (nI 5)), some (.int (nI 6)), some (.int (nI 7)), none, none, none, none, none, none]) ([]) (μ) := by
  obtain ⟨q1, q2, q3, q4, q5⟩ := q_n x hx y hy
  obtain ⟨c1, c2, c3⟩ := q_c x hx y hy hne
  obtain ⟨l1, l2⟩ := q_l x hx y hy hne
  refine V_iload F dL_law_1007 rfl ?_
  refine V_if_eq_f F (tgt := 1079) dL_law_1009 (by decide) (by decide) ?_
  refine V_aload_n F dL_law_1012 rfl ?_
  refine V_iload F dL_law_1013 rfl ?_
  refine V_iload F dL_law_1015 rfl ?_
  refine V_callV F (q0 := 0) (c_sum hI _ _) mi_X3_sum mm_X3_sum lk_L_34 dL_law_1017 ⟨Nat.le_of_ble_eq_true rfl, Nat.le_of_ble_eq_true rfl⟩ rfl rfl (by decide) (Nat.le_of_ble_eq_true rfl) rfl rfl rfl (fun r μ' h => ?_)
  obtain ⟨rfl, rfl⟩ := bq_no (bq_sum h (by omega) (by omega) (by omega)) (f_8 x hx y hy)
  refine V_bipush F (v := (-3)) dL_law_1020 (by decide) ?_
  refine V_icmp_ne_f F (tgt := 1079) dL_law_1022 (by decide) (rfl) ?_
  refine V_aload_n F dL_law_1025 rfl ?_
  refine V_iload F dL_law_1026 rfl ?_
  refine V_iconst F (v := nI 1) dL_law_1028 (by decide) ?_
  refine V_callV F (q0 := 0) (c_representative hI _ _) mi_X3_representative mm_X3_representative lk_L_90 dL_law_1029 ⟨Nat.le_of_ble_eq_true rfl, Nat.le_of_ble_eq_true rfl⟩ rfl rfl (by decide) (Nat.le_of_ble_eq_true rfl) rfl rfl rfl (fun r μ' h => ?_)
  obtain ⟨rfl, hMe, hSw⟩ := h
  have hI := hI.of_W hSw hMe
  rw [a_rep (by omega) (by omega) (by omega) q5 l1]
  refine V_iload F dL_law_1032 rfl ?_
  refine V_icmp_ne_f F (tgt := 1079) dL_law_1034 (by decide) (rfl) ?_
  refine V_aload_n F dL_law_1037 rfl ?_
  refine V_iload F dL_law_1038 rfl ?_
  refine V_iconst F (v := nI 2) dL_law_1040 (by decide) ?_
  refine V_callV F (q0 := 0) (c_representative hI _ _) mi_X3_representative mm_X3_representative lk_L_90 dL_law_1041 ⟨Nat.le_of_ble_eq_true rfl, Nat.le_of_ble_eq_true rfl⟩ rfl rfl (by decide) (Nat.le_of_ble_eq_true rfl) rfl rfl rfl (fun r μ' h => ?_)
  obtain ⟨rfl, hMe, hSw⟩ := h
  have hI := hI.of_W hSw hMe
  rw [a_rep (by omega) (by omega) (by omega) q5 l2]
  refine V_iload F dL_law_1044 rfl ?_
  refine V_icmp_ne_f F (tgt := 1079) dL_law_1046 (by decide) (rfl) ?_
  refine V_aload_n F dL_law_1049 rfl ?_
  refine V_iconst F (v := nI 0) dL_law_1050 (by decide) ?_
  refine V_callV F (q0 := 0) (c_classCount hI _) mi_X3_classCount mm_X3_classCount lk_L_93 dL_law_1051 ⟨Nat.le_of_ble_eq_true rfl, Nat.le_of_ble_eq_true rfl⟩ rfl rfl (by decide) (Nat.le_of_ble_eq_true rfl) rfl rfl rfl (fun r μ' h => ?_)
  obtain ⟨rfl, hMe, hSw⟩ := h
  have hI := hI.of_W hSw hMe
  rw [a_cls (by omega)]
  refine V_aload_n F dL_law_1054 rfl ?_
  refine V_iconst F (v := nI 1) dL_law_1055 (by decide) ?_
  refine V_callV F (q0 := 0) (c_classCount hI _) mi_X3_classCount mm_X3_classCount lk_L_93 dL_law_1056 ⟨Nat.le_of_ble_eq_true rfl, Nat.le_of_ble_eq_true rfl⟩ rfl rfl (by decide) (Nat.le_of_ble_eq_true rfl) rfl rfl rfl (fun r μ' h => ?_)
  obtain ⟨rfl, hMe, hSw⟩ := h
  have hI := hI.of_W hSw hMe
  rw [a_cls (by omega)]
  refine V_icmp_gt_N F (tgt := 1079) dL_law_1059 (by decide) (by omega) (by omega) (fun hc => ?_) (fun hc => ?_)
  · exact absurd hc (by omega)
  refine V_aload_n F dL_law_1062 rfl ?_
  refine V_iconst F (v := nI 1) dL_law_1063 (by decide) ?_
  refine V_callV F (q0 := 0) (c_classCount hI _) mi_X3_classCount mm_X3_classCount lk_L_93 dL_law_1064 ⟨Nat.le_of_ble_eq_true rfl, Nat.le_of_ble_eq_true rfl⟩ rfl rfl (by decide) (Nat.le_of_ble_eq_true rfl) rfl rfl rfl (fun r μ' h => ?_)
  obtain ⟨rfl, hMe, hSw⟩ := h
  have hI := hI.of_W hSw hMe
  rw [a_cls (by omega)]
  refine V_aload_n F dL_law_1067 rfl ?_
  refine V_iconst F (v := nI 2) dL_law_1068 (by decide) ?_
  refine V_callV F (q0 := 0) (c_classCount hI _) mi_X3_classCount mm_X3_classCount lk_L_93 dL_law_1069 ⟨Nat.le_of_ble_eq_true rfl, Nat.le_of_ble_eq_true rfl⟩ rfl rfl (by decide) (Nat.le_of_ble_eq_true rfl) rfl rfl rfl (fun r μ' h => ?_)
  obtain ⟨rfl, hMe, hSw⟩ := h
  have hI := hI.of_W hSw hMe
  rw [a_cls (by omega)]
  refine V_icmp_gt_N F (tgt := 1079) dL_law_1072 (by decide) (by omega) (by omega) (fun hc => ?_) (fun hc => ?_)
  · exact absurd hc (by omega)
  exact lw_done F hA
set_option maxHeartbeats 1000000 in
theorem lw_d (F : Fx (GS g) p room_1 s m #[Value.ref b] meth c RL cL_law 22 ret 600000 7302250) (hA : ∀ q, AS g.1 q → s.heap.size ≤ q) {x y : Nat} (hx : x < 3) (hy : y < 3) (hne : x ≠ y) {μ : Mem} (hI : XInv (U4 x y) 5 μ) : V (GS g) p l e room_1 s m #[Value.ref b] below meth c 22 600000 7302250 (lw_Z below #[Value.ref b] s) 856 ([some (.ref b), some (.ref (g.1 0)), none, none, none, some (.int (nI 1)), none, none, some (.int (nI x)), some (.int (nI y)), some (.int (nI 2)), some (.int (nI 3)), some (.int (nI 4)), none, none, none, none, none, none, none, none, none]) ([]) (μ) := by
  obtain ⟨q1, q2, q3, q4, q5⟩ := q_n x hx y hy
  obtain ⟨s1, s2, s3⟩ := q_s x hx y hy hne
  obtain ⟨b1, b2⟩ := q_b x hx y hy hne
  refine V_iload F dL_law_856 rfl ?_
  refine V_if_eq_f F (tgt := 871) dL_law_858 (by decide) (by decide) ?_
  refine V_aload_n F dL_law_861 rfl ?_
  refine V_iload F dL_law_862 rfl ?_
  refine V_iconst F (v := nI 1) dL_law_864 (by decide) ?_
  refine V_callV F (q0 := 0) (c_input hI _ _) mi_X3_input mm_X3_input lk_L_28 dL_law_865 ⟨Nat.le_of_ble_eq_true rfl, Nat.le_of_ble_eq_true rfl⟩ rfl rfl (by decide) (Nat.le_of_ble_eq_true rfl) rfl rfl rfl (fun r μ' h => ?_)
  obtain ⟨rfl, hI, -⟩ := bq_fit (bq_in h (by omega) (by omega) (by omega)) (f_5 x hx y hy)
  have hI : XInv (U5 x y) 6 _ := hI
  refine V_goto F (tgt := 872) dL_law_868 (by decide) ?_
  refine V_istore F (lv' := [_, _, _, _, _, _, _, _, _, _, _, _, _, _, _, _, _, _, _, _, _, _]) dL_law_872 (by decide) rfl rfl ?_
  refine V_iload F dL_law_874 rfl ?_
  refine V_if_eq_f F (tgt := 890) dL_law_876 (by decide) (by decide) ?_
  refine V_aload_n F dL_law_879 rfl ?_
  refine V_iload F dL_law_880 rfl ?_
  refine V_iload F dL_law_882 rfl ?_
  refine V_callV F (q0 := 0) (c_sum hI _ _) mi_X3_sum mm_X3_sum lk_L_34 dL_law_884 ⟨Nat.le_of_ble_eq_true rfl, Nat.le_of_ble_eq_true rfl⟩ rfl rfl (by decide) (Nat.le_of_ble_eq_true rfl) rfl rfl rfl (fun r μ' h => ?_)
  obtain ⟨rfl, hI, -⟩ := bq_fit (bq_sum h (by omega) (by omega) (by omega)) (f_6 x hx y hy)
  have hI : XInv (U6 x y) 7 _ := hI
  refine V_goto F (tgt := 891) dL_law_887 (by decide) ?_
  refine V_istore F (lv' := [_, _, _, _, _, _, _, _, _, _, _, _, _, _, _, _, _, _, _, _, _, _]) dL_law_891 (by decide) rfl rfl ?_
  refine V_iload F dL_law_893 rfl ?_
  refine V_if_eq_f F (tgt := 909) dL_law_895 (by decide) (by decide) ?_
  refine V_aload_n F dL_law_898 rfl ?_
  refine V_iload F dL_law_899 rfl ?_
  refine V_iload F dL_law_901 rfl ?_
  refine V_callV F (q0 := 0) (c_sum hI _ _) mi_X3_sum mm_X3_sum lk_L_34 dL_law_903 ⟨Nat.le_of_ble_eq_true rfl, Nat.le_of_ble_eq_true rfl⟩ rfl rfl (by decide) (Nat.le_of_ble_eq_true rfl) rfl rfl rfl (fun r μ' h => ?_)
  obtain ⟨rfl, hI, -⟩ := bq_fit (bq_sum h (by omega) (by omega) (by omega)) (f_7 x hx y hy)
  have hI : XInv (U7 x y) 8 _ := hI
  refine V_goto F (tgt := 910) dL_law_906 (by decide) ?_
  refine V_istore F (lv' := [_, _, _, _, _, _, _, _, _, _, _, _, _, _, _, _, _, _, _, _, _, _]) dL_law_910 (by decide) rfl rfl ?_
  refine V_iload F dL_law_912 rfl ?_
  refine V_if_eq_f F (tgt := 1004) dL_law_914 (by decide) (by decide) ?_
  refine V_iload F dL_law_917 rfl ?_
  refine V_if_le_f F (tgt := 1004) dL_law_919 (by decide) (nI_nle (by omega) (by omega)) ?_
  refine V_aload_n F dL_law_922 rfl ?_
  refine V_iload F dL_law_923 rfl ?_
  refine V_callVi F (q0 := 0) (c_moveCount hI.1 _) mi_X3_moveCount mm_X3_moveCount lk_L_75 dL_law_925 ⟨Nat.le_of_ble_eq_true rfl, Nat.le_of_ble_eq_true rfl⟩ rfl rfl (by decide) (Nat.le_of_ble_eq_true rfl) rfl rfl rfl ?_
  rw [a_mc (by omega) (by omega) q5 (q_m x hx y hy hne)]
  refine V_iconst F (v := nI 3) dL_law_928 (by decide) ?_
  refine V_icmp_ne_f F (tgt := 1004) dL_law_929 (by decide) (rfl) ?_
  refine V_aload_n F dL_law_932 rfl ?_
  refine V_iload F dL_law_933 rfl ?_
  refine V_iload F dL_law_935 rfl ?_
  refine V_iconst F (v := nI 0) dL_law_937 (by decide) ?_
  refine V_callV F (q0 := 0) (c_areRelated hI _ _ _) mi_X3_areRelated mm_X3_areRelated lk_L_53 dL_law_938 ⟨Nat.le_of_ble_eq_true rfl, Nat.le_of_ble_eq_true rfl⟩ rfl rfl (by decide) (Nat.le_of_ble_eq_true rfl) rfl rfl rfl (fun r μ' h => ?_)
  obtain ⟨rfl, hMe, hSw⟩ := h
  have hI := hI.of_W hSw hMe
  rw [a_rel (by omega) (by omega) (by omega) (by omega) q4 q5 s1]
  refine V_iconst F (v := nI 1) dL_law_941 (by decide) ?_
  refine V_icmp_ne_f F (tgt := 1004) dL_law_942 (by decide) (rfl) ?_
  refine V_aload_n F dL_law_945 rfl ?_
  refine V_iload F dL_law_946 rfl ?_
  refine V_iload F dL_law_948 rfl ?_
  refine V_iconst F (v := nI 1) dL_law_950 (by decide) ?_
  refine V_callV F (q0 := 0) (c_areRelated hI _ _ _) mi_X3_areRelated mm_X3_areRelated lk_L_53 dL_law_951 ⟨Nat.le_of_ble_eq_true rfl, Nat.le_of_ble_eq_true rfl⟩ rfl rfl (by decide) (Nat.le_of_ble_eq_true rfl) rfl rfl rfl (fun r μ' h => ?_)
  obtain ⟨rfl, hMe, hSw⟩ := h
  have hI := hI.of_W hSw hMe
  rw [a_rel (by omega) (by omega) (by omega) (by omega) q4 q5 s2]
  refine V_iconst F (v := nI 1) dL_law_954 (by decide) ?_
  refine V_icmp_ne_f F (tgt := 1004) dL_law_955 (by decide) (rfl) ?_
  refine V_aload_n F dL_law_958 rfl ?_
  refine V_iload F dL_law_959 rfl ?_
  refine V_iload F dL_law_961 rfl ?_
  refine V_iconst F (v := nI 2) dL_law_963 (by decide) ?_
  refine V_callV F (q0 := 0) (c_rounds hI _ _ _) mi_X3_rounds mm_X3_rounds lk_L_56 dL_law_964 ⟨Nat.le_of_ble_eq_true rfl, Nat.le_of_ble_eq_true rfl⟩ rfl rfl (by decide) (Nat.le_of_ble_eq_true rfl) rfl rfl rfl (fun r μ' h => ?_)
  obtain ⟨rfl, hMe, hSw⟩ := h
  have hI := hI.of_W hSw hMe
  rw [a_rnd (by omega) (by omega) (by omega) (by omega) q4 q5 s3 (by omega)]
  refine V_iconst F (v := nI 2) dL_law_967 (by decide) ?_
  refine V_icmp_ne_f F (tgt := 1004) dL_law_968 (by decide) (rfl) ?_
  refine V_aload_n F dL_law_971 rfl ?_
  refine V_iload F dL_law_972 rfl ?_
  refine V_iload F dL_law_974 rfl ?_
  refine V_iconst F (v := nI 2) dL_law_976 (by decide) ?_
  refine V_callV F (q0 := 0) (c_firstAttack hI _ _ _) mi_X3_firstAttack mm_X3_firstAttack lk_L_81 dL_law_977 ⟨Nat.le_of_ble_eq_true rfl, Nat.le_of_ble_eq_true rfl⟩ rfl rfl (by decide) (Nat.le_of_ble_eq_true rfl) rfl rfl rfl (fun r μ' h => ?_)
  obtain ⟨rfl, hMe, hSw⟩ := h
  have hI := hI.of_W hSw hMe
  rw [a_atk (by omega) (by omega) (by omega) (by omega) q4 q5 b1]
  refine V_sipush F (v := nI 1029) dL_law_980 (by decide) ?_
  refine V_icmp_ne_f F (tgt := 1004) dL_law_983 (by decide) (rfl) ?_
  refine V_aload_n F dL_law_986 rfl ?_
  refine V_iload F dL_law_987 rfl ?_
  refine V_iload F dL_law_989 rfl ?_
  refine V_iconst F (v := nI 2) dL_law_991 (by decide) ?_
  refine V_callV F (q0 := 0) (c_firstAttack hI _ _ _) mi_X3_firstAttack mm_X3_firstAttack lk_L_81 dL_law_992 ⟨Nat.le_of_ble_eq_true rfl, Nat.le_of_ble_eq_true rfl⟩ rfl rfl (by decide) (Nat.le_of_ble_eq_true rfl) rfl rfl rfl (fun r μ' h => ?_)
  obtain ⟨rfl, hMe, hSw⟩ := h
  have hI := hI.of_W hSw hMe
  rw [a_atk (by omega) (by omega) (by omega) (by omega) q5 q4 b2]
  refine V_bipush F (v := nI 29) dL_law_995 (by decide) ?_
  refine V_icmp_ne_f F (tgt := 1004) dL_law_997 (by decide) (rfl) ?_
  refine V_iconst F (v := nI 1) dL_law_1000 (by decide) ?_
  refine V_goto F (tgt := 1005) dL_law_1001 (by decide) ?_
  refine V_istore F (lv' := [_, _, _, _, _, _, _, _, _, _, _, _, _, _, _, _, _, _, _, _, _, _]) dL_law_1005 (by decide) rfl rfl ?_
  exact lw_e F hA hx hy hne hI
set_option maxHeartbeats 1000000 in
theorem lw_c (F : Fx (GS g) p room_1 s m #[Value.ref b] meth c RL cL_law 22 ret 600000 7302250) (hA : ∀ q, AS g.1 q → s.heap.size ≤ q) {x y : Nat} (hx : x < 3) (hy : y < 3) (hne : x ≠ y) {μ : Mem} (hI : XInv Ti 1 μ) : V (GS g) p l e room_1 s m #[Value.ref b] below meth c 22 600000 7302250 (lw_Z below #[Value.ref b] s) 690 ([some (.ref b), some (.ref (g.1 0)), none, none, none, some (.int (nI 1)), none, none, some (.int (nI x)), some (.int (nI y)), none, none, none, none, none, none, none, none, none, none, none, none]) ([]) (μ) := by
  obtain ⟨q1, q2, q3, q4, q5⟩ := q_n x hx y hy
  obtain ⟨r1, r2, r3, r4⟩ := q_r x hx y hy hne
  obtain ⟨a1, a2⟩ := q_a x hx y hy hne
  refine V_aload_n F dL_law_690 rfl ?_
  refine V_iconst F (v := nI 0) dL_law_691 (by decide) ?_
  refine V_callV F (q0 := 0) (c_tau hI _) mi_X3_tau mm_X3_tau lk_L_19 dL_law_692 ⟨Nat.le_of_ble_eq_true rfl, Nat.le_of_ble_eq_true rfl⟩ rfl rfl (by decide) (Nat.le_of_ble_eq_true rfl) rfl rfl rfl (fun r μ' h => ?_)
  obtain ⟨rfl, hI, -⟩ := bq_fit (bq_tau h (by omega) (by omega)) (f_1)
  have hI : XInv U1 2 _ := hI
  refine V_istore F (lv' := [_, _, _, _, _, _, _, _, _, _, _, _, _, _, _, _, _, _, _, _, _, _]) dL_law_695 (by decide) rfl rfl ?_
  refine V_iload F dL_law_697 rfl ?_
  refine V_if_eq_f F (tgt := 714) dL_law_699 (by decide) (by decide) ?_
  refine V_aload_n F dL_law_702 rfl ?_
  refine V_iconst F (v := nI 3) dL_law_703 (by decide) ?_
  refine V_iload F dL_law_704 rfl ?_
  refine V_iload F dL_law_706 rfl ?_
  refine V_callV F (q0 := 0) (c_match hI _ _ _) mi_X3_match mm_X3_match lk_L_31 dL_law_708 ⟨Nat.le_of_ble_eq_true rfl, Nat.le_of_ble_eq_true rfl⟩ rfl rfl (by decide) (Nat.le_of_ble_eq_true rfl) rfl rfl rfl (fun r μ' h => ?_)
  obtain ⟨rfl, hI, -⟩ := bq_fit (bq_mat h (by omega) (by omega) (by omega) (by omega)) (f_2)
  have hI : XInv (U2 y) 3 _ := hI
  refine V_goto F (tgt := 715) dL_law_711 (by decide) ?_
  refine V_istore F (lv' := [_, _, _, _, _, _, _, _, _, _, _, _, _, _, _, _, _, _, _, _, _, _]) dL_law_715 (by decide) rfl rfl ?_
  refine V_iload F dL_law_717 rfl ?_
  refine V_if_eq_f F (tgt := 733) dL_law_719 (by decide) (by decide) ?_
  refine V_aload_n F dL_law_722 rfl ?_
  refine V_iload F dL_law_723 rfl ?_
  refine V_iload F dL_law_725 rfl ?_
  refine V_callV F (q0 := 0) (c_input hI _ _) mi_X3_input mm_X3_input lk_L_28 dL_law_727 ⟨Nat.le_of_ble_eq_true rfl, Nat.le_of_ble_eq_true rfl⟩ rfl rfl (by decide) (Nat.le_of_ble_eq_true rfl) rfl rfl rfl (fun r μ' h => ?_)
  obtain ⟨rfl, hI, -⟩ := bq_fit (bq_in h (by omega) (by omega) (by omega)) (f_3 y hy)
  have hI : XInv (U3 x y) 4 _ := hI
  refine V_goto F (tgt := 734) dL_law_730 (by decide) ?_
  refine V_istore F (lv' := [_, _, _, _, _, _, _, _, _, _, _, _, _, _, _, _, _, _, _, _, _, _]) dL_law_734 (by decide) rfl rfl ?_
  refine V_iload F dL_law_736 rfl ?_
  refine V_if_eq_f F (tgt := 751) dL_law_738 (by decide) (by decide) ?_
  refine V_aload_n F dL_law_741 rfl ?_
  refine V_iload F dL_law_742 rfl ?_
  refine V_iconst F (v := nI 0) dL_law_744 (by decide) ?_
  refine V_callV F (q0 := 0) (c_input hI _ _) mi_X3_input mm_X3_input lk_L_28 dL_law_745 ⟨Nat.le_of_ble_eq_true rfl, Nat.le_of_ble_eq_true rfl⟩ rfl rfl (by decide) (Nat.le_of_ble_eq_true rfl) rfl rfl rfl (fun r μ' h => ?_)
  obtain ⟨rfl, hI, -⟩ := bq_fit (bq_in h (by omega) (by omega) (by omega)) (f_4 x hx y hy)
  have hI : XInv (U4 x y) 5 _ := hI
  refine V_goto F (tgt := 752) dL_law_748 (by decide) ?_
  refine V_istore F (lv' := [_, _, _, _, _, _, _, _, _, _, _, _, _, _, _, _, _, _, _, _, _, _]) dL_law_752 (by decide) rfl rfl ?_
  refine V_iload F dL_law_754 rfl ?_
  refine V_if_eq_f F (tgt := 853) dL_law_756 (by decide) (by decide) ?_
  refine V_aload_n F dL_law_759 rfl ?_
  refine V_iload F dL_law_760 rfl ?_
  refine V_callVi F (q0 := 0) (c_needOf hI.1 _) mi_X3_needOf mm_X3_needOf lk_L_87 dL_law_762 ⟨Nat.le_of_ble_eq_true rfl, Nat.le_of_ble_eq_true rfl⟩ rfl rfl (by decide) (Nat.le_of_ble_eq_true rfl) rfl rfl rfl ?_
  rw [rFld_ok (by omega) (by omega), q1]
  refine V_iconst F (v := nI 1) dL_law_765 (by decide) ?_
  refine V_icmp_ne_f F (tgt := 853) dL_law_766 (by decide) (rfl) ?_
  refine V_aload_n F dL_law_769 rfl ?_
  refine V_iload F dL_law_770 rfl ?_
  refine V_iload F dL_law_772 rfl ?_
  refine V_iconst F (v := nI 0) dL_law_774 (by decide) ?_
  refine V_callV F (q0 := 0) (c_areRelated hI _ _ _) mi_X3_areRelated mm_X3_areRelated lk_L_53 dL_law_775 ⟨Nat.le_of_ble_eq_true rfl, Nat.le_of_ble_eq_true rfl⟩ rfl rfl (by decide) (Nat.le_of_ble_eq_true rfl) rfl rfl rfl (fun r μ' h => ?_)
  obtain ⟨rfl, hMe, hSw⟩ := h
  have hI := hI.of_W hSw hMe
  rw [a_rel (by omega) (by omega) (by omega) (by omega) q2 q3 r1]
  refine V_iconst F (v := nI 1) dL_law_778 (by decide) ?_
  refine V_icmp_ne_f F (tgt := 853) dL_law_779 (by decide) (rfl) ?_
  refine V_aload_n F dL_law_782 rfl ?_
  refine V_iload F dL_law_783 rfl ?_
  refine V_iload F dL_law_785 rfl ?_
  refine V_iconst F (v := nI 1) dL_law_787 (by decide) ?_
  refine V_callV F (q0 := 0) (c_rounds hI _ _ _) mi_X3_rounds mm_X3_rounds lk_L_56 dL_law_788 ⟨Nat.le_of_ble_eq_true rfl, Nat.le_of_ble_eq_true rfl⟩ rfl rfl (by decide) (Nat.le_of_ble_eq_true rfl) rfl rfl rfl (fun r μ' h => ?_)
  obtain ⟨rfl, hMe, hSw⟩ := h
  have hI := hI.of_W hSw hMe
  rw [a_rnd (by omega) (by omega) (by omega) (by omega) q2 q3 r2 (by omega)]
  refine V_iconst F (v := nI 2) dL_law_791 (by decide) ?_
  refine V_icmp_ne_f F (tgt := 853) dL_law_792 (by decide) (rfl) ?_
  refine V_aload_n F dL_law_795 rfl ?_
  refine V_iload F dL_law_796 rfl ?_
  refine V_iload F dL_law_798 rfl ?_
  refine V_iconst F (v := nI 2) dL_law_800 (by decide) ?_
  refine V_callV F (q0 := 0) (c_rounds hI _ _ _) mi_X3_rounds mm_X3_rounds lk_L_56 dL_law_801 ⟨Nat.le_of_ble_eq_true rfl, Nat.le_of_ble_eq_true rfl⟩ rfl rfl (by decide) (Nat.le_of_ble_eq_true rfl) rfl rfl rfl (fun r μ' h => ?_)
  obtain ⟨rfl, hMe, hSw⟩ := h
  have hI := hI.of_W hSw hMe
  rw [a_rnd (by omega) (by omega) (by omega) (by omega) q2 q3 r3 (by omega)]
  refine V_iconst F (v := nI 2) dL_law_804 (by decide) ?_
  refine V_icmp_ne_f F (tgt := 853) dL_law_805 (by decide) (rfl) ?_
  refine V_aload_n F dL_law_808 rfl ?_
  refine V_iload F dL_law_809 rfl ?_
  refine V_iload F dL_law_811 rfl ?_
  refine V_iconst F (v := nI 1) dL_law_813 (by decide) ?_
  refine V_callV F (q0 := 0) (c_firstAttack hI _ _ _) mi_X3_firstAttack mm_X3_firstAttack lk_L_81 dL_law_814 ⟨Nat.le_of_ble_eq_true rfl, Nat.le_of_ble_eq_true rfl⟩ rfl rfl (by decide) (Nat.le_of_ble_eq_true rfl) rfl rfl rfl (fun r μ' h => ?_)
  obtain ⟨rfl, hMe, hSw⟩ := h
  have hI := hI.of_W hSw hMe
  rw [a_atk (by omega) (by omega) (by omega) (by omega) q2 q3 a1]
  refine V_iload F dL_law_817 rfl ?_
  refine V_icmp_ne_f F (tgt := 853) dL_law_819 (by decide) (rfl) ?_
  refine V_aload_n F dL_law_822 rfl ?_
  refine V_iload F dL_law_823 rfl ?_
  refine V_iload F dL_law_825 rfl ?_
  refine V_iconst F (v := nI 2) dL_law_827 (by decide) ?_
  refine V_callV F (q0 := 0) (c_firstAttack hI _ _ _) mi_X3_firstAttack mm_X3_firstAttack lk_L_81 dL_law_828 ⟨Nat.le_of_ble_eq_true rfl, Nat.le_of_ble_eq_true rfl⟩ rfl rfl (by decide) (Nat.le_of_ble_eq_true rfl) rfl rfl rfl (fun r μ' h => ?_)
  obtain ⟨rfl, hMe, hSw⟩ := h
  have hI := hI.of_W hSw hMe
  rw [a_atk (by omega) (by omega) (by omega) (by omega) q2 q3 a2]
  refine V_bipush F (v := nI 9) dL_law_831 (by decide) ?_
  refine V_icmp_ne_f F (tgt := 853) dL_law_833 (by decide) (rfl) ?_
  refine V_aload_n F dL_law_836 rfl ?_
  refine V_iload F dL_law_837 rfl ?_
  refine V_iload F dL_law_839 rfl ?_
  refine V_iconst F (v := nI 1) dL_law_841 (by decide) ?_
  refine V_callV F (q0 := 0) (c_rounds hI _ _ _) mi_X3_rounds mm_X3_rounds lk_L_56 dL_law_842 ⟨Nat.le_of_ble_eq_true rfl, Nat.le_of_ble_eq_true rfl⟩ rfl rfl (by decide) (Nat.le_of_ble_eq_true rfl) rfl rfl rfl (fun r μ' h => ?_)
  obtain ⟨rfl, hMe, hSw⟩ := h
  have hI := hI.of_W hSw hMe
  rw [a_rnd (by omega) (by omega) (by omega) (by omega) q3 q2 r4 (by omega)]
  refine V_iconst F (v := nI 2) dL_law_845 (by decide) ?_
  refine V_icmp_ne_f F (tgt := 853) dL_law_846 (by decide) (rfl) ?_
  refine V_iconst F (v := nI 1) dL_law_849 (by decide) ?_
  refine V_goto F (tgt := 854) dL_law_850 (by decide) ?_
  refine V_istore F (lv' := [_, _, _, _, _, _, _, _, _, _, _, _, _, _, _, _, _, _, _, _, _, _]) dL_law_854 (by decide) rfl rfl ?_
  exact lw_d F hA hx hy hne hI
end LAWB
end
section
section LAWM
variable {T : Tb} {n : Nat}
theorem bT_at (T : Tb) (n k x y p q : Nat) : bT T n k x y p q 0 n = k ∧ bT T n k x y p q 1 n = x ∧ bT T n k x y p q 2 n = y ∧ bT T n k x y p q 3 n = p ∧ bT T n k x y p q 4 n = q ∧ bT T n k x y p q 5 n = bD T k p q ∧ bT T n k x y p q 6 n = bB T k p q ∧ bT T n k x y p q 7 n = bN T k x y p q ∧ bT T n k x y p q 8 n = bL T k p q := by
  simp [bT]
theorem WF.zero (hW : WF T n) : T 0 0 = 0 ∧ T 5 0 = 0 ∧ T 6 0 = 0 ∧ T 7 0 = 0 := by
  obtain ⟨-, ⟨h0, -, -, -, -, h5, h6, h7, -⟩, -⟩ := hW
  exact ⟨h0, h5, h6, h7⟩
/-- a closed process, and what the law's row says of it -/
def PI (T : Tb) (n : Nat) (μ : Mem) (p : Nat) : Prop := p < n ∧ T 7 p = 0 ∧ ∃ v, v < 2 ^ 31 ∧ μ.1 16 p = nI v ∧ v / 64 = T 5 p
theorem PI.step {μ μ' : Mem} {p n' : Nat} {T' : Tb} (h : PI T n μ p) (hT : ∀ f, T' f p = T f p) (hn : p < n') (hs : sameM μ μ') : PI T' n' μ' p := by
  obtain ⟨h1, h2, v, h3, h4, h5⟩ := h
  exact ⟨hn, by rw [hT]; exact h2, v, h3, by rw [hs 16 (by omega)]; exact h4, by rw [hT]; exact h5⟩
/-- two matches of the same process -/
theorem mat2 {x y p : Nat} (hW : WF T n) (hW2 : WF (bT (bT T n 4 x x p 0) (n + 1) 4 x y p 0) (n + 2)) (hx : x < 3) (hy : y < 3) (hne : x ≠ y) (hp : p < n) (h7 : T 7 p = 0) :
    (∀ rel, rnd (bT (bT T n 4 x x p 0) (n + 1) 4 x y p 0) rel p n = 4) ∧ (∀ rel, rnd (bT (bT T n 4 x x p 0) (n + 1) 4 x y p 0) rel 0 (n + 1) = 4) ∧
    bT (bT T n 4 x x p 0) (n + 1) 4 x y p 0 7 n = 0 ∧ bT (bT T n 4 x x p 0) (n + 1) 4 x y p 0 7 (n + 1) = 0 ∧ bT (bT T n 4 x x p 0) (n + 1) 4 x y p 0 8 n = bT (bT T n 4 x x p 0) (n + 1) 4 x y p 0 8 p + 5 ∧
    ∀ f j, j < n → bT (bT T n 4 x x p 0) (n + 1) 4 x y p 0 f j = T f j := by
  have hold : ∀ f j, j < n → bT (bT T n 4 x x p 0) (n + 1) 4 x y p 0 f j = T f j := fun f j hj => by rw [bT_old (by omega), bT_old (by omega)]
  obtain ⟨a0, a1, a2, a3, a4, a5, a6, a7, a8⟩ := bT_at T n 4 x x p 0
  obtain ⟨b0, b1, b2, b3, b4, b5, b6, b7, b8⟩ := bT_at (bT T n 4 x x p 0) (n + 1) 4 x y p 0
  obtain ⟨z0, z5, z6, z7⟩ := hW.zero
  have hn0 := hW.1.1
  have e : ∀ f, bT (bT T n 4 x x p 0) (n + 1) 4 x y p 0 f n = bT T n 4 x x p 0 f n := fun f => bT_old (by omega)
  have m1 : mvs (bT (bT T n 4 x x p 0) (n + 1) 4 x y p 0) n [] = mvs (bT (bT T n 4 x x p 0) (n + 1) 4 x y p 0) p [] := by
    rw [mvs_mat hW2 (show n < n + 2 by omega) (by rw [e, a0]) [] (by rw [e, e, a1, a2]), e, a3]
  have m2 : mvs (bT (bT T n 4 x x p 0) (n + 1) 4 x y p 0) (n + 1) [] = [] := mvs_mat0 hW2 (show n + 1 < n + 2 by omega) b0 [] (by rw [b1, b2, vl_lo _ hx, vl_lo _ hy]; exact hne)
  refine ⟨fun rel => rnd_same rel (fun a ha => by rw [m1]; exact ha) (fun a ha => by rw [← m1]; exact ha), fun rel => rnd_same rel (fun a ha => by rw [mvs_zero hW2] at ha; cases ha) (fun a ha => by rw [m2] at ha; cases ha), ?_, ?_, ?_, hold⟩
  · rw [e, a7]; unfold bN; rw [if_neg (by omega)]; omega
  · rw [b7]; unfold bN; rw [if_neg (by omega), bT_old (show p ≠ n by omega), bT_old (show 0 ≠ n by omega)]; omega
  · rw [e, a8, hold 8 p hp]; unfold bL; rw [if_neg (by omega)]; simp only [hdl]; omega
/-- a sum with nothing -/
theorem sum0 {p : Nat} (hW : WF T n) (hW2 : WF (bT T n 5 0 0 p 0) (n + 1)) (hp : p < n) (h7 : T 7 p = 0) :
    (∀ rel, rnd (bT T n 5 0 0 p 0) rel p n = 4) ∧ bT T n 5 0 0 p 0 7 n = 0 ∧ mvs (bT T n 5 0 0 p 0) n [] = mvs (bT T n 5 0 0 p 0) p [] := by
  obtain ⟨a0, a1, a2, a3, a4, a5, a6, a7, a8⟩ := bT_at T n 5 0 0 p 0
  obtain ⟨z0, z5, z6, z7⟩ := hW.zero
  have m1 : mvs (bT T n 5 0 0 p 0) n [] = mvs (bT T n 5 0 0 p 0) p [] := by
    rw [mvs_sum hW2 (show n < n + 1 by omega) a0, a3, a4, mvs_zero hW2, List.append_nil]
  refine ⟨fun rel => rnd_same rel (fun a ha => by rw [m1]; exact ha) (fun a ha => by rw [← m1]; exact ha), ?_, m1⟩
  rw [a7]; unfold bN; rw [if_neg (by omega)]; omega
/-- a sum in both orders -/
theorem sum2 {p q : Nat} (hW : WF T n) (hW2 : WF (bT (bT T n 5 0 0 p q) (n + 1) 5 0 0 q p) (n + 2)) (hp : p < n) (hq : q < n) (h7p : T 7 p = 0) (h7q : T 7 q = 0) :
    (∀ rel, rnd (bT (bT T n 5 0 0 p q) (n + 1) 5 0 0 q p) rel n (n + 1) = 4) ∧ bT (bT T n 5 0 0 p q) (n + 1) 5 0 0 q p 7 n = 0 ∧ bT (bT T n 5 0 0 p q) (n + 1) 5 0 0 q p 7 (n + 1) = 0 ∧
    mvs (bT (bT T n 5 0 0 p q) (n + 1) 5 0 0 q p) n [] = mvs (bT (bT T n 5 0 0 p q) (n + 1) 5 0 0 q p) p [] ++ mvs (bT (bT T n 5 0 0 p q) (n + 1) 5 0 0 q p) q [] ∧
    (∀ rel, rnd (bT (bT T n 5 0 0 p q) (n + 1) 5 0 0 q p) rel p q = 4 → rnd (bT (bT T n 5 0 0 p q) (n + 1) 5 0 0 q p) rel n p = 4) ∧
    ∀ f j, j < n → bT (bT T n 5 0 0 p q) (n + 1) 5 0 0 q p f j = T f j := by
  have hold : ∀ f j, j < n → bT (bT T n 5 0 0 p q) (n + 1) 5 0 0 q p f j = T f j := fun f j hj => by rw [bT_old (by omega), bT_old (by omega)]
  obtain ⟨a0, a1, a2, a3, a4, a5, a6, a7, a8⟩ := bT_at T n 5 0 0 p q
  obtain ⟨b0, b1, b2, b3, b4, b5, b6, b7, b8⟩ := bT_at (bT T n 5 0 0 p q) (n + 1) 5 0 0 q p
  have e : ∀ f, bT (bT T n 5 0 0 p q) (n + 1) 5 0 0 q p f n = bT T n 5 0 0 p q f n := fun f => bT_old (by omega)
  have m1 : mvs (bT (bT T n 5 0 0 p q) (n + 1) 5 0 0 q p) n [] = mvs (bT (bT T n 5 0 0 p q) (n + 1) 5 0 0 q p) p [] ++ mvs (bT (bT T n 5 0 0 p q) (n + 1) 5 0 0 q p) q [] := by
    rw [mvs_sum hW2 (show n < n + 2 by omega) (by rw [e, a0]), e, e, a3, a4]
  have m2 : mvs (bT (bT T n 5 0 0 p q) (n + 1) 5 0 0 q p) (n + 1) [] = mvs (bT (bT T n 5 0 0 p q) (n + 1) 5 0 0 q p) q [] ++ mvs (bT (bT T n 5 0 0 p q) (n + 1) 5 0 0 q p) p [] := by
    rw [mvs_sum hW2 (show n + 1 < n + 2 by omega) b0, b3, b4]
  refine ⟨fun rel => rnd_same rel (fun a ha => ?_) (fun a ha => ?_), ?_, ?_, m1, fun rel hr => rnd_absorb rel (fun a => by rw [m1, List.mem_append]) hr, hold⟩
  · rw [m1, List.mem_append] at ha
    rw [m2, List.mem_append]
    exact ha.symm
  · rw [m2, List.mem_append] at ha
    rw [m1, List.mem_append]
    exact ha.symm
  · rw [e, a7]; unfold bN; rw [if_neg (by omega)]; omega
  · rw [b7]; unfold bN; rw [if_neg (by omega), bT_old (show p ≠ n by omega), bT_old (show q ≠ n by omega)]; omega
/-- two prefixes -/
theorem pfx2 {k x z p q : Nat} (hW : WF T n) (hW2 : WF (bT (bT T n k x z p 0) (n + 1) k x z q 0) (n + 2)) (hk1 : 1 ≤ k) (hk : k ≤ 3) (hx : x < 3) (hz : z < 3) (hp : p < n) (hq : q < n) (h7p : T 7 p = 0) (h7q : T 7 q = 0) (h5p : T 5 p ≤ 2) (h5q : T 5 q ≤ 2) (rel : Nat) :
    rnd (bT (bT T n k x z p 0) (n + 1) k x z q 0) rel n (n + 1) = (if rnd T rel p q = 4 then 4 else rnd T rel p q + 1) ∧
    (k ≠ 3 → rnd T rel p q ≠ 4 → atkR (bT (bT T n k x z p 0) (n + 1) k x z q 0) rel n (n + 1) = nI 9) ∧
    bT (bT T n k x z p 0) (n + 1) k x z q 0 7 n = 0 ∧ bT (bT T n k x z p 0) (n + 1) k x z q 0 7 (n + 1) = 0 ∧ bT (bT T n k x z p 0) (n + 1) k x z q 0 5 (n + 1) = T 5 q + 1 ∧
    (∀ f j, j < n → bT (bT T n k x z p 0) (n + 1) k x z q 0 f j = T f j) ∧ rnd (bT (bT T n k x z p 0) (n + 1) k x z q 0) rel p q = rnd T rel p q := by
  have hold : ∀ f j, j < n → bT (bT T n k x z p 0) (n + 1) k x z q 0 f j = T f j := fun f j hj => by rw [bT_old (by omega), bT_old (by omega)]
  obtain ⟨a0, a1, a2, a3, a4, a5, a6, a7, a8⟩ := bT_at T n k x z p 0
  obtain ⟨b0, b1, b2, b3, b4, b5, b6, b7, b8⟩ := bT_at (bT T n k x z p 0) (n + 1) k x z q 0
  obtain ⟨z0, z5, z6, z7⟩ := hW.zero
  have hn0 := hW.1.1
  have e : ∀ f, bT (bT T n k x z p 0) (n + 1) k x z q 0 f n = bT T n k x z p 0 f n := fun f => bT_old (by omega)
  have hc : rnd (bT (bT T n k x z p 0) (n + 1) k x z q 0) rel p q = rnd T rel p q := rnd_congr hW hW2 (by omega) hold rel hp hq
  have hX : Pfx (bT (bT T n k x z p 0) (n + 1) k x z q 0) (n + 2) n (n + 1) := by
    refine ⟨by omega, by omega, ?_, ?_, ?_, ?_, ?_, ?_, ?_⟩
    · rw [e, a0]; exact hk1
    · rw [e, a0]; exact hk
    · rw [e, a0, b0]
    · rw [e, a1, b1]
    · rw [e, a2, b2]
    · rw [e, a3, hold 7 p hp]; exact h7p
    · rw [b3, hold 7 q hq]; exact h7q
  have g5a : bT (bT T n k x z p 0) (n + 1) k x z q 0 5 (bT (bT T n k x z p 0) (n + 1) k x z q 0 3 n) ≤ 2 := by rw [e, a3, hold 5 p hp]; exact h5p
  have g5b : bT (bT T n k x z p 0) (n + 1) k x z q 0 5 (bT (bT T n k x z p 0) (n + 1) k x z q 0 3 (n + 1)) ≤ 2 := by rw [b3, hold 5 q hq]; exact h5q
  refine ⟨?_, fun h3 hr => ?_, ?_, ?_, ?_, hold, hc⟩
  · have h := Pfx_rnd hW2 hX rel g5a g5b
    rw [e 3, a3, b3, hc] at h
    exact h
  · refine Pfx_atk hW2 hX rel (by rw [e, a0]; exact h3) g5a g5b ?_
    rw [e 3, a3, b3, hc]
    exact hr
  · rw [e, a7]; unfold bN; omega
  · rw [b7]; unfold bN; rw [bT_old (show q ≠ n by omega), bT_old (show 0 ≠ n by omega)]; omega
  · rw [b5]; unfold bD; rw [if_pos hk, bT_old (show q ≠ n by omega), bT_old (show 0 ≠ n by omega)]; omega
theorem fit_act {k p : Nat} (hW : WF T n) (hk : k ≤ 3) (hn : n < 24) (h5 : T 5 p ≤ 2) : bFit T n k p 0 := by
  obtain ⟨z0, z5, z6, z7⟩ := hW.zero
  refine ⟨hn, ?_, ?_⟩
  · unfold bD; rw [if_pos hk]; omega
  · unfold bB; rw [if_pos hk]; omega
theorem fit_mat {p : Nat} (hW : WF T n) (hn : n < 24) (hp : p < n) : bFit T n 4 p 0 := by
  obtain ⟨z0, z5, z6, z7⟩ := hW.zero
  have := hW.depth hp
  refine ⟨hn, ?_, ?_⟩
  · unfold bD; rw [if_neg (by omega)]; omega
  · unfold bB; rw [if_neg (by omega)]; omega
theorem fit_sum0 {p : Nat} (hW : WF T n) (hn : n < 24) (hp : p < n) : bFit T n 5 p 0 := by
  obtain ⟨z0, z5, z6, z7⟩ := hW.zero
  have := hW.depth hp
  refine ⟨hn, ?_, ?_⟩
  · unfold bD; rw [if_neg (by omega)]; omega
  · unfold bB; rw [if_neg (by omega)]; omega
theorem fit_sum2 {p q : Nat} (hn : n + 1 < 24) (hp : p < n) (hq : q < n) (hf : bFit T n 5 p q) : bFit (bT T n 5 0 0 p q) (n + 1) 5 q p := by
  obtain ⟨h1, h2, h3⟩ := hf
  unfold bD at h2
  unfold bB at h3
  rw [if_neg (by omega)] at h2 h3
  refine ⟨hn, ?_, ?_⟩
  · unfold bD; rw [if_neg (by omega), bT_old (show p ≠ n by omega), bT_old (show q ≠ n by omega)]; omega
  · unfold bB; rw [if_neg (by omega), bT_old (show p ≠ n by omega), bT_old (show q ≠ n by omega)]; omega
theorem rq_less {μ μ' : Mem} {r : Option Value} (h : RQ T (n + 1) μ r μ') (hn : 0 < n) : r = some (.int (nI n)) ∧ XInv T n μ' ∧ sameM μ μ' := by
  rcases h with h | h
  · exact absurd h.1 (by omega)
  · exact h.2
end LAWM
end
section
section LAWD
variable {g : Gm} {p : Program} {l : Launch} {e : Env} {s : State} {m : MethodId} {below : List Frame} {meth : Method} {c : Code} {b L : Nat} {xs : Nat → Int32} {ck cn : Nat} {T : Tb} {n i j x y r : Nat}
set_option maxHeartbeats 1000000 in
theorem ld_6 (F : Fx (GS g) p room_1 s m #[Value.ref b] meth c RL cL_law 22 ret ck cn) {μ : Mem} (hI : XInv T n μ) (hn : n + 2 ≤ 24) (hi : PI T n μ i) (hj : PI T n μ j) (h5i : T 5 i ≤ 2) (h5j : T 5 j ≤ 2) (hr : r < 3) (hx : x < 3) (hy : y < 3) (hend : ∀ μ : Mem, V (GS g) p l e room_1 s m #[Value.ref b] below meth c 22 ck cn (lw_Z below #[Value.ref b] s) 682 ([some (.ref b), none, none, none, none, some (.int (nI 1)), none, none, some (.int (nI x)), some (.int (nI y)), none, none, none, none, none, none, none, none, none, none, none, none]) ([]) (μ)) : V (GS g) p l e room_1 s m #[Value.ref b] below meth c 22 ck cn (lw_Z below #[Value.ref b] s) 605 ([some (.ref b), some (.ref (g.1 0)), none, some (.ref (g.1 16)), none, some (.int (nI 1)), some (.int (nI i)), some (.int (nI j)), some (.int (nI x)), some (.int (nI y)), some (.int (nI r)), none, none, none, none, none, none, some (.int (rdI T r i j)), none, none, none, none]) ([]) (μ) := by
  obtain ⟨hi1, hi2, vi, hi3, hi4, hi5⟩ := id hi
  obtain ⟨hj1, hj2, vj, hj3, hj4, hj5⟩ := id hj
  have hW := hI.1.1
  refine V_aload_n F dL_law_605 rfl ?_
  refine V_iload F dL_law_606 rfl ?_
  refine V_iload F dL_law_608 rfl ?_
  refine V_callV F (q0 := 0) (c_input hI _ _) mi_X3_input mm_X3_input lk_L_28 dL_law_610 ⟨Nat.le_of_ble_eq_true rfl, Nat.le_of_ble_eq_true rfl⟩ rfl rfl (by decide) (Nat.le_of_ble_eq_true rfl) rfl rfl rfl (fun r μ' h => ?_)
  obtain ⟨rfl, hI1, hs1⟩ := bq_fit (bq_in h (by omega) hi1 (by omega)) (fit_act hW (by omega) (by omega) h5i)
  refine V_istore F (lv' := [_, _, _, _, _, _, _, _, _, _, _, _, _, _, _, _, _, _, _, _, _, _]) dL_law_613 (by decide) rfl rfl ?_
  refine V_aload_n F dL_law_615 rfl ?_
  refine V_iload F dL_law_616 rfl ?_
  refine V_iload F dL_law_618 rfl ?_
  refine V_callV F (q0 := 0) (c_input hI1 _ _) mi_X3_input mm_X3_input lk_L_28 dL_law_620 ⟨Nat.le_of_ble_eq_true rfl, Nat.le_of_ble_eq_true rfl⟩ rfl rfl (by decide) (Nat.le_of_ble_eq_true rfl) rfl rfl rfl (fun r μ' h => ?_)
  obtain ⟨rfl, hI2, hs2⟩ := bq_fit (bq_in h (by omega) (by omega) (by omega)) (fit_act hI1.1.1 (by omega) (by omega) (by rw [bT_old (by omega)]; exact h5j))
  obtain ⟨m1, -, m3, m4, m5, m6, m7⟩ := pfx2 hW hI2.1.1 (k := 3) (x := x) (z := 0) (by omega) (by omega) hx (by omega) hi1 hj1 hi2 hj2 h5i h5j r
  refine V_istore F (lv' := [_, _, _, _, _, _, _, _, _, _, _, _, _, _, _, _, _, _, _, _, _, _]) dL_law_623 (by decide) rfl rfl ?_
  refine V_iload F dL_law_625 rfl ?_
  refine V_if_eq_f F (tgt := 679) dL_law_627 (by decide) (by decide) ?_
  refine V_aload_n F dL_law_630 rfl ?_
  refine V_iload F dL_law_631 rfl ?_
  refine V_iload F dL_law_633 rfl ?_
  refine V_iload F dL_law_635 rfl ?_
  refine V_callV F (q0 := 0) (c_rounds hI2 _ _ _) mi_X3_rounds mm_X3_rounds lk_L_56 dL_law_637 ⟨Nat.le_of_ble_eq_true rfl, Nat.le_of_ble_eq_true rfl⟩ rfl rfl (by decide) (Nat.le_of_ble_eq_true rfl) rfl rfl rfl (fun r μ' h => ?_)
  obtain ⟨rfl, hMe, hSw⟩ := h
  have hI3 := hI2.of_W hSw hMe
  have hshI3 := sameM_W hSw
  have e16 : μ'.1 16 j = nI vj := by rw [hshI3 16 (by omega), hs2 16 (by omega), hs1 16 (by omega)]; exact hj4
  have m657 : V (GS g) p l e room_1 s m #[Value.ref b] below meth c 22 ck cn (lw_Z below #[Value.ref b] s) 657 ([some (.ref b), some (.ref (g.1 0)), none, some (.ref (g.1 16)), none, some (.int (nI 1)), some (.int (nI i)), some (.int (nI j)), some (.int (nI x)), some (.int (nI y)), some (.int (nI r)), none, none, none, none, none, none, some (.int (rdI T r i j)), none, none, some (.int (nI n)), some (.int (nI (n + 1)))]) ([]) (μ') := by
    refine V_aload_n F dL_law_657 rfl ?_
    refine V_iload F dL_law_658 rfl ?_
    refine V_callVi F (q0 := 0) (c_depthOf hI3.1 _) mi_X3_depthOf mm_X3_depthOf lk_L_84 dL_law_660 ⟨Nat.le_of_ble_eq_true rfl, Nat.le_of_ble_eq_true rfl⟩ rfl rfl (by decide) (Nat.le_of_ble_eq_true rfl) rfl rfl rfl ?_
    rw [rFld_ok (by omega) (by omega), m5]
    refine V_aload_n F dL_law_663 rfl ?_
    refine V_iload F dL_law_664 rfl ?_
    refine V_ia F dL_law_666 rfl (rfl) (show j < 24 by omega) (e16) ?_
    refine V_bipush F (v := nI 64) dL_law_667 (by decide) ?_
    refine V_idiv F dL_law_669 (by decide) ?_
    refine V_val F (pk_div (by omega) (by omega) (by omega)) ?_
    refine V_val F (congrArg nI hj5) ?_
    refine V_iconst F (v := nI 1) dL_law_670 (by decide) ?_
    (first | refine V_iaddN F dL_law_671 ?_ | refine V_iadd F dL_law_671 ?_)
    refine V_icmp_ne_f F (tgt := 679) dL_law_672 (by decide) (rfl) ?_
    refine V_iconst F (v := nI 1) dL_law_675 (by decide) ?_
    refine V_goto F (tgt := 680) dL_law_676 (by decide) ?_
    refine V_istore F (lv' := [_, _, _, _, _, _, _, _, _, _, _, _, _, _, _, _, _, _, _, _, _, _]) dL_law_680 (by decide) rfl rfl ?_
    exact V_msk [true, false, false, false, false, true, false, false, true, true, false, false, false, false, false, false, false, false, false, false, false, false] rfl (hend _)
  refine V_iload F dL_law_640 rfl ?_
  by_cases h4 : rnd T r i j = 4
  · have eR : rdI T r i j = -4 := if_pos h4
    rw [eR] at m657 ⊢
    rw [a_rnd4 (by omega) (by omega) (by omega) hr m3 m4 (m1.trans (if_pos h4))]
    refine V_if_ge_f F (tgt := 650) dL_law_642 (by decide) (by decide) ?_
    refine V_bipush F (v := (-4)) dL_law_645 (by decide) ?_
    refine V_goto F (tgt := 654) dL_law_647 (by decide) ?_
    refine V_icmp_ne_f F (tgt := 679) dL_law_654 (by decide) (rfl) ?_
    exact m657
  · have eR : rdI T r i j = nI (rnd T r i j) := if_neg h4
    have h2 := rnd_two hW r hi1 hj1 h5i h5j h4
    rw [eR] at m657 ⊢
    rw [a_rnd (by omega) (by omega) (by omega) hr m3 m4 (m1.trans (if_neg h4)) (by omega)]
    refine V_if_ge_t F (tgt := 650) dL_law_642 (by decide) (nI_ge0 (by omega)) ?_
    refine V_iload F dL_law_650 rfl ?_
    refine V_iconst F (v := nI 1) dL_law_652 (by decide) ?_
    (first | refine V_iaddN F dL_law_653 ?_ | refine V_iadd F dL_law_653 ?_)
    refine V_icmp_ne_f F (tgt := 679) dL_law_654 (by decide) (rfl) ?_
    exact m657
set_option maxHeartbeats 1000000 in
theorem ld_5 (F : Fx (GS g) p room_1 s m #[Value.ref b] meth c RL cL_law 22 ret ck cn) {μ : Mem} (hI : XInv T n μ) (hn : n + 2 ≤ 24) (hi : PI T n μ i) (hj : PI T n μ j) (h5i : T 5 i ≤ 2) (h5j : T 5 j ≤ 2) (hr : r < 3) (hx : x < 3) (hy : y < 3) (hend : ∀ μ : Mem, V (GS g) p l e room_1 s m #[Value.ref b] below meth c 22 ck cn (lw_Z below #[Value.ref b] s) 682 ([some (.ref b), none, none, none, none, some (.int (nI 1)), none, none, some (.int (nI x)), some (.int (nI y)), none, none, none, none, none, none, none, none, none, none, none, none]) ([]) (μ)) : V (GS g) p l e room_1 s m #[Value.ref b] below meth c 22 ck cn (lw_Z below #[Value.ref b] s) 504 ([some (.ref b), some (.ref (g.1 0)), none, some (.ref (g.1 16)), none, some (.int (nI 1)), some (.int (nI i)), some (.int (nI j)), some (.int (nI x)), some (.int (nI y)), some (.int (nI r)), none, none, none, none, none, none, some (.int (rdI T r i j)), none, none, none, none]) ([]) (μ) := by
  obtain ⟨hi1, hi2, vi, hi3, hi4, hi5⟩ := id hi
  obtain ⟨hj1, hj2, vj, hj3, hj4, hj5⟩ := id hj
  have hW := hI.1.1
  refine V_aload_n F dL_law_504 rfl ?_
  refine V_iload F dL_law_505 rfl ?_
  refine V_iload F dL_law_507 rfl ?_
  refine V_iload F dL_law_509 rfl ?_
  refine V_callV F (q0 := 0) (c_output hI _ _ _) mi_X3_output mm_X3_output lk_L_24 dL_law_511 ⟨Nat.le_of_ble_eq_true rfl, Nat.le_of_ble_eq_true rfl⟩ rfl rfl (by decide) (Nat.le_of_ble_eq_true rfl) rfl rfl rfl (fun r μ' h => ?_)
  obtain ⟨rfl, hI1, hs1⟩ := bq_fit (bq_out h (by omega) (by omega) hi1 (by omega)) (fit_act hW (by omega) (by omega) h5i)
  refine V_istore F (lv' := [_, _, _, _, _, _, _, _, _, _, _, _, _, _, _, _, _, _, _, _, _, _]) dL_law_514 (by decide) rfl rfl ?_
  refine V_aload_n F dL_law_516 rfl ?_
  refine V_iload F dL_law_517 rfl ?_
  refine V_iload F dL_law_519 rfl ?_
  refine V_iload F dL_law_521 rfl ?_
  refine V_callV F (q0 := 0) (c_output hI1 _ _ _) mi_X3_output mm_X3_output lk_L_24 dL_law_523 ⟨Nat.le_of_ble_eq_true rfl, Nat.le_of_ble_eq_true rfl⟩ rfl rfl (by decide) (Nat.le_of_ble_eq_true rfl) rfl rfl rfl (fun r μ' h => ?_)
  obtain ⟨rfl, hI2, hs2⟩ := bq_fit (bq_out h (by omega) (by omega) (by omega) (by omega)) (fit_act hI1.1.1 (by omega) (by omega) (by rw [bT_old (by omega)]; exact h5j))
  obtain ⟨m1, m2, m3, m4, m5, m6, m7⟩ := pfx2 hW hI2.1.1 (k := 2) (x := x) (z := y) (by omega) (by omega) hx hy hi1 hj1 hi2 hj2 h5i h5j r
  refine V_istore F (lv' := [_, _, _, _, _, _, _, _, _, _, _, _, _, _, _, _, _, _, _, _, _, _]) dL_law_526 (by decide) rfl rfl ?_
  refine V_iload F dL_law_528 rfl ?_
  refine V_if_eq_f F (tgt := 602) dL_law_530 (by decide) (by decide) ?_
  refine V_aload_n F dL_law_533 rfl ?_
  refine V_iload F dL_law_534 rfl ?_
  refine V_iload F dL_law_536 rfl ?_
  refine V_iload F dL_law_538 rfl ?_
  refine V_callV F (q0 := 0) (c_rounds hI2 _ _ _) mi_X3_rounds mm_X3_rounds lk_L_56 dL_law_540 ⟨Nat.le_of_ble_eq_true rfl, Nat.le_of_ble_eq_true rfl⟩ rfl rfl (by decide) (Nat.le_of_ble_eq_true rfl) rfl rfl rfl (fun r μ' h => ?_)
  obtain ⟨rfl, hMe, hSw⟩ := h
  have hI3 := hI2.of_W hSw hMe
  have hshI3 := sameM_W hSw
  have hs3 : sameM μ μ' := fun q hq => by rw [hshI3 q hq, hs2 q hq, hs1 q hq]
  have m580 : ∀ ν : Mem, XInv (bT (bT T n 2 x y i 0) (n + 1) 2 x y j 0) (n + 1 + 1) ν → sameM μ ν → V (GS g) p l e room_1 s m #[Value.ref b] below meth c 22 ck cn (lw_Z below #[Value.ref b] s) 580 ([some (.ref b), some (.ref (g.1 0)), none, some (.ref (g.1 16)), none, some (.int (nI 1)), some (.int (nI i)), some (.int (nI j)), some (.int (nI x)), some (.int (nI y)), some (.int (nI r)), none, none, none, none, none, none, some (.int (rdI T r i j)), some (.int (nI n)), some (.int (nI (n + 1))), none, none]) ([]) (ν) := by
    intro ν hIν hsν
    refine V_aload_n F dL_law_580 rfl ?_
    refine V_callV F (q0 := 0) (c_removeLast hIν) mi_X3_removeLast mm_X3_removeLast lk_L_78 dL_law_581 ⟨Nat.le_of_ble_eq_true rfl, Nat.le_of_ble_eq_true rfl⟩ rfl rfl (by decide) (Nat.le_of_ble_eq_true rfl) rfl rfl rfl (fun r μ' h => ?_)
    obtain ⟨rfl, hI4, hs4⟩ := rq_less h (by omega)
    refine V_iload F dL_law_584 rfl ?_
    refine V_icmp_ne_f F (tgt := 602) dL_law_586 (by decide) (rfl) ?_
    refine V_aload_n F dL_law_589 rfl ?_
    refine V_callV F (q0 := 0) (c_removeLast hI4) mi_X3_removeLast mm_X3_removeLast lk_L_78 dL_law_590 ⟨Nat.le_of_ble_eq_true rfl, Nat.le_of_ble_eq_true rfl⟩ rfl rfl (by decide) (Nat.le_of_ble_eq_true rfl) rfl rfl rfl (fun r μ' h => ?_)
    obtain ⟨rfl, hI5, hs5⟩ := rq_less h hW.1.1
    refine V_iload F dL_law_593 rfl ?_
    refine V_icmp_ne_f F (tgt := 602) dL_law_595 (by decide) (rfl) ?_
    refine V_iconst F (v := nI 1) dL_law_598 (by decide) ?_
    refine V_goto F (tgt := 603) dL_law_599 (by decide) ?_
    refine V_istore F (lv' := [_, _, _, _, _, _, _, _, _, _, _, _, _, _, _, _, _, _, _, _, _, _]) dL_law_603 (by decide) rfl rfl ?_
    have hs6 : sameM μ μ' := fun q hq => by rw [hs5 q hq, hs4 q hq, hsν q hq]
    have key := ld_6 F hI5 hn (hi.step (fun f => m6 f i hi1) hi1 hs6) (hj.step (fun f => m6 f j hj1) hj1 hs6) (by rw [m6 5 i hi1]; exact h5i) (by rw [m6 5 j hj1]; exact h5j) hr hx hy hend
    unfold rdI at key
    rw [m7] at key
    exact V_msk [true, true, false, true, false, true, true, true, true, true, true, false, false, false, false, false, false, true, false, false, false, false] rfl key
  refine V_iload F dL_law_543 rfl ?_
  by_cases h4 : rnd T r i j = 4
  · have eR : rdI T r i j = -4 := if_pos h4
    rw [eR] at m580 ⊢
    rw [a_rnd4 (by omega) (by omega) (by omega) hr m3 m4 (m1.trans (if_pos h4))]
    refine V_if_ge_f F (tgt := 553) dL_law_545 (by decide) (by decide) ?_
    refine V_bipush F (v := (-4)) dL_law_548 (by decide) ?_
    refine V_goto F (tgt := 557) dL_law_550 (by decide) ?_
    refine V_icmp_ne_f F (tgt := 602) dL_law_557 (by decide) (rfl) ?_
    refine V_iload F dL_law_560 rfl ?_
    refine V_if_lt_t F (tgt := 580) dL_law_562 (by decide) (by decide) ?_
    exact m580 _ hI3 hs3
  · have eR : rdI T r i j = nI (rnd T r i j) := if_neg h4
    have h2 := rnd_two hW r hi1 hj1 h5i h5j h4
    rw [eR] at m580 ⊢
    rw [a_rnd (by omega) (by omega) (by omega) hr m3 m4 (m1.trans (if_neg h4)) (by omega)]
    refine V_if_ge_t F (tgt := 553) dL_law_545 (by decide) (nI_ge0 (by omega)) ?_
    refine V_iload F dL_law_553 rfl ?_
    refine V_iconst F (v := nI 1) dL_law_555 (by decide) ?_
    (first | refine V_iaddN F dL_law_556 ?_ | refine V_iadd F dL_law_556 ?_)
    refine V_icmp_ne_f F (tgt := 602) dL_law_557 (by decide) (rfl) ?_
    refine V_iload F dL_law_560 rfl ?_
    refine V_if_lt_f F (tgt := 580) dL_law_562 (by decide) (nI_nn (by omega)) ?_
    refine V_aload_n F dL_law_565 rfl ?_
    refine V_iload F dL_law_566 rfl ?_
    refine V_iload F dL_law_568 rfl ?_
    refine V_iload F dL_law_570 rfl ?_
    refine V_callV F (q0 := 0) (c_firstAttack hI3 _ _ _) mi_X3_firstAttack mm_X3_firstAttack lk_L_81 dL_law_572 ⟨Nat.le_of_ble_eq_true rfl, Nat.le_of_ble_eq_true rfl⟩ rfl rfl (by decide) (Nat.le_of_ble_eq_true rfl) rfl rfl rfl (fun r μ' h => ?_)
    obtain ⟨rfl, hMe, hSw⟩ := h
    have hI4 := hI3.of_W hSw hMe
    have hshI4 := sameM_W hSw
    rw [a_atk (by omega) (by omega) (by omega) hr m3 m4 (m2 (by omega) h4)]
    refine V_bipush F (v := nI 9) dL_law_575 (by decide) ?_
    refine V_icmp_ne_f F (tgt := 602) dL_law_577 (by decide) (rfl) ?_
    exact m580 _ hI4 (fun q hq => by rw [hshI4 q hq, hs3 q hq])
set_option maxHeartbeats 1000000 in
theorem ld_4 (F : Fx (GS g) p room_1 s m #[Value.ref b] meth c RL cL_law 22 ret ck cn) {μ : Mem} (hI : XInv T n μ) (hn : n + 2 ≤ 24) (hi : PI T n μ i) (hj : PI T n μ j) (hr : r < 3) (hx : x < 3) (hy : y < 3) (hend : ∀ μ : Mem, V (GS g) p l e room_1 s m #[Value.ref b] below meth c 22 ck cn (lw_Z below #[Value.ref b] s) 682 ([some (.ref b), none, none, none, none, some (.int (nI 1)), none, none, some (.int (nI x)), some (.int (nI y)), none, none, none, none, none, none, none, none, none, none, none, none]) ([]) (μ)) : V (GS g) p l e room_1 s m #[Value.ref b] below meth c 22 ck cn (lw_Z below #[Value.ref b] s) 397 ([some (.ref b), some (.ref (g.1 0)), none, some (.ref (g.1 16)), none, some (.int (nI 1)), some (.int (nI i)), some (.int (nI j)), some (.int (nI x)), some (.int (nI y)), some (.int (nI r)), none, none, none, none, none, none, none, none, none, none, none]) ([]) (μ) := by
  obtain ⟨hi1, hi2, vi, hi3, hi4, hi5⟩ := id hi
  obtain ⟨hj1, hj2, vj, hj3, hj4, hj5⟩ := id hj
  have hW := hI.1.1
  refine V_iload F dL_law_397 rfl ?_
  refine V_if_eq_f F (tgt := 682) dL_law_399 (by decide) (by decide) ?_
  refine V_aload_n F dL_law_402 rfl ?_
  refine V_iload F dL_law_403 rfl ?_
  refine V_ia F dL_law_405 rfl (rfl) (show i < 24 by omega) (hi4) ?_
  refine V_bipush F (v := nI 64) dL_law_406 (by decide) ?_
  refine V_idiv F dL_law_408 (by decide) ?_
  refine V_val F (pk_div (by omega) (by omega) (by omega)) ?_
  refine V_val F (congrArg nI hi5) ?_
  have d1 := hW.depth hi1
  have d2 := hW.depth hj1
  refine V_iconst F (v := nI 3) dL_law_409 (by decide) ?_
  refine V_icmp_ge_N F (tgt := 682) dL_law_410 (by decide) (by omega) (by omega) (fun h3i => ?_) (fun h3i => ?_)
  · exact V_msk [true, false, false, false, false, true, false, false, true, true, false, false, false, false, false, false, false, false, false, false, false, false] rfl (hend _)
  · skip
    refine V_aload_n F dL_law_413 rfl ?_
    refine V_iload F dL_law_414 rfl ?_
    refine V_ia F dL_law_416 rfl (rfl) (show j < 24 by omega) (hj4) ?_
    refine V_bipush F (v := nI 64) dL_law_417 (by decide) ?_
    refine V_idiv F dL_law_419 (by decide) ?_
    refine V_val F (pk_div (by omega) (by omega) (by omega)) ?_
    refine V_val F (congrArg nI hj5) ?_
    refine V_iconst F (v := nI 3) dL_law_420 (by decide) ?_
    refine V_icmp_ge_N F (tgt := 682) dL_law_421 (by decide) (by omega) (by omega) (fun h3j => ?_) (fun h3j => ?_)
    · exact V_msk [true, false, false, false, false, true, false, false, true, true, false, false, false, false, false, false, false, false, false, false, false, false] rfl (hend _)
    · have h5i : T 5 i ≤ 2 := by omega
      have h5j : T 5 j ≤ 2 := by omega
      refine V_aload_n F dL_law_424 rfl ?_
      refine V_iload F dL_law_425 rfl ?_
      refine V_callV F (q0 := 0) (c_tau hI _) mi_X3_tau mm_X3_tau lk_L_19 dL_law_427 ⟨Nat.le_of_ble_eq_true rfl, Nat.le_of_ble_eq_true rfl⟩ rfl rfl (by decide) (Nat.le_of_ble_eq_true rfl) rfl rfl rfl (fun r μ' h => ?_)
      obtain ⟨rfl, hI1, hs1⟩ := bq_fit (bq_tau h hi1 (by omega)) (fit_act hW (by omega) (by omega) h5i)
      refine V_istore F (lv' := [_, _, _, _, _, _, _, _, _, _, _, _, _, _, _, _, _, _, _, _, _, _]) dL_law_430 (by decide) rfl rfl ?_
      refine V_aload_n F dL_law_432 rfl ?_
      refine V_iload F dL_law_433 rfl ?_
      refine V_callV F (q0 := 0) (c_tau hI1 _) mi_X3_tau mm_X3_tau lk_L_19 dL_law_435 ⟨Nat.le_of_ble_eq_true rfl, Nat.le_of_ble_eq_true rfl⟩ rfl rfl (by decide) (Nat.le_of_ble_eq_true rfl) rfl rfl rfl (fun r μ' h => ?_)
      obtain ⟨rfl, hI2, hs2⟩ := bq_fit (bq_tau h (by omega) (by omega)) (fit_act hI1.1.1 (by omega) (by omega) (by rw [bT_old (by omega)]; exact h5j))
      obtain ⟨m1, -, m3, m4, m5, m6, m7⟩ := pfx2 hW hI2.1.1 (k := 1) (x := 0) (z := 0) (by omega) (by omega) (by omega) (by omega) hi1 hj1 hi2 hj2 h5i h5j r
      refine V_istore F (lv' := [_, _, _, _, _, _, _, _, _, _, _, _, _, _, _, _, _, _, _, _, _, _]) dL_law_438 (by decide) rfl rfl ?_
      refine V_aload_n F dL_law_440 rfl ?_
      refine V_iload F dL_law_441 rfl ?_
      refine V_iload F dL_law_443 rfl ?_
      refine V_iload F dL_law_445 rfl ?_
      refine V_callV F (q0 := 0) (c_rounds hI2 _ _ _) mi_X3_rounds mm_X3_rounds lk_L_56 dL_law_447 ⟨Nat.le_of_ble_eq_true rfl, Nat.le_of_ble_eq_true rfl⟩ rfl rfl (by decide) (Nat.le_of_ble_eq_true rfl) rfl rfl rfl (fun r μ' h => ?_)
      obtain ⟨rfl, hMe, hSw⟩ := h
      have hI3 := hI2.of_W hSw hMe
      have hshI3 := sameM_W hSw
      have eRR : rPair (fRnd (bT (bT T n 1 0 0 i 0) (n + 1) 1 0 0 j 0)) (bT (bT T n 1 0 0 i 0) (n + 1) 1 0 0 j 0) (n + 1 + 1) (nI i) (nI j) (nI r) = rdI T r i j := by
        rw [rPair_ok (by omega) (by omega) (by omega) hr (by rw [m6 7 i hi1]; exact hi2) (by rw [m6 7 j hj1]; exact hj2)]
        unfold fRnd rdI
        rw [m7]
      rw [eRR]
      refine V_istore F (lv' := [_, _, _, _, _, _, _, _, _, _, _, _, _, _, _, _, _, _, _, _, _, _]) dL_law_450 (by decide) rfl rfl ?_
      refine V_aload_n F dL_law_452 rfl ?_
      refine V_iload F dL_law_453 rfl ?_
      refine V_iload F dL_law_455 rfl ?_
      refine V_iload F dL_law_457 rfl ?_
      refine V_callV F (q0 := 0) (c_rounds hI3 _ _ _) mi_X3_rounds mm_X3_rounds lk_L_56 dL_law_459 ⟨Nat.le_of_ble_eq_true rfl, Nat.le_of_ble_eq_true rfl⟩ rfl rfl (by decide) (Nat.le_of_ble_eq_true rfl) rfl rfl rfl (fun r μ' h => ?_)
      obtain ⟨rfl, hMe, hSw⟩ := h
      have hI4 := hI3.of_W hSw hMe
      have hshI4 := sameM_W hSw
      have hs3 : sameM μ μ' := fun q hq => by rw [hshI4 q hq, hshI3 q hq, hs2 q hq, hs1 q hq]
      have m479 : V (GS g) p l e room_1 s m #[Value.ref b] below meth c 22 ck cn (lw_Z below #[Value.ref b] s) 479 ([some (.ref b), some (.ref (g.1 0)), none, some (.ref (g.1 16)), none, some (.int (nI 1)), some (.int (nI i)), some (.int (nI j)), some (.int (nI x)), some (.int (nI y)), some (.int (nI r)), none, none, none, none, some (.int (nI n)), some (.int (nI (n + 1))), some (.int (rdI T r i j)), none, none, none, none]) ([]) (μ') := by
        refine V_aload_n F dL_law_479 rfl ?_
        refine V_callV F (q0 := 0) (c_removeLast hI4) mi_X3_removeLast mm_X3_removeLast lk_L_78 dL_law_480 ⟨Nat.le_of_ble_eq_true rfl, Nat.le_of_ble_eq_true rfl⟩ rfl rfl (by decide) (Nat.le_of_ble_eq_true rfl) rfl rfl rfl (fun r μ' h => ?_)
        obtain ⟨rfl, hI4, hs4⟩ := rq_less h (by omega)
        refine V_iload F dL_law_483 rfl ?_
        refine V_icmp_ne_f F (tgt := 501) dL_law_485 (by decide) (rfl) ?_
        refine V_aload_n F dL_law_488 rfl ?_
        refine V_callV F (q0 := 0) (c_removeLast hI4) mi_X3_removeLast mm_X3_removeLast lk_L_78 dL_law_489 ⟨Nat.le_of_ble_eq_true rfl, Nat.le_of_ble_eq_true rfl⟩ rfl rfl (by decide) (Nat.le_of_ble_eq_true rfl) rfl rfl rfl (fun r μ' h => ?_)
        obtain ⟨rfl, hI5, hs5⟩ := rq_less h hW.1.1
        refine V_iload F dL_law_492 rfl ?_
        refine V_icmp_ne_f F (tgt := 501) dL_law_494 (by decide) (rfl) ?_
        refine V_iconst F (v := nI 1) dL_law_497 (by decide) ?_
        refine V_goto F (tgt := 502) dL_law_498 (by decide) ?_
        refine V_istore F (lv' := [_, _, _, _, _, _, _, _, _, _, _, _, _, _, _, _, _, _, _, _, _, _]) dL_law_502 (by decide) rfl rfl ?_
        have hs6 : sameM μ μ' := fun q hq => by rw [hs5 q hq, hs4 q hq, hs3 q hq]
        have key := ld_5 F hI5 hn (hi.step (fun f => m6 f i hi1) hi1 hs6) (hj.step (fun f => m6 f j hj1) hj1 hs6) (by rw [m6 5 i hi1]; exact h5i) (by rw [m6 5 j hj1]; exact h5j) hr hx hy hend
        unfold rdI at key
        rw [m7] at key
        exact V_msk [true, true, false, true, false, true, true, true, true, true, true, false, false, false, false, false, false, true, false, false, false, false] rfl key
      refine V_iload F dL_law_462 rfl ?_
      by_cases h4 : rnd T r i j = 4
      · have eR : rdI T r i j = -4 := if_pos h4
        rw [eR] at m479 ⊢
        rw [a_rnd4 (by omega) (by omega) (by omega) hr m3 m4 (m1.trans (if_pos h4))]
        refine V_if_ge_f F (tgt := 472) dL_law_464 (by decide) (by decide) ?_
        refine V_bipush F (v := (-4)) dL_law_467 (by decide) ?_
        refine V_goto F (tgt := 476) dL_law_469 (by decide) ?_
        refine V_icmp_ne_f F (tgt := 501) dL_law_476 (by decide) (rfl) ?_
        exact m479
      · have eR : rdI T r i j = nI (rnd T r i j) := if_neg h4
        have h2 := rnd_two hW r hi1 hj1 h5i h5j h4
        rw [eR] at m479 ⊢
        rw [a_rnd (by omega) (by omega) (by omega) hr m3 m4 (m1.trans (if_neg h4)) (by omega)]
        refine V_if_ge_t F (tgt := 472) dL_law_464 (by decide) (nI_ge0 (by omega)) ?_
        refine V_iload F dL_law_472 rfl ?_
        refine V_iconst F (v := nI 1) dL_law_474 (by decide) ?_
        (first | refine V_iaddN F dL_law_475 ?_ | refine V_iadd F dL_law_475 ?_)
        refine V_icmp_ne_f F (tgt := 501) dL_law_476 (by decide) (rfl) ?_
        exact m479
set_option maxHeartbeats 1000000 in
theorem ld_3 (F : Fx (GS g) p room_1 s m #[Value.ref b] meth c RL cL_law 22 ret ck cn) {μ : Mem} (hI : XInv T n μ) (hn : n + 4 ≤ 24) (hi : PI T n μ i) (hj : PI T n μ j) (hr : r < 3) (hx : x < 3) (hy : y < 3) (hend : ∀ μ : Mem, V (GS g) p l e room_1 s m #[Value.ref b] below meth c 22 ck cn (lw_Z below #[Value.ref b] s) 682 ([some (.ref b), none, none, none, none, some (.int (nI 1)), none, none, some (.int (nI x)), some (.int (nI y)), none, none, none, none, none, none, none, none, none, none, none, none]) ([]) (μ)) : V (GS g) p l e room_1 s m #[Value.ref b] below meth c 22 ck cn (lw_Z below #[Value.ref b] s) 300 ([some (.ref b), some (.ref (g.1 0)), none, some (.ref (g.1 16)), none, some (.int (nI 1)), some (.int (nI i)), some (.int (nI j)), some (.int (nI x)), some (.int (nI y)), some (.int (nI r)), none, none, none, none, none, none, none, none, none, none, none]) ([]) (μ) := by
  obtain ⟨hi1, hi2, vi, hi3, hi4, hi5⟩ := id hi
  obtain ⟨hj1, hj2, vj, hj3, hj4, hj5⟩ := id hj
  have hW := hI.1.1
  have hn0 := hW.1.1
  refine V_aload_n F dL_law_300 rfl ?_
  refine V_iload F dL_law_301 rfl ?_
  refine V_iload F dL_law_303 rfl ?_
  refine V_callV F (q0 := 0) (c_sum hI _ _) mi_X3_sum mm_X3_sum lk_L_34 dL_law_305 ⟨Nat.le_of_ble_eq_true rfl, Nat.le_of_ble_eq_true rfl⟩ rfl rfl (by decide) (Nat.le_of_ble_eq_true rfl) rfl rfl rfl (fun r μ' h => ?_)
  have hb := bq_sum h hi1 hj1 (by omega)
  by_cases hf : bFit T n 5 i j
  · obtain ⟨rfl, hI1, hs1⟩ := bq_fit hb hf
    refine V_istore F (lv' := [_, _, _, _, _, _, _, _, _, _, _, _, _, _, _, _, _, _, _, _, _, _]) dL_law_308 (by decide) rfl rfl ?_
    refine V_iload F dL_law_310 rfl ?_
    refine V_if_le_f F (tgt := 397) dL_law_312 (by decide) (nI_nle (by omega) (by omega)) ?_
    refine V_iload F dL_law_315 rfl ?_
    refine V_if_eq_f F (tgt := 397) dL_law_317 (by decide) (by decide) ?_
    refine V_aload_n F dL_law_320 rfl ?_
    refine V_iload F dL_law_321 rfl ?_
    refine V_iload F dL_law_323 rfl ?_
    refine V_callV F (q0 := 0) (c_sum hI1 _ _) mi_X3_sum mm_X3_sum lk_L_34 dL_law_325 ⟨Nat.le_of_ble_eq_true rfl, Nat.le_of_ble_eq_true rfl⟩ rfl rfl (by decide) (Nat.le_of_ble_eq_true rfl) rfl rfl rfl (fun r μ' h => ?_)
    obtain ⟨rfl, hI2, hs2⟩ := bq_fit (bq_sum h (by omega) (by omega) (by omega)) (fit_sum2 (by omega) hi1 hj1 hf)
    obtain ⟨s1, s2, s3, s4, s5, s6⟩ := sum2 hW hI2.1.1 hi1 hj1 hi2 hj2
    have t1 := (s6 7 i hi1).trans hi2
    have t2 := (s6 7 j hj1).trans hj2
    refine V_istore F (lv' := [_, _, _, _, _, _, _, _, _, _, _, _, _, _, _, _, _, _, _, _, _, _]) dL_law_328 (by decide) rfl rfl ?_
    refine V_aload_n F dL_law_330 rfl ?_
    refine V_iload F dL_law_331 rfl ?_
    refine V_iload F dL_law_333 rfl ?_
    refine V_callS F (c_related hI2 (p := n) (q := n + 1) (by omega) (by omega) s2 s3 (fun rel _ => s1 rel)) mi_L_related ms_L_related lk_L_68 dL_law_335 ⟨Nat.le_of_ble_eq_true rfl, Nat.le_of_ble_eq_true rfl⟩ rfl rfl (by decide) (Nat.le_of_ble_eq_true rfl) (fun r μ' h => ?_)
    obtain ⟨rfl, hMe, hSw⟩ := h
    have hI3 := hI2.of_W hSw hMe
    have hs3 := sameM_W hSw
    refine V_if_eq_f F (tgt := 394) dL_law_338 (by decide) (by decide) ?_
    refine V_aload_n F dL_law_341 rfl ?_
    refine V_iload F dL_law_342 rfl ?_
    refine V_callVi F (q0 := 0) (c_moveCount hI3.1 _) mi_X3_moveCount mm_X3_moveCount lk_L_75 dL_law_344 ⟨Nat.le_of_ble_eq_true rfl, Nat.le_of_ble_eq_true rfl⟩ rfl rfl (by decide) (Nat.le_of_ble_eq_true rfl) rfl rfl rfl ?_
    rw [a_mc (by omega) (by omega) s2 rfl]
    refine V_aload_n F dL_law_347 rfl ?_
    refine V_iload F dL_law_348 rfl ?_
    refine V_callVi F (q0 := 0) (c_moveCount hI3.1 _) mi_X3_moveCount mm_X3_moveCount lk_L_75 dL_law_350 ⟨Nat.le_of_ble_eq_true rfl, Nat.le_of_ble_eq_true rfl⟩ rfl rfl (by decide) (Nat.le_of_ble_eq_true rfl) rfl rfl rfl ?_
    rw [a_mc (by omega) (by omega) t1 rfl]
    refine V_aload_n F dL_law_353 rfl ?_
    refine V_iload F dL_law_354 rfl ?_
    refine V_callVi F (q0 := 0) (c_moveCount hI3.1 _) mi_X3_moveCount mm_X3_moveCount lk_L_75 dL_law_356 ⟨Nat.le_of_ble_eq_true rfl, Nat.le_of_ble_eq_true rfl⟩ rfl rfl (by decide) (Nat.le_of_ble_eq_true rfl) rfl rfl rfl ?_
    rw [a_mc (by omega) (by omega) t2 rfl]
    (first | refine V_iaddN F dL_law_359 ?_ | refine V_iadd F dL_law_359 ?_)
    refine V_icmp_ne_f F (tgt := 394) dL_law_360 (by decide) (by rw [s4, List.length_append]) ?_
    refine V_aload_n F dL_law_363 rfl ?_
    refine V_iload F dL_law_364 rfl ?_
    refine V_iload F dL_law_366 rfl ?_
    refine V_iload F dL_law_368 rfl ?_
    refine V_callV F (q0 := 0) (c_areRelated hI3 _ _ _) mi_X3_areRelated mm_X3_areRelated lk_L_53 dL_law_370 ⟨Nat.le_of_ble_eq_true rfl, Nat.le_of_ble_eq_true rfl⟩ rfl rfl (by decide) (Nat.le_of_ble_eq_true rfl) rfl rfl rfl (fun r μ' h => ?_)
    obtain ⟨rfl, hMe, hSw⟩ := h
    have hI4 := hI3.of_W hSw hMe
    have hshI4 := sameM_W hSw
    have hs7 : sameM μ μ' := fun q hq => by rw [hshI4 q hq, hs3 q hq, hs2 q hq, hs1 q hq]
    have m390 : ∀ ν : Mem, XInv (bT (bT T n 5 0 0 i j) (n + 1) 5 0 0 j i) (n + 1 + 1) ν → sameM μ ν → V (GS g) p l e room_1 s m #[Value.ref b] below meth c 22 ck cn (lw_Z below #[Value.ref b] s) 390 ([some (.ref b), some (.ref (g.1 0)), none, some (.ref (g.1 16)), none, some (.int (nI 1)), some (.int (nI i)), some (.int (nI j)), some (.int (nI x)), some (.int (nI y)), some (.int (nI r)), none, none, none, some (.int (nI n)), some (.int (nI (n + 1))), none, none, none, none, none, none]) ([]) (ν) := by
      intro ν hIν hsν
      refine V_iconst F (v := nI 1) dL_law_390 (by decide) ?_
      refine V_goto F (tgt := 395) dL_law_391 (by decide) ?_
      refine V_istore F (lv' := [_, _, _, _, _, _, _, _, _, _, _, _, _, _, _, _, _, _, _, _, _, _]) dL_law_395 (by decide) rfl rfl ?_
      exact V_msk [true, true, false, true, false, true, true, true, true, true, true, false, false, false, false, false, false, false, false, false, false, false] rfl (ld_4 F hIν (by omega) (hi.step (fun f => s6 f i hi1) (by omega) hsν) (hj.step (fun f => s6 f j hj1) (by omega) hsν) hr hx hy hend)
    by_cases h4 : rnd (bT (bT T n 5 0 0 i j) (n + 1) 5 0 0 j i) r i j = 4
    · rw [a_rel (by omega) (by omega) (by omega) hr t1 t2 h4]
      refine V_if_eq_f F (tgt := 390) dL_law_373 (by decide) (by decide) ?_
      refine V_aload_n F dL_law_376 rfl ?_
      refine V_iload F dL_law_377 rfl ?_
      refine V_iload F dL_law_379 rfl ?_
      refine V_iload F dL_law_381 rfl ?_
      refine V_callV F (q0 := 0) (c_areRelated hI4 _ _ _) mi_X3_areRelated mm_X3_areRelated lk_L_53 dL_law_383 ⟨Nat.le_of_ble_eq_true rfl, Nat.le_of_ble_eq_true rfl⟩ rfl rfl (by decide) (Nat.le_of_ble_eq_true rfl) rfl rfl rfl (fun r μ' h => ?_)
      obtain ⟨rfl, hMe, hSw⟩ := h
      have hI5 := hI4.of_W hSw hMe
      have hshI5 := sameM_W hSw
      rw [a_rel (by omega) (by omega) (by omega) hr s2 t1 (s5 r h4)]
      refine V_iconst F (v := nI 1) dL_law_386 (by decide) ?_
      refine V_icmp_ne_f F (tgt := 394) dL_law_387 (by decide) (rfl) ?_
      exact m390 _ hI5 (fun q hq => by rw [hshI5 q hq, hs7 q hq])
    · rw [a_rel0 (by omega) (by omega) (by omega) hr t1 t2 h4]
      refine V_if_eq_t F (tgt := 390) dL_law_373 (by decide) (rfl) ?_
      exact m390 _ hI4 hs7
  · obtain ⟨rfl, rfl⟩ := bq_no hb hf
    refine V_istore F (lv' := [_, _, _, _, _, _, _, _, _, _, _, _, _, _, _, _, _, _, _, _, _, _]) dL_law_308 (by decide) rfl rfl ?_
    refine V_iload F dL_law_310 rfl ?_
    refine V_if_le_t F (tgt := 397) dL_law_312 (by decide) (by decide) ?_
    exact V_msk [true, true, false, true, false, true, true, true, true, true, true, false, false, false, false, false, false, false, false, false, false, false] rfl (ld_4 F hI (by omega) hi hj hr hx hy hend)
set_option maxHeartbeats 1000000 in
theorem ld_2 (F : Fx (GS g) p room_1 s m #[Value.ref b] meth c RL cL_law 22 ret ck cn) {μ : Mem} (hI : XInv T n μ) (hn : n + 5 ≤ 24) (hi : PI T n μ i) (hj : PI T n μ j) (hr : r < 3) (hx : x < 3) (hy : y < 3) (hend : ∀ μ : Mem, V (GS g) p l e room_1 s m #[Value.ref b] below meth c 22 ck cn (lw_Z below #[Value.ref b] s) 682 ([some (.ref b), none, none, none, none, some (.int (nI 1)), none, none, some (.int (nI x)), some (.int (nI y)), none, none, none, none, none, none, none, none, none, none, none, none]) ([]) (μ)) : V (GS g) p l e room_1 s m #[Value.ref b] below meth c 22 ck cn (lw_Z below #[Value.ref b] s) 253 ([some (.ref b), some (.ref (g.1 0)), none, some (.ref (g.1 16)), none, some (.int (nI 1)), some (.int (nI i)), some (.int (nI j)), some (.int (nI x)), some (.int (nI y)), some (.int (nI r)), none, none, none, none, none, none, none, none, none, none, none]) ([]) (μ) := by
  obtain ⟨hi1, hi2, vi, hi3, hi4, hi5⟩ := id hi
  obtain ⟨hj1, hj2, vj, hj3, hj4, hj5⟩ := id hj
  have hW := hI.1.1
  have hn0 := hW.1.1
  refine V_aload_n F dL_law_253 rfl ?_
  refine V_iload F dL_law_254 rfl ?_
  refine V_iconst F (v := nI 0) dL_law_256 (by decide) ?_
  refine V_callV F (q0 := 0) (c_sum hI _ _) mi_X3_sum mm_X3_sum lk_L_34 dL_law_257 ⟨Nat.le_of_ble_eq_true rfl, Nat.le_of_ble_eq_true rfl⟩ rfl rfl (by decide) (Nat.le_of_ble_eq_true rfl) rfl rfl rfl (fun r μ' h => ?_)
  obtain ⟨rfl, hI1, hs1⟩ := bq_fit (bq_sum h hi1 (by omega) (by omega)) (fit_sum0 hW (by omega) hi1)
  obtain ⟨s1, s2, s3⟩ := sum0 hW hI1.1.1 hi1 hi2
  have s6 : ∀ f q, q < n → bT T n 5 0 0 i 0 f q = T f q := fun f q hq => bT_old (by omega)
  have t1 := (s6 7 i hi1).trans hi2
  refine V_istore F (lv' := [_, _, _, _, _, _, _, _, _, _, _, _, _, _, _, _, _, _, _, _, _, _]) dL_law_260 (by decide) rfl rfl ?_
  refine V_iload F dL_law_262 rfl ?_
  refine V_if_eq_f F (tgt := 297) dL_law_264 (by decide) (by decide) ?_
  refine V_aload_n F dL_law_267 rfl ?_
  refine V_iload F dL_law_268 rfl ?_
  refine V_iload F dL_law_270 rfl ?_
  refine V_callS F (c_related hI1 (p := i) (q := n) (by omega) (by omega) t1 s2 (fun rel _ => s1 rel)) mi_L_related ms_L_related lk_L_68 dL_law_272 ⟨Nat.le_of_ble_eq_true rfl, Nat.le_of_ble_eq_true rfl⟩ rfl rfl (by decide) (Nat.le_of_ble_eq_true rfl) (fun r μ' h => ?_)
  obtain ⟨rfl, hMe, hSw⟩ := h
  have hI3 := hI1.of_W hSw hMe
  have hs3 := sameM_W hSw
  refine V_if_eq_f F (tgt := 297) dL_law_275 (by decide) (by decide) ?_
  refine V_aload_n F dL_law_278 rfl ?_
  refine V_iload F dL_law_279 rfl ?_
  refine V_callVi F (q0 := 0) (c_moveCount hI3.1 _) mi_X3_moveCount mm_X3_moveCount lk_L_75 dL_law_281 ⟨Nat.le_of_ble_eq_true rfl, Nat.le_of_ble_eq_true rfl⟩ rfl rfl (by decide) (Nat.le_of_ble_eq_true rfl) rfl rfl rfl ?_
  rw [a_mc (by omega) (by omega) s2 rfl]
  refine V_aload_n F dL_law_284 rfl ?_
  refine V_iload F dL_law_285 rfl ?_
  refine V_callVi F (q0 := 0) (c_moveCount hI3.1 _) mi_X3_moveCount mm_X3_moveCount lk_L_75 dL_law_287 ⟨Nat.le_of_ble_eq_true rfl, Nat.le_of_ble_eq_true rfl⟩ rfl rfl (by decide) (Nat.le_of_ble_eq_true rfl) rfl rfl rfl ?_
  rw [a_mc (by omega) (by omega) t1 rfl]
  refine V_icmp_ne_f F (tgt := 297) dL_law_290 (by decide) (by rw [s3]) ?_
  refine V_iconst F (v := nI 1) dL_law_293 (by decide) ?_
  refine V_goto F (tgt := 298) dL_law_294 (by decide) ?_
  refine V_istore F (lv' := [_, _, _, _, _, _, _, _, _, _, _, _, _, _, _, _, _, _, _, _, _, _]) dL_law_298 (by decide) rfl rfl ?_
  have hs7 : sameM μ μ' := fun q hq => by rw [hs3 q hq, hs1 q hq]
  exact V_msk [true, true, false, true, false, true, true, true, true, true, true, false, false, false, false, false, false, false, false, false, false, false] rfl (ld_3 F hI3 (by omega) (hi.step (fun f => s6 f i hi1) (by omega) hs7) (hj.step (fun f => s6 f j hj1) (by omega) hs7) hr hx hy hend)
set_option maxHeartbeats 1000000 in
theorem ld_1 (F : Fx (GS g) p room_1 s m #[Value.ref b] meth c RL cL_law 22 ret ck cn) {μ : Mem} (hI : XInv T n μ) (hX : va_X b L xs s s.heap) (hbl : b < s.heap.size) (hbA : ¬ AS g.1 b) (hL : L ≤ 2048) (hn : n + 7 ≤ 24) (hD : DR T n μ) (hi : i < n) (hj : j < n) (hne : x ≠ y) (hx : x < 3) (hy : y < 3) (hend : ∀ μ : Mem, V (GS g) p l e room_1 s m #[Value.ref b] below meth c 22 ck cn (lw_Z below #[Value.ref b] s) 682 ([some (.ref b), none, none, none, none, some (.int (nI 1)), none, none, some (.int (nI x)), some (.int (nI y)), none, none, none, none, none, none, none, none, none, none, none, none]) ([]) (μ)) : V (GS g) p l e room_1 s m #[Value.ref b] below meth c 22 ck cn (lw_Z below #[Value.ref b] s) 149 ([some (.ref b), some (.ref (g.1 0)), none, some (.ref (g.1 16)), none, some (.int (nI 1)), some (.int (nI i)), some (.int (nI j)), some (.int (nI x)), some (.int (nI y)), none, none, none, none, none, none, none, none, none, none, none, none]) ([]) (μ) := by
  have hW := hI.1.1
  have hn0 := hW.1.1
  have d1 := hW.depth hi
  have d2 := hW.depth hj
  have d3 := hW.need hi
  have d4 := hW.need hj
  refine V_iload F dL_law_149 rfl ?_
  refine V_if_eq_f F (tgt := 682) dL_law_151 (by decide) (by decide) ?_
  refine V_aload_n F dL_law_154 rfl ?_
  refine V_iload F dL_law_155 rfl ?_
  refine V_ia F dL_law_157 rfl (rfl) (show i < 24 by omega) (hD i hi) ?_
  refine V_bipush F (v := nI 8) dL_law_158 (by decide) ?_
  refine V_irem F dL_law_160 (by decide) ?_
  refine V_val F (pk_rem (by omega) (by omega) (by omega)) ?_
  refine V_val F (congrArg nI (show (64 * T 5 i + 8 * T 6 i + T 7 i) % 8 = T 7 i by omega)) ?_
  by_cases z1 : T 7 i = 0
  · rw [z1]
    refine V_if_ne_f F (tgt := 682) dL_law_161 (by decide) (rfl) ?_
    refine V_aload_n F dL_law_164 rfl ?_
    refine V_iload F dL_law_165 rfl ?_
    refine V_ia F dL_law_167 rfl (rfl) (show j < 24 by omega) (hD j hj) ?_
    refine V_bipush F (v := nI 8) dL_law_168 (by decide) ?_
    refine V_irem F dL_law_170 (by decide) ?_
    refine V_val F (pk_rem (by omega) (by omega) (by omega)) ?_
    refine V_val F (congrArg nI (show (64 * T 5 j + 8 * T 6 j + T 7 j) % 8 = T 7 j by omega)) ?_
    by_cases z2 : T 7 j = 0
    · rw [z2]
      refine V_if_ne_f F (tgt := 682) dL_law_171 (by decide) (rfl) ?_
      have hPi : PI T n μ i := ⟨hi, z1, _, by omega, hD i hi, by omega⟩
      have hPj : PI T n μ j := ⟨hj, z2, _, by omega, hD j hj, by omega⟩
      refine V_aload_n F dL_law_174 rfl ?_
      refine V_bipush F (v := nI 13) dL_law_175 (by decide) ?_
      refine V_callX F hX hbl hbA (c_cell (k := 13) (by omega) hL hbA) mi_L_cell ms_L_cell lk_L_60 dL_law_177 ⟨Nat.le_of_ble_eq_true rfl, Nat.le_of_ble_eq_true rfl⟩ rfl rfl (by decide) (Nat.le_of_ble_eq_true rfl) (fun r μ' h => ?_)
      obtain ⟨⟨w, hw, rfl⟩, hμ⟩ := h
      rw [hμ]
      clear hμ
      refine V_iconst F (v := nI 3) dL_law_180 (by decide) ?_
      refine V_irem F dL_law_181 (by decide) ?_
      refine V_val F (pk_rem (by omega) (by omega) (by omega)) ?_
      have hr : w % 3 < 3 := Nat.mod_lt _ (by omega)
      refine V_istore F (lv' := [_, _, _, _, _, _, _, _, _, _, _, _, _, _, _, _, _, _, _, _, _, _]) dL_law_182 (by decide) rfl rfl ?_
      refine V_aload_n F dL_law_184 rfl ?_
      refine V_iload F dL_law_185 rfl ?_
      refine V_iload F dL_law_187 rfl ?_
      refine V_iload F dL_law_189 rfl ?_
      refine V_callV F (q0 := 0) (c_match hI _ _ _) mi_X3_match mm_X3_match lk_L_31 dL_law_191 ⟨Nat.le_of_ble_eq_true rfl, Nat.le_of_ble_eq_true rfl⟩ rfl rfl (by decide) (Nat.le_of_ble_eq_true rfl) rfl rfl rfl (fun r μ' h => ?_)
      obtain ⟨rfl, hI1, hs1⟩ := bq_fit (bq_mat h (by omega) (by omega) hi (by omega)) (fit_mat hW (by omega) hi)
      refine V_istore F (lv' := [_, _, _, _, _, _, _, _, _, _, _, _, _, _, _, _, _, _, _, _, _, _]) dL_law_194 (by decide) rfl rfl ?_
      refine V_aload_n F dL_law_196 rfl ?_
      refine V_iload F dL_law_197 rfl ?_
      refine V_iload F dL_law_199 rfl ?_
      refine V_iload F dL_law_201 rfl ?_
      refine V_callV F (q0 := 0) (c_match hI1 _ _ _) mi_X3_match mm_X3_match lk_L_31 dL_law_203 ⟨Nat.le_of_ble_eq_true rfl, Nat.le_of_ble_eq_true rfl⟩ rfl rfl (by decide) (Nat.le_of_ble_eq_true rfl) rfl rfl rfl (fun r μ' h => ?_)
      obtain ⟨rfl, hI2, hs2⟩ := bq_fit (bq_mat h (by omega) (by omega) (by omega) (by omega)) (fit_mat hI1.1.1 (by omega) (by omega))
      obtain ⟨s1, s2, s3, s4, s5, s6⟩ := mat2 hW hI2.1.1 hx hy hne hi z1
      have t1 := (s6 7 i hi).trans z1
      refine V_istore F (lv' := [_, _, _, _, _, _, _, _, _, _, _, _, _, _, _, _, _, _, _, _, _, _]) dL_law_206 (by decide) rfl rfl ?_
      refine V_aload_n F dL_law_208 rfl ?_
      refine V_iload F dL_law_209 rfl ?_
      refine V_iload F dL_law_211 rfl ?_
      refine V_callS F (c_related hI2 (p := i) (q := n) (by omega) (by omega) t1 s3 (fun rel _ => s1 rel)) mi_L_related ms_L_related lk_L_68 dL_law_213 ⟨Nat.le_of_ble_eq_true rfl, Nat.le_of_ble_eq_true rfl⟩ rfl rfl (by decide) (Nat.le_of_ble_eq_true rfl) (fun r μ' h => ?_)
      obtain ⟨rfl, hMe, hSw⟩ := h
      have hI3 := hI2.of_W hSw hMe
      have hs3 := sameM_W hSw
      refine V_if_eq_f F (tgt := 250) dL_law_216 (by decide) (by decide) ?_
      refine V_aload_n F dL_law_219 rfl ?_
      refine V_iconst F (v := nI 0) dL_law_220 (by decide) ?_
      refine V_iload F dL_law_221 rfl ?_
      refine V_callS F (c_related hI3 (p := 0) (q := n + 1) (by omega) (by omega) hI3.1.1.zero.2.2.2 s4 (fun rel _ => s2 rel)) mi_L_related ms_L_related lk_L_68 dL_law_223 ⟨Nat.le_of_ble_eq_true rfl, Nat.le_of_ble_eq_true rfl⟩ rfl rfl (by decide) (Nat.le_of_ble_eq_true rfl) (fun r μ' h => ?_)
      obtain ⟨rfl, hMe, hSw⟩ := h
      have hI4 := hI3.of_W hSw hMe
      have hs4 := sameM_W hSw
      refine V_if_eq_f F (tgt := 250) dL_law_226 (by decide) (by decide) ?_
      refine V_aload_n F dL_law_229 rfl ?_
      refine V_iload F dL_law_230 rfl ?_
      refine V_callVi F (q0 := 0) (c_textLength hI4.1 _) mi_X3_textLength mm_X3_textLength lk_L_72 dL_law_232 ⟨Nat.le_of_ble_eq_true rfl, Nat.le_of_ble_eq_true rfl⟩ rfl rfl (by decide) (Nat.le_of_ble_eq_true rfl) rfl rfl rfl ?_
      rw [rFld_ok (by omega) (by omega)]
      refine V_aload_n F dL_law_235 rfl ?_
      refine V_iload F dL_law_236 rfl ?_
      refine V_callVi F (q0 := 0) (c_textLength hI4.1 _) mi_X3_textLength mm_X3_textLength lk_L_72 dL_law_238 ⟨Nat.le_of_ble_eq_true rfl, Nat.le_of_ble_eq_true rfl⟩ rfl rfl (by decide) (Nat.le_of_ble_eq_true rfl) rfl rfl rfl ?_
      rw [rFld_ok (by omega) (by omega)]
      refine V_iconst F (v := nI 5) dL_law_241 (by decide) ?_
      (first | refine V_iaddN F dL_law_242 ?_ | refine V_iadd F dL_law_242 ?_)
      refine V_icmp_ne_f F (tgt := 250) dL_law_243 (by decide) (by rw [s5]) ?_
      refine V_iconst F (v := nI 1) dL_law_246 (by decide) ?_
      refine V_goto F (tgt := 251) dL_law_247 (by decide) ?_
      refine V_istore F (lv' := [_, _, _, _, _, _, _, _, _, _, _, _, _, _, _, _, _, _, _, _, _, _]) dL_law_251 (by decide) rfl rfl ?_
      have hs7 : sameM μ μ' := fun q hq => by rw [hs4 q hq, hs3 q hq, hs2 q hq, hs1 q hq]
      exact V_msk [true, true, false, true, false, true, true, true, true, true, true, false, false, false, false, false, false, false, false, false, false, false] rfl (ld_2 F hI4 (by omega) (hPi.step (fun f => s6 f i hi) (by omega) hs7) (hPj.step (fun f => s6 f j hj) (by omega) hs7) hr hx hy hend)
    · skip
      refine V_if_ne_t F (tgt := 682) dL_law_171 (by decide) (nI_nz (by omega) z2) ?_
      exact V_msk [true, false, false, false, false, true, false, false, true, true, false, false, false, false, false, false, false, false, false, false, false, false] rfl (hend _)
  · skip
    refine V_if_ne_t F (tgt := 682) dL_law_161 (by decide) (nI_nz (by omega) z1) ?_
    exact V_msk [true, false, false, false, false, true, false, false, true, true, false, false, false, false, false, false, false, false, false, false, false, false] rfl (hend _)
end LAWD
end
section
section LAW
/-- a first memory: no process but 0 -/
def μj (μ : Mem) : Mem := (fun c => match c with | 1 => upd z32 0 (nI 1) | 11 => upd z32 0 (nI 1) | 15 => μ.1 15 | 16 => μ.1 16 | _ => z32, z64)
theorem ti_0 : ∀ f, f < 8 → Ti f 0 = 0 := by decide +kernel
theorem xi (μ : Mem) : XInv Ti 1 (μj μ) := by
  refine ⟨⟨wf_i, rfl, fun f p hf hp => ?_, fun p t a hp ha => ?_⟩, fun hi lo rel view _ _ _ _ => Or.inl rfl⟩
  · obtain rfl : p = 0 := by omega
    rcases (by omega : f = 0 ∨ f = 1 ∨ f = 2 ∨ f = 3 ∨ f = 4 ∨ f = 5 ∨ f = 6 ∨ f = 7 ∨ f = 8) with rfl | rfl | rfl | rfl | rfl | rfl | rfl | rfl | rfl <;> rfl
  · obtain rfl : p = 0 := by omega
    have e : acts Ti 0 = [] := by decide +kernel
    rw [e] at ha
    simp at ha
theorem dr_i (μ : Mem) (h : μ.1 16 = z32) : DR Ti 1 (μj μ) := by
  intro j hj
  obtain rfl : j = 0 := by omega
  show μ.1 16 0 = _
  rw [h]
  rfl
theorem wS_fst (cT : ClassId × ClassId) (α : Nat → Nat) (μ : Mem) : (wS cT α μ).map Prod.fst = (List.range 17).map α := rfl
theorem wS_at {cT : ClassId × ClassId} {α : Nat → Nat} {μ : Mem} {k : Nat} {q : Nat × va_E} (h : (wS cT α μ)[k]? = some q) : k < 17 ∧ q.1 = α k := by
  have hl : k < (wS cT α μ).length := (List.getElem?_eq_some_iff.mp h).1
  have hk : k < 17 := hl
  have h1 : ((wS cT α μ).map Prod.fst)[k]? = some q.1 := by rw [List.getElem?_map, h]; rfl
  rw [wS_fst, List.getElem?_map, List.getElem?_range hk] at h1
  exact ⟨hk, (Option.some.inj h1).symm⟩
theorem wS_ex (cT : ClassId × ClassId) (α : Nat → Nat) (μ : Mem) {k : Nat} (hk : k < 17) : ∃ q, (wS cT α μ)[k]? = some q ∧ q.1 = α k := by
  have hl : k < (wS cT α μ).length := hk
  exact ⟨_, List.getElem?_eq_getElem hl, (wS_at (List.getElem?_eq_getElem hl)).2⟩
theorem wS_D {A : Nat → Prop} {cT : ClassId × ClassId} {α : Nat → Nat} {μ₀ : Mem} (h : va_D A (wS cT α μ₀)) (μ : Mem) : va_D (AS α) (wS cT α μ) := by
  refine ⟨fun i j x y hx hy e => ?_, fun k q hk => ⟨k, (wS_at hk).1, (wS_at hk).2⟩⟩
  obtain ⟨x', hx1, hx2⟩ := wS_ex cT α μ₀ (wS_at hx).1
  obtain ⟨y', hy1, hy2⟩ := wS_ex cT α μ₀ (wS_at hy).1
  exact h.1 i j x' y' hx1 hy1 (by rw [hx2, hy2, ← (wS_at hx).2, ← (wS_at hy).2]; exact e)
theorem AS_D {A : Nat → Prop} {cT : ClassId × ClassId} {α : Nat → Nat} {μ₀ : Mem} (h : va_D A (wS cT α μ₀)) {q : Nat} (hq : AS α q) : A q := by
  obtain ⟨k, hk, rfl⟩ := hq
  obtain ⟨x, h1, h2⟩ := wS_ex cT α μ₀ hk
  rw [← h2]
  exact h.2 k x h1
/-- from the list of new cells to the world of 17 -/
theorem V_toGS {κ : Kp} {ws : va_W} {α : Nat → Nat} {p : Program} {l : Launch} {e : Env} {R : Room} {s : State} {m : MethodId} {args : Array Value} {below : List Frame} {meth : Method} {c : Code} {nL k n k' n' pc : Nat} {Z : State → Prop} {lv : List (Option Value)} {st : List Value} {μ μ₀ : Mem} (is : List Nat) (hs : is.filterMap (fun i => ws[i]?) = wS κ.2.1 α μ₀) (hk : k ≤ k') (hn : n ≤ n')
    (kk : V (GS (α, κ)) p l e R s m args below meth c nL k' n' Z pc lv st μ₀) : V (Gc κ s.heap.size ws) p l e R s m args below meth c nL k n Z pc lv st μ := by
  intro H locs ls hP hS hl
  refine va_forget (fun q hq => hS.2.2 q hq) (W.widen hk hn (kk H [] ls (va_P.sub hP is hs) ⟨hS.1, fun q h1 h2 => hS.2.1 q h1 (fun h3 => absurd h1 (Nat.not_lt.mpr h3)), fun _ h => by cases h⟩ hl))
/-- and back, with some of its cells -/
theorem V_fromGS {κ : Kp} {ws : va_W} {α : Nat → Nat} {p : Program} {l : Launch} {e : Env} {R : Room} {s : State} {m : MethodId} {args : Array Value} {below : List Frame} {meth : Method} {c : Code} {nL k n pc : Nat} {Z : State → Prop} {lv : List (Option Value)} {st : List Value} {μ : Mem} (hA : ∀ q, AS α q → s.heap.size ≤ q) (is : List Nat) (hs : is.filterMap (fun i => (wS κ.2.1 α μ)[i]?) = ws)
    (kk : V (Gc κ s.heap.size ws) p l e R s m args below meth c nL k n Z pc lv st μ) : V (GS (α, κ)) p l e R s m args below meth c nL k n Z pc lv st μ := by
  intro H locs ls hP hS hl
  exact kk H locs ls (va_P.sub hP is hs) ⟨hS.1, fun q h1 h2 => hS.2.1 q h1 (fun h3 => h2 (hA q h3)), fun q hq => hA _ (hS.2.2 q hq)⟩ hl
variable {p : Program} {l : Launch} {e : Env} {s : State} {m : MethodId} {below : List Frame} {meth : Method} {c : Code} {b L : Nat} {xs : Nat → Int32}
set_option maxHeartbeats 2000000 in
/-- the second object -/
theorem lw_b {κ : Kp} {α : Nat → Nat} (F : Fx (GS (α, κ)) p room_1 s m #[Value.ref b] meth c RL cL_law 22 ret 100 10000) (hA : ∀ q, AS α q → s.heap.size ≤ q) (hSt : ∀ (W : Mem → va_W) (A : Nat → Prop), (∀ q, A q → s.heap.size ≤ q) → (∀ μ, va_D A (W μ)) → St (W, A, κ.1, κ.2.1, κ.2.2.1, κ.2.2.2) s s.heap) {x y : Nat} (hx : x < 3) (hy : y < 3) (hne : x ≠ y) (μ : Mem) :
    V (GS (α, κ)) p l e room_1 s m #[Value.ref b] below meth c 22 100 10000 (lw_Z below #[Value.ref b] s) 682 [some (.ref b), none, none, none, none, some (.int (nI 1)), none, none, some (.int (nI x)), some (.int (nI y)), none, none, none, none, none, none, none, none, none, none, none, none] [] μ := by
  have hN : s.heap.size ≤ s.heap.size := Nat.le_refl _
  have hD0 : va_D (fun q => s.heap.size ≤ q) ([aI κ (α 15) 24 (μ.1 15), aI κ (α 16) 24 (μ.1 16)] : va_W) := by
    have h := va_D.sub (ws' := ([aI κ (α 15) 24 (μ.1 15), aI κ (α 16) 24 (μ.1 16)] : va_W)) (F.2.2.2.2.2.2.2.1.2.1 μ) [15, 16] (by decide +kernel) rfl
    exact ⟨h.1, fun k q hk => hA _ (h.2 k q hk)⟩
  have F0 : Fx (Gc κ s.heap.size [aI κ (α 15) 24 (μ.1 15), aI κ (α 16) 24 (μ.1 16)]) p room_1 s m #[Value.ref b] meth c RL cL_law 22 ret 100 10000 := ⟨F.1, F.2.1, F.2.2.1, F.2.2.2.1, F.2.2.2.2.1, F.2.2.2.2.2.1, F.2.2.2.2.2.2.1, hSt _ _ (fun q h => h) (fun _ => hD0), F.2.2.2.2.2.2.2.2⟩
  refine V_fromGS hA [15, 16] rfl ?_
  refine Vc_new hN F0 (ci := 2) (fs := [.null, .null]) dL_law_682 ig_X3 tyX3 tyX3_ok lk_L_20 mk_X3 mt_X3 rfl (by decide +kernel) ⟨Nat.le_of_ble_eq_true rfl, Nat.le_of_ble_eq_true rfl⟩ (fun a F1 => ?_)
  refine V_dup F1 dL_law_685 rfl ?_
  refine Vc_callI hN F1 (k_NPC (a := a)) mi_X3_init rfl mn_X3_init lk_L_59 dL_law_686 ⟨Nat.le_of_ble_eq_true rfl, Nat.le_of_ble_eq_true rfl⟩ ⟨Nat.le_of_ble_eq_true rfl, Nat.le_of_ble_eq_true rfl⟩ rfl rfl (by decide) (Nat.le_of_ble_eq_true rfl) (fun r w1 h F2 => ?_)
  obtain ⟨rfl, t, u, q0, q1, q2, q3, q4, q5, q6, q7, q8, q9, q10, q11, rfl⟩ := h
  refine V_astore_n F2 (lv' := [some (.ref b), some (.ref a), none, none, none, some (.int (nI 1)), none, none, some (.int (nI x)), some (.int (nI y)), none, none, none, none, none, none, none, none, none, none, none, none]) dL_law_689 (by decide) rfl rfl ?_
  have hD1 := F2.2.2.2.2.2.2.2.1.2.1 μ
  have hD2 := va_D.sub (ws' := wS κ.2.1 (fun k => ([a, t, u, q0, q1, q2, q3, q4, q5, q6, q7, q8, q9, q10, q11, α 15, α 16] : List Nat).getD k 0) (μj μ)) hD1 [14, 13, 1, 12, 11, 10, 9, 8, 7, 6, 5, 4, 3, 2, 0, 15, 16] (by decide +kernel) rfl
  refine V_toGS (α := fun k => ([a, t, u, q0, q1, q2, q3, q4, q5, q6, q7, q8, q9, q10, q11, α 15, α 16] : List Nat).getD k 0) (μ₀ := μj μ) (k' := 600000) (n' := 7302250) [14, 13, 1, 12, 11, 10, 9, 8, 7, 6, 5, 4, 3, 2, 0, 15, 16] rfl (Nat.le_of_ble_eq_true rfl) (Nat.le_of_ble_eq_true rfl) ?_
  have hA2 : ∀ q, AS (fun k => ([a, t, u, q0, q1, q2, q3, q4, q5, q6, q7, q8, q9, q10, q11, α 15, α 16] : List Nat).getD k 0) q → s.heap.size ≤ q := fun q hq => AS_D hD2 hq
  have FG : Fx (GS ((fun k => ([a, t, u, q0, q1, q2, q3, q4, q5, q6, q7, q8, q9, q10, q11, α 15, α 16] : List Nat).getD k 0), κ)) p room_1 s m #[Value.ref b] meth c RL cL_law 22 ret 600000 7302250 := ⟨F.1, F.2.1, F.2.2.1, F.2.2.2.1, F.2.2.2.2.1, F.2.2.2.2.2.1, F.2.2.2.2.2.2.1, hSt _ _ hA2 (wS_D hD2), Nat.le_refl _, Nat.le_refl _⟩
  exact lw_c FG hA2 hx hy hne (xi μ)
set_option maxHeartbeats 1000000 in
theorem lw_a {g : Gm} {T : Tb} {n : Nat} {μ : Mem} (hI : XInv T n μ) (F : Fx (GS g) p room_1 s m #[Value.ref b] meth c RL cL_law 22 ret 100 10000) (hX : va_X b L xs s s.heap) (hbl : b < s.heap.size) (hbA : ¬ AS g.1 b) (hL : L ≤ 2048) (hn : n ≤ 13) (hD : DR T n μ) (hend : ∀ x y, x < 3 → y < 3 → x ≠ y → ∀ μ : Mem, V (GS g) p l e room_1 s m #[Value.ref b] below meth c 22 100 10000 (lw_Z below #[Value.ref b] s) 682 ([some (.ref b), none, none, none, none, some (.int (nI 1)), none, none, some (.int (nI x)), some (.int (nI y)), none, none, none, none, none, none, none, none, none, none, none, none]) ([]) (μ)) : V (GS g) p l e room_1 s m #[Value.ref b] below meth c 22 100 10000 (lw_Z below #[Value.ref b] s) 73 ([some (.ref b), some (.ref (g.1 0)), some (.ref (g.1 15)), some (.ref (g.1 16)), some (.int (nI n)), some (.int (nI 1)), none, none, none, none, none, none, none, none, none, none, none, none, none, none, none, none]) ([]) (μ) := by
  have hn0 := hI.1.1.1.1
  refine V_iload F dL_law_73 rfl ?_
  refine V_if_eq_f F (tgt := 90) dL_law_75 (by decide) (by decide) ?_
  refine V_aload_n F dL_law_78 rfl ?_
  refine V_bipush F (v := nI 12) dL_law_79 (by decide) ?_
  refine V_callX F hX hbl hbA (c_cell (k := 12) (by omega) hL hbA) mi_L_cell ms_L_cell lk_L_60 dL_law_81 ⟨Nat.le_of_ble_eq_true rfl, Nat.le_of_ble_eq_true rfl⟩ rfl rfl (by decide) (Nat.le_of_ble_eq_true rfl) (fun r μ' h => ?_)
  obtain ⟨⟨w1, hw1, rfl⟩, hμ⟩ := h
  rw [hμ]
  clear hμ
  refine V_iload F dL_law_84 rfl ?_
  refine V_irem F dL_law_86 (nI_nz (by omega) (by omega)) ?_
  refine V_val F (pk_rem (by omega) (by omega) (by omega)) ?_
  refine V_goto F (tgt := 91) dL_law_87 (by decide) ?_
  refine V_istore F (lv' := [_, _, _, _, _, _, _, _, _, _, _, _, _, _, _, _, _, _, _, _, _, _]) dL_law_91 (by decide) rfl rfl ?_
  refine V_iload F dL_law_93 rfl ?_
  refine V_if_eq_f F (tgt := 113) dL_law_95 (by decide) (by decide) ?_
  refine V_aload_n F dL_law_98 rfl ?_
  refine V_bipush F (v := nI 12) dL_law_99 (by decide) ?_
  refine V_callX F hX hbl hbA (c_cell (k := 12) (by omega) hL hbA) mi_L_cell ms_L_cell lk_L_60 dL_law_101 ⟨Nat.le_of_ble_eq_true rfl, Nat.le_of_ble_eq_true rfl⟩ rfl rfl (by decide) (Nat.le_of_ble_eq_true rfl) (fun r μ' h => ?_)
  obtain ⟨⟨w2, hw2, rfl⟩, hμ⟩ := h
  rw [hμ]
  clear hμ
  refine V_bipush F (v := nI 6) dL_law_104 (by decide) ?_
  refine V_ishr F dL_law_106 ?_
  refine V_val F (pk_shrN (by omega) _ 6 (by decide +kernel)) ?_
  refine V_iload F dL_law_107 rfl ?_
  refine V_irem F dL_law_109 (nI_nz (by omega) (by omega)) ?_
  refine V_val F (pk_rem (by omega) (by omega) (by omega)) ?_
  refine V_goto F (tgt := 114) dL_law_110 (by decide) ?_
  refine V_istore F (lv' := [_, _, _, _, _, _, _, _, _, _, _, _, _, _, _, _, _, _, _, _, _, _]) dL_law_114 (by decide) rfl rfl ?_
  refine V_aload_n F dL_law_116 rfl ?_
  refine V_bipush F (v := nI 12) dL_law_117 (by decide) ?_
  refine V_callX F hX hbl hbA (c_cell (k := 12) (by omega) hL hbA) mi_L_cell ms_L_cell lk_L_60 dL_law_119 ⟨Nat.le_of_ble_eq_true rfl, Nat.le_of_ble_eq_true rfl⟩ rfl rfl (by decide) (Nat.le_of_ble_eq_true rfl) (fun r μ' h => ?_)
  obtain ⟨⟨w3, hw3, rfl⟩, hμ⟩ := h
  rw [hμ]
  clear hμ
  refine V_bipush F (v := nI 12) dL_law_122 (by decide) ?_
  refine V_ishr F dL_law_124 ?_
  refine V_val F (pk_shrN (by omega) _ 12 (by decide +kernel)) ?_
  refine V_iconst F (v := nI 3) dL_law_125 (by decide) ?_
  refine V_irem F dL_law_126 (by decide) ?_
  refine V_val F (pk_rem (by omega) (by omega) (by omega)) ?_
  refine V_istore F (lv' := [_, _, _, _, _, _, _, _, _, _, _, _, _, _, _, _, _, _, _, _, _, _]) dL_law_127 (by decide) rfl rfl ?_
  refine V_iload F dL_law_129 rfl ?_
  refine V_iconst F (v := nI 1) dL_law_131 (by decide) ?_
  (first | refine V_iaddN F dL_law_132 ?_ | refine V_iadd F dL_law_132 ?_)
  refine V_aload_n F dL_law_133 rfl ?_
  refine V_bipush F (v := nI 12) dL_law_134 (by decide) ?_
  refine V_callX F hX hbl hbA (c_cell (k := 12) (by omega) hL hbA) mi_L_cell ms_L_cell lk_L_60 dL_law_136 ⟨Nat.le_of_ble_eq_true rfl, Nat.le_of_ble_eq_true rfl⟩ rfl rfl (by decide) (Nat.le_of_ble_eq_true rfl) (fun r μ' h => ?_)
  obtain ⟨⟨w4, hw4, rfl⟩, hμ⟩ := h
  rw [hμ]
  clear hμ
  refine V_bipush F (v := nI 14) dL_law_139 (by decide) ?_
  refine V_ishr F dL_law_141 ?_
  refine V_val F (pk_shrN (by omega) _ 14 (by decide +kernel)) ?_
  refine V_iconst F (v := nI 2) dL_law_142 (by decide) ?_
  refine V_irem F dL_law_143 (by decide) ?_
  refine V_val F (pk_rem (by omega) (by omega) (by omega)) ?_
  (first | refine V_iaddN F dL_law_144 ?_ | refine V_iadd F dL_law_144 ?_)
  refine V_iconst F (v := nI 3) dL_law_145 (by decide) ?_
  refine V_irem F dL_law_146 (by decide) ?_
  refine V_val F (pk_rem (by omega) (by omega) (by omega)) ?_
  refine V_istore F (lv' := [_, _, _, _, _, _, _, _, _, _, _, _, _, _, _, _, _, _, _, _, _, _]) dL_law_147 (by decide) rfl rfl ?_
  have hi := Nat.mod_lt w1 (show 0 < n by omega)
  have hj := Nat.mod_lt (w2 / 2 ^ 6) (show 0 < n by omega)
  have hx := Nat.mod_lt (w3 / 2 ^ 12) (show 0 < 3 by omega)
  have hd := Nat.mod_lt (w4 / 2 ^ 14) (show 0 < 2 by omega)
  have hy := Nat.mod_lt (w3 / 2 ^ 12 % 3 + 1 + w4 / 2 ^ 14 % 2) (show 0 < 3 by omega)
  have hne : w3 / 2 ^ 12 % 3 ≠ (w3 / 2 ^ 12 % 3 + 1 + w4 / 2 ^ 14 % 2) % 3 := by
    generalize w3 / 2 ^ 12 % 3 = x at hx ⊢
    generalize w4 / 2 ^ 14 % 2 = d at hd ⊢
    omega
  exact V_msk [true, true, false, true, false, true, true, true, true, true, false, false, false, false, false, false, false, false, false, false, false, false] rfl (ld_1 F hI hX hbl hbA hL (by omega) hD hi hj hne hx hy (hend _ _ hx hy hne))
set_option maxHeartbeats 1000000 in
theorem lw_loop {g : Gm} (F : Fx (GS g) p room_1 s m #[Value.ref b] meth c RL cL_law 22 ret 100 10000) (hX : va_X b L xs s s.heap) (hbl : b < s.heap.size) (hbA : ¬ AS g.1 b) (hL : L ≤ 2048) (hend : ∀ x y, x < 3 → y < 3 → x ≠ y → ∀ μ : Mem, V (GS g) p l e room_1 s m #[Value.ref b] below meth c 22 100 10000 (lw_Z below #[Value.ref b] s) 682 ([some (.ref b), none, none, none, none, some (.int (nI 1)), none, none, some (.int (nI x)), some (.int (nI y)), none, none, none, none, none, none, none, none, none, none, none, none]) ([]) (μ)) : ∀ (d k n : Nat) (T : Tb) (μ : Mem), k + d = 12 → n ≤ k + 1 → XInv T n μ → DR T n μ → V (GS g) p l e room_1 s m #[Value.ref b] below meth c 22 100 10000 (lw_Z below #[Value.ref b] s) 27 ([some (.ref b), some (.ref (g.1 0)), some (.ref (g.1 15)), some (.ref (g.1 16)), some (.int (nI n)), some (.int (nI 1)), some (.int (nI k)), none, none, none, none, none, none, none, none, none, none, none, none, none, none, none]) ([]) (μ) := by
  intro d
  induction d with
  | zero =>
    intro k n T μ hk hn hI hD
    refine V_iload F dL_law_27 rfl ?_
    refine V_bipush F (v := nI 12) dL_law_29 (by decide) ?_
    refine V_icmp_ge_N F (tgt := 73) dL_law_31 (by decide) (by omega) (by omega) (fun h => ?_) (fun h => ?_)
    · exact V_msk [true, true, true, true, true, true, false, false, false, false, false, false, false, false, false, false, false, false, false, false, false, false] rfl (lw_a hI F hX hbl hbA hL (by omega) hD hend)
    · omega
  | succ d ih =>
    intro k n T μ hk hn hI hD
    have hn0 := hI.1.1.1.1
    refine V_iload F dL_law_27 rfl ?_
    refine V_bipush F (v := nI 12) dL_law_29 (by decide) ?_
    refine V_icmp_ge_N F (tgt := 73) dL_law_31 (by decide) (by omega) (by omega) (fun h => ?_) (fun h => ?_)
    · omega
    · skip
      refine V_iload F dL_law_34 rfl ?_
      refine V_if_eq_f F (tgt := 73) dL_law_36 (by decide) (by decide) ?_
      refine V_aload_n F dL_law_39 rfl ?_
      refine V_aload_n F dL_law_40 rfl ?_
      refine V_iload F dL_law_41 rfl ?_
      refine V_callX F hX hbl hbA (c_cell (k := k) (by omega) hL hbA) mi_L_cell ms_L_cell lk_L_60 dL_law_43 ⟨Nat.le_of_ble_eq_true rfl, Nat.le_of_ble_eq_true rfl⟩ rfl rfl (by decide) (Nat.le_of_ble_eq_true rfl) (fun r μ' h => ?_)
      obtain ⟨⟨w, hw, rfl⟩, hμ⟩ := h
      rw [hμ]
      clear hμ
      refine V_iload F dL_law_46 rfl ?_
      refine V_aload_n F dL_law_48 rfl ?_
      refine V_aload_n F dL_law_49 rfl ?_
      refine V_callS F (c_adds hI hD (by omega) hw) mi_L_adds ms_L_adds lk_L_64 dL_law_50 ⟨Nat.le_of_ble_eq_true rfl, Nat.le_of_ble_eq_true rfl⟩ rfl rfl (by decide) (Nat.le_of_ble_eq_true rfl) (fun r μ' h => ?_)
      obtain ⟨T', n', rfl, h1, h2, hI', hD'⟩ := h
      refine V_istore F (lv' := [_, _, _, _, _, _, _, _, _, _, _, _, _, _, _, _, _, _, _, _, _, _]) dL_law_53 (by decide) rfl rfl ?_
      refine V_iload F dL_law_55 rfl ?_
      refine V_if_le_f F (tgt := 64) dL_law_57 (by decide) (nI_nle (by omega) (by omega)) ?_
      refine V_iconst F (v := nI 1) dL_law_60 (by decide) ?_
      refine V_goto F (tgt := 65) dL_law_61 (by decide) ?_
      refine V_istore F (lv' := [_, _, _, _, _, _, _, _, _, _, _, _, _, _, _, _, _, _, _, _, _, _]) dL_law_65 (by decide) rfl rfl ?_
      refine V_iinc F (lv' := [_, _, _, _, _, _, _, _, _, _, _, _, _, _, _, _, _, _, _, _, _, _]) dL_law_67 rfl (by decide) rfl rfl ?_
      refine V_goto F (tgt := 27) dL_law_70 (by decide) ?_
      rw [show nI k + Int32.ofInt 1 = nI (k + 1) from nI_1 k]
      exact ih (k + 1) n' T' μ' (by omega) (by omega) hI' hD'
set_option maxHeartbeats 2000000 in
/-- YOUR PART: from the entry, for every script of at most 260 ints, the law comes to its end with true -/
theorem whole_start {p : Program} {e : Env} {s : State} {m : MethodId} {below : List Frame} {meth : Method} {c : Code} (l : Launch) (hflags : l.flags = flags0) {b L : Nat} {xs : Nat → Int32} (hL : L ≤ 260) (C0 : lw_At p s m meth c b L xs) : W p l e room_1 s m #[Value.ref b] below meth c s.heap [] 0 0 (lw_Z below #[Value.ref b] s) (entryFrame m ([Value.ref b] : List Value).toArray 22) := by
  obtain ⟨κ, hSt⟩ := law_entry C0
  obtain ⟨hx, hb, hr, hml, hown, hts, hX, hbl, hlk, hgv⟩ := C0
  have hG : ∀ w ∈ wsG, w.before #[Value.ref b] s = true := fun w hw => hts w (wsG_in hw)
  have hD0 : va_D (fun q => s.heap.size ≤ q) ([] : va_W) := ⟨fun i j x y hx => by simp at hx, fun k q hk => by simp at hk⟩
  have hN : s.heap.size ≤ s.heap.size := Nat.le_refl _
  have F : Fx (Gc κ s.heap.size []) p room_1 s m #[Value.ref b] meth c RL cL_law 22 ret 0 0 := ⟨hx, hb, hr, hlk, hml, hown, hG, hSt _ _ (fun q h => h) (fun _ => hD0), Nat.zero_le _, Nat.zero_le _⟩
  have hl := lv_entry [Value.ref b] (n := 22) (Nat.le_of_ble_eq_true rfl)
  rw [lg_entry_eq]
  suffices key : V (Gc κ s.heap.size []) p l e room_1 s m #[Value.ref b] below meth c 22 0 0 (lw_Z below #[Value.ref b] s) 0 [some (.ref b), none, none, none, none, none, none, none, none, none, none, none, none, none, none, none, none, none, none, none, none, none] [] (μj (fun _ => z32, z64)) from
    key s.heap [] _ (fun k q hk => by have h2 : ([] : va_W)[k]? = some q := hk; simp at h2) va_S.rf hl
  refine Vc_new hN F (ci := 2) (fs := [.null, .null]) dL_law_0 ig_X3 tyX3 tyX3_ok lk_L_20 mk_X3 mt_X3 rfl (by decide +kernel) ⟨Nat.le_of_ble_eq_true rfl, Nat.le_of_ble_eq_true rfl⟩ (fun a F => ?_)
  refine V_dup F dL_law_3 rfl ?_
  refine Vc_callI hN F (k_NPC (a := a)) mi_X3_init rfl mn_X3_init lk_L_59 dL_law_4 ⟨Nat.le_of_ble_eq_true rfl, Nat.le_of_ble_eq_true rfl⟩ ⟨Nat.le_of_ble_eq_true rfl, Nat.le_of_ble_eq_true rfl⟩ rfl rfl (by decide) (Nat.le_of_ble_eq_true rfl) (fun r w1 h F => ?_)
  obtain ⟨rfl, t, u, q0, q1, q2, q3, q4, q5, q6, q7, q8, q9, q10, q11, rfl⟩ := h
  refine V_astore_n F (lv' := [some (.ref b), some (.ref a), none, none, none, none, none, none, none, none, none, none, none, none, none, none, none, none, none, none, none, none]) dL_law_7 (by decide) rfl rfl ?_
  refine V_bipush F (v := nI 24) dL_law_8 (by decide) ?_
  refine Vc_newI hN F (N := 24) dL_law_10 (by decide) ⟨Nat.le_of_ble_eq_true rfl, Nat.le_of_ble_eq_true rfl⟩ (fun v F => ?_)
  refine V_astore_n F (lv' := [some (.ref b), some (.ref a), some (.ref v), none, none, none, none, none, none, none, none, none, none, none, none, none, none, none, none, none, none, none]) dL_law_12 (by decide) rfl rfl ?_
  refine V_bipush F (v := nI 24) dL_law_13 (by decide) ?_
  refine Vc_newI hN F (N := 24) dL_law_15 (by decide) ⟨Nat.le_of_ble_eq_true rfl, Nat.le_of_ble_eq_true rfl⟩ (fun z F => ?_)
  refine V_astore_n F (lv' := [some (.ref b), some (.ref a), some (.ref v), some (.ref z), none, none, none, none, none, none, none, none, none, none, none, none, none, none, none, none, none, none]) dL_law_17 (by decide) rfl rfl ?_
  refine V_iconst F (v := nI 1) dL_law_18 (by decide) ?_
  refine V_istore F (lv' := [_, _, _, _, _, _, _, _, _, _, _, _, _, _, _, _, _, _, _, _, _, _]) dL_law_19 (by decide) rfl rfl ?_
  refine V_iconst F (v := nI 1) dL_law_21 (by decide) ?_
  refine V_istore F (lv' := [_, _, _, _, _, _, _, _, _, _, _, _, _, _, _, _, _, _, _, _, _, _]) dL_law_22 (by decide) rfl rfl ?_
  refine V_iconst F (v := nI 0) dL_law_24 (by decide) ?_
  refine V_istore F (lv' := [_, _, _, _, _, _, _, _, _, _, _, _, _, _, _, _, _, _, _, _, _, _]) dL_law_25 (by decide) rfl rfl ?_
  have hD1 := F.2.2.2.2.2.2.2.1.2.1 (μj (fun _ => z32, z64))
  have hD2 := va_D.sub (ws' := wS κ.2.1 (fun k => ([a, t, u, q0, q1, q2, q3, q4, q5, q6, q7, q8, q9, q10, q11, v, z] : List Nat).getD k 0) (μj (fun _ => z32, z64))) hD1 [16, 15, 3, 14, 13, 12, 11, 10, 9, 8, 7, 6, 5, 4, 2, 1, 0] (by decide +kernel) rfl
  refine V_toGS (α := fun k => ([a, t, u, q0, q1, q2, q3, q4, q5, q6, q7, q8, q9, q10, q11, v, z] : List Nat).getD k 0) (μ₀ := μj (fun _ => z32, z64)) (k' := 100) (n' := 10000) [16, 15, 3, 14, 13, 12, 11, 10, 9, 8, 7, 6, 5, 4, 2, 1, 0] rfl (Nat.le_of_ble_eq_true rfl) (Nat.le_of_ble_eq_true rfl) ?_
  have hA : ∀ q, AS (fun k => ([a, t, u, q0, q1, q2, q3, q4, q5, q6, q7, q8, q9, q10, q11, v, z] : List Nat).getD k 0) q → s.heap.size ≤ q := fun q hq => AS_D hD2 hq
  have FG : Fx (GS ((fun k => ([a, t, u, q0, q1, q2, q3, q4, q5, q6, q7, q8, q9, q10, q11, v, z] : List Nat).getD k 0), κ)) p room_1 s m #[Value.ref b] meth c RL cL_law 22 ret 100 10000 := ⟨hx, hb, hr, hlk, hml, hown, hG, hSt _ _ hA (wS_D hD2), (Nat.le_of_ble_eq_true rfl), (Nat.le_of_ble_eq_true rfl)⟩
  exact lw_loop FG hX hbl (fun h => absurd hbl (Nat.not_lt.mpr (hA b h))) (by omega) (fun x y hx hy hne μ => lw_b FG hA hSt hx hy hne μ) 12 0 1 Ti _ (by omega) (by omega) (xi _) (dr_i _ rfl)
end LAW
end
section
set_option maxHeartbeats 4000000 in
theorem lw_walk (l : Launch) (hflags : l.flags = flags0) (b : Addr) (xs : List Int32) : MetFree l x (headSpec (Jvm.Cond.code x code maxLocals ret :: tables_1) room_1) (lw_P b xs) (fun _ _ _ _ _ => True) lw_Q := by
  refine MetFree.of_bodyS (code := code) (maxLocals := maxLocals) (ret := ret) (by decide) ?_ ?_
  · intro args s m h hn
    obtain ⟨meth, c, h1, h2, h3, h4, h5, h6, -, -⟩ := Cond.code_spec hn (atoms_spec (ws := Jvm.Cond.code x code maxLocals ret :: tables_1) h _ List.mem_cons_self)
    exact ⟨meth, c, h1, h2, h3, h4, h5, h6⟩
  · intro p e s m args below meth c s₁ B hml0 hP _
    obtain ⟨rfl, hx, hbd, hgv⟩ := hP
    obtain ⟨scr, harrAt, hlist, hof, hsmall⟩ := hx
    obtain ⟨hcb, hkn, -, -⟩ := State.arrayAt?_spec harrAt
    have hown : s.vm.findClass R_law = some m.cls := findClass_of_methodNamed B.named
    have hts0 : ∀ c ∈ (Jvm.Cond.code x code maxLocals ret :: tables_1), c.before #[Value.ref b] s = true := atoms_spec (ws := Jvm.Cond.code x code maxLocals ret :: tables_1) B.pre
    have hts : ∀ w ∈ lw_tbl, w.before #[Value.ref b] s = true := k2_hts_sels lw_privs (fun w hw => hts0 w (List.mem_cons_of_mem _ hw)) lw_privs_ok
    have hml : c.maxLocals = 22 := B.maxLocals_eq (hts0 _ List.mem_cons_self)
    have X₀ : Stand p l e room_1 s m #[Value.ref b] below meth c s₁ [] 0 0 := Stand.of_body B
    have hh0 : s₁.heap = s.heap := by rw [B.state]; rfl
    have hsz : scr.slots.size = xs.length := by rw [← Array.length_toList, hlist, List.length_map]
    have hval : ∀ j : Nat, j < xs.length → scr.slots[j]? = some (.int (xs.getD j 0)) := fun j hj => by
      rw [← Array.getElem?_toList, hlist]
      simp [hj]
    have hbl : b < s.heap.size := (Array.getElem?_eq_some_iff.mp hcb).1
    have hX : va_X b xs.length (fun j => xs.getD j 0) s s.heap := ⟨scr, hcb, hof, hkn, hsz, hval⟩
    have K : W p l e room_1 s m #[Value.ref b] below meth c s₁.heap [] 0 0 (lw_Z below #[Value.ref b] s) (entryFrame m ([Value.ref b] : List Value).toArray 22) := by
      rw [hh0]
      exact whole_start l hflags hbd ⟨B.exec, B.bytes, B.returns, hml, hown, hts, hX, hbl, B.notSynchronized, hgv⟩
    obtain ⟨t, a1, o, b1, b2, b3⟩ := K s₁ rfl X₀
    exact ⟨t, o, a1, b1, b2, b3⟩
theorem lw_pre_spec {args : Array Value} {s : State} (h : (Jvm.Cond.and given_1 narrow_1).before args s = true) (hr : rest_1_c.before args s = true) : ∃ (b : Addr) (xs : List Int32), lw_P b xs args s := by
  have hs := flat_of_before _ h
  have hq := flat_of_before _ hr
  have hc : (Cond.count 1).before args s = true := hs _ (by decide +kernel)
  have harr : (Cond.arrayOf (.arg 0) .int).before args s = true := hs _ (by decide +kernel)
  have hle : (Cond.le (.length (.arg 0)) (.int 260)).before args s = true := hs _ (by decide +kernel)
  have hlen : (Cond.isInt (.length (.arg 0))).before args s = true := hq _ (by decide +kernel)
  have hall : (Cond.all (.arg 0) (.isInt (.elem (.arg 0) (.index 0)))).before args s = true := hq _ (by decide +kernel)
  obtain ⟨b, xs, hb, hx⟩ := State.ints_of_pre rfl harr hlen hall
  have hsm : xs.length < 2 ^ 31 := hx.choose_spec.2.2.2
  have hev : (Term.length (.arg 0)).eval args s none [] s = some (.int xs.length.toInt32) := hx.length_eval hb
  have hv := Cond.le_ints hev (show (Term.int 260).eval args s none [] s = some (.int 260) from rfl)
  have hd : xs.length.toInt32 ≤ 260 := by
    simpa [Cond.before, Cond.holds, hv] using hle
  have hN : xs.length ≤ 260 := (Int32.ofNat_le_ofNat hsm (by decide)).mp (show Int32.ofNat xs.length ≤ Int32.ofNat 260 from hd)
  exact ⟨b, xs, Cond.one_arg hc (show args[0]? = some (.ref b) from hb), hx, hN, h⟩
theorem lw_comes (l : Launch) (hflags : l.flags = flags0) : Comes l x (Jvm.Cond.code x code maxLocals ret :: tables_1) room_1 (fun tb e args s => Calls_1 tb e args s ∧ rest_1 tb e args s ∧ Pre_1 tb e args s)
    (fun _ _ args s o t => lw_Q args s o t) := by
  intro p e ha hc hk s m args below hf hfit hheap happ hpre
  obtain ⟨b, xs, hP⟩ := lw_pre_spec hpre.2.2 hpre.2.1
  obtain ⟨k, o, h1, h2, h3, hQ⟩ := lw_walk l hflags b xs p e ha hc hk s m args below hf ((Spec.applies_iff_loose hf).mp happ).1 hP trivial
  exact ⟨k, o, h1, h2, h3, hQ⟩
theorem lw_frame {s t : State} {o : Outcome} {args : Array Value} (h : Framed s o t [] 600000 7302250) :
    Framed s o t (fieldLocs frame_1_writes args s ++ arrayLocs frame_1_arrays args s ++ staticLocs frame_1_statics s) 600000 7302250 := h
theorem lw_limb (L : Cond) (hL : ∀ (args : Array Value) (s t : State), L.after args s (.returned (some (.int 1))) t = true) :
    ArmFor flags0 classFile x code maxLocals ret World_1 tables_1 room_1 Calls_1 rest_1 Pre_1
      (fun tb e a s o t => postC L tb e a s o t ∧ Framed s o t (fieldLocs frame_1_writes a s ++ arrayLocs frame_1_arrays a s ++ staticLocs frame_1_statics s) 600000 7302250) := by
  intro l hflags _ _ p e ha hc hk s m args below hf hfit hheap happ hpre
  obtain ⟨k, o, h1, h2, h3, rfl, hF⟩ := lw_comes l hflags p e ha hc hk s m args below hf hfit hheap happ hpre
  exact ⟨k, _, h1, h2, h3, hL args s _, lw_frame hF⟩
theorem i_vc : Claimed_1_1 ∧ Claimed_1_2 := ⟨lw_limb limb_1_1 (fun args s t => by simp [limb_1_1, Cond.after, Cond.holds, Cond.value]), lw_limb limb_1_2 (fun args s t => Cond.after_iff.mpr (by
  first | (rw [show limb_1_2 = Cond.eq .result (.int 1) from rfl, Cond.eq_ints (x := 1) (y := 1) rfl rfl]; simp; done) | (simp [limb_1_2, Cond.value, Term.eval]; done)))⟩
end
