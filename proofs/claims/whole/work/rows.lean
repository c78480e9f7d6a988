section
-- ===== PART A: goes FIRST, ahead of the names: the tables' words, and 'selects' of the private methods out of them =====
/-- a private method of a class that the tables say can be made, by its rows of tables_1 -/
def lw_okq (q : MethodName × Nat) : Prop := (q.1.cls ≠ "java/lang/invoke/MethodHandle" ∧ q.1.cls ≠ "java/lang/invoke/VarHandle") ∧ Cond.instantiable q.1.cls q.2 ∈ tables_1 ∧ Cond.privateMethod q.1 ∈ tables_1 ∧ Cond.instanceMethod q.1 ∈ tables_1
theorem lw_p0 : lw_okq (⟨"NamePassingComparer$Store", "holds", "(I)Z"⟩, 12) := ⟨⟨by decide +kernel, by decide +kernel⟩, List.mem_of_getElem? (i := 20) (by decide +kernel), List.mem_of_getElem? (i := 128) (by decide +kernel), List.mem_of_getElem? (i := 129) (by decide +kernel)⟩
theorem lw_p1 : lw_okq (⟨"NamePassingComparer$Store", "build", "(IIIII)I"⟩, 12) := ⟨⟨by decide +kernel, by decide +kernel⟩, List.mem_of_getElem? (i := 20) (by decide +kernel), List.mem_of_getElem? (i := 132) (by decide +kernel), List.mem_of_getElem? (i := 133) (by decide +kernel)⟩
theorem lw_p2 : lw_okq (⟨"NamePassingComparer$Store", "needFor", "(IIIII)I"⟩, 12) := ⟨⟨by decide +kernel, by decide +kernel⟩, List.mem_of_getElem? (i := 20) (by decide +kernel), List.mem_of_getElem? (i := 145) (by decide +kernel), List.mem_of_getElem? (i := 146) (by decide +kernel)⟩
theorem lw_p3 : lw_okq (⟨"NamePassingComparer$Store", "lengthFor", "(III)I"⟩, 12) := ⟨⟨by decide +kernel, by decide +kernel⟩, List.mem_of_getElem? (i := 20) (by decide +kernel), List.mem_of_getElem? (i := 149) (by decide +kernel), List.mem_of_getElem? (i := 150) (by decide +kernel)⟩
theorem lw_p4 : lw_okq (⟨"NamePassingComparer$Store", "putActions", "(IIIIII)V"⟩, 12) := ⟨⟨by decide +kernel, by decide +kernel⟩, List.mem_of_getElem? (i := 20) (by decide +kernel), List.mem_of_getElem? (i := 153) (by decide +kernel), List.mem_of_getElem? (i := 154) (by decide +kernel)⟩
theorem lw_p5 : lw_okq (⟨"NamePassingComparer$Store", "copyActions", "(IIIJ)V"⟩, 12) := ⟨⟨by decide +kernel, by decide +kernel⟩, List.mem_of_getElem? (i := 20) (by decide +kernel), List.mem_of_getElem? (i := 160) (by decide +kernel), List.mem_of_getElem? (i := 161) (by decide +kernel)⟩
theorem lw_p6 : lw_okq (⟨"NamePassingComparer$Game", "forget", "(I)V"⟩, 2) := ⟨⟨by decide +kernel, by decide +kernel⟩, List.mem_of_getElem? (i := 104) (by decide +kernel), List.mem_of_getElem? (i := 190) (by decide +kernel), List.mem_of_getElem? (i := 191) (by decide +kernel)⟩
theorem lw_p7 : lw_okq (⟨"NamePassingComparer$Store", "characterOf", "(II)I"⟩, 12) := ⟨⟨by decide +kernel, by decide +kernel⟩, List.mem_of_getElem? (i := 20) (by decide +kernel), List.mem_of_getElem? (i := 230) (by decide +kernel), List.mem_of_getElem? (i := 231) (by decide +kernel)⟩
theorem lw_p8 : lw_okq (⟨"NamePassingComparer$Store", "headCharacter", "(II)I"⟩, 12) := ⟨⟨by decide +kernel, by decide +kernel⟩, List.mem_of_getElem? (i := 20) (by decide +kernel), List.mem_of_getElem? (i := 234) (by decide +kernel), List.mem_of_getElem? (i := 235) (by decide +kernel)⟩
theorem lw_p9 : lw_okq (⟨"NamePassingComparer$Store", "isClosed", "(I)Z"⟩, 12) := ⟨⟨by decide +kernel, by decide +kernel⟩, List.mem_of_getElem? (i := 20) (by decide +kernel), List.mem_of_getElem? (i := 283) (by decide +kernel), List.mem_of_getElem? (i := 284) (by decide +kernel)⟩
theorem lw_p10 : lw_okq (⟨"NamePassingComparer$Store", "movesOf", "(I)I"⟩, 12) := ⟨⟨by decide +kernel, by decide +kernel⟩, List.mem_of_getElem? (i := 20) (by decide +kernel), List.mem_of_getElem? (i := 287) (by decide +kernel), List.mem_of_getElem? (i := 288) (by decide +kernel)⟩
theorem lw_p11 : lw_okq (⟨"NamePassingComparer$Store", "actionIn", "(III)I"⟩, 12) := ⟨⟨by decide +kernel, by decide +kernel⟩, List.mem_of_getElem? (i := 20) (by decide +kernel), List.mem_of_getElem? (i := 291) (by decide +kernel), List.mem_of_getElem? (i := 292) (by decide +kernel)⟩
theorem lw_p12 : lw_okq (⟨"NamePassingComparer", "actionOrError", "(II)I"⟩, 2) := ⟨⟨by decide +kernel, by decide +kernel⟩, List.mem_of_getElem? (i := 12) (by decide +kernel), List.mem_of_getElem? (i := 308) (by decide +kernel), List.mem_of_getElem? (i := 309) (by decide +kernel)⟩
theorem lw_p13 : lw_okq (⟨"NamePassingComparer$Store", "actionOf", "(II)I"⟩, 12) := ⟨⟨by decide +kernel, by decide +kernel⟩, List.mem_of_getElem? (i := 20) (by decide +kernel), List.mem_of_getElem? (i := 312) (by decide +kernel), List.mem_of_getElem? (i := 313) (by decide +kernel)⟩
theorem lw_p14 : lw_okq (⟨"NamePassingComparer", "errorOfPair", "(III)I"⟩, 2) := ⟨⟨by decide +kernel, by decide +kernel⟩, List.mem_of_getElem? (i := 12) (by decide +kernel), List.mem_of_getElem? (i := 328) (by decide +kernel), List.mem_of_getElem? (i := 329) (by decide +kernel)⟩
theorem lw_p15 : lw_okq (⟨"NamePassingComparer$Game", "roundsOf", "(III)I"⟩, 2) := ⟨⟨by decide +kernel, by decide +kernel⟩, List.mem_of_getElem? (i := 104) (by decide +kernel), List.mem_of_getElem? (i := 335) (by decide +kernel), List.mem_of_getElem? (i := 336) (by decide +kernel)⟩
def lw_privs_1 : List (MethodName × Nat) := [(⟨"NamePassingComparer$Store", "holds", "(I)Z"⟩, 12), (⟨"NamePassingComparer$Store", "build", "(IIIII)I"⟩, 12), (⟨"NamePassingComparer$Store", "needFor", "(IIIII)I"⟩, 12), (⟨"NamePassingComparer$Store", "lengthFor", "(III)I"⟩, 12), (⟨"NamePassingComparer$Store", "putActions", "(IIIIII)V"⟩, 12), (⟨"NamePassingComparer$Store", "copyActions", "(IIIJ)V"⟩, 12), (⟨"NamePassingComparer$Game", "forget", "(I)V"⟩, 2), (⟨"NamePassingComparer$Store", "characterOf", "(II)I"⟩, 12), (⟨"NamePassingComparer$Store", "headCharacter", "(II)I"⟩, 12), (⟨"NamePassingComparer$Store", "isClosed", "(I)Z"⟩, 12), (⟨"NamePassingComparer$Store", "movesOf", "(I)I"⟩, 12), (⟨"NamePassingComparer$Store", "actionIn", "(III)I"⟩, 12), (⟨"NamePassingComparer", "actionOrError", "(II)I"⟩, 2), (⟨"NamePassingComparer$Store", "actionOf", "(II)I"⟩, 12), (⟨"NamePassingComparer", "errorOfPair", "(III)I"⟩, 2), (⟨"NamePassingComparer$Game", "roundsOf", "(III)I"⟩, 2)]
theorem lw_r1 : ∀ q ∈ lw_privs_1, lw_okq q := List.forall_mem_cons.mpr ⟨lw_p0, List.forall_mem_cons.mpr ⟨lw_p1, List.forall_mem_cons.mpr ⟨lw_p2, List.forall_mem_cons.mpr ⟨lw_p3, List.forall_mem_cons.mpr ⟨lw_p4, List.forall_mem_cons.mpr ⟨lw_p5, List.forall_mem_cons.mpr ⟨lw_p6, List.forall_mem_cons.mpr ⟨lw_p7, List.forall_mem_cons.mpr ⟨lw_p8, List.forall_mem_cons.mpr ⟨lw_p9, List.forall_mem_cons.mpr ⟨lw_p10, List.forall_mem_cons.mpr ⟨lw_p11, List.forall_mem_cons.mpr ⟨lw_p12, List.forall_mem_cons.mpr ⟨lw_p13, List.forall_mem_cons.mpr ⟨lw_p14, List.forall_mem_cons.mpr ⟨lw_p15, fun _ h => absurd h List.not_mem_nil⟩⟩⟩⟩⟩⟩⟩⟩⟩⟩⟩⟩⟩⟩⟩⟩
theorem lw_p16 : lw_okq (⟨"NamePassingComparer$Game", "worth", "(IIIII)I"⟩, 2) := ⟨⟨by decide +kernel, by decide +kernel⟩, List.mem_of_getElem? (i := 104) (by decide +kernel), List.mem_of_getElem? (i := 339) (by decide +kernel), List.mem_of_getElem? (i := 340) (by decide +kernel)⟩
theorem lw_p17 : lw_okq (⟨"NamePassingComparer$Game", "sideWorth", "(IIIII)I"⟩, 2) := ⟨⟨by decide +kernel, by decide +kernel⟩, List.mem_of_getElem? (i := 104) (by decide +kernel), List.mem_of_getElem? (i := 358) (by decide +kernel), List.mem_of_getElem? (i := 359) (by decide +kernel)⟩
theorem lw_p18 : lw_okq (⟨"NamePassingComparer$Game", "lastChoice", "(III)I"⟩, 2) := ⟨⟨by decide +kernel, by decide +kernel⟩, List.mem_of_getElem? (i := 104) (by decide +kernel), List.mem_of_getElem? (i := 363) (by decide +kernel), List.mem_of_getElem? (i := 364) (by decide +kernel)⟩
theorem lw_p19 : lw_okq (⟨"NamePassingComparer$Game", "isChosenWith", "(II)Z"⟩, 2) := ⟨⟨by decide +kernel, by decide +kernel⟩, List.mem_of_getElem? (i := 104) (by decide +kernel), List.mem_of_getElem? (i := 367) (by decide +kernel), List.mem_of_getElem? (i := 368) (by decide +kernel)⟩
theorem lw_p20 : lw_okq (⟨"NamePassingComparer$Game", "firstChoice", "(II)I"⟩, 2) := ⟨⟨by decide +kernel, by decide +kernel⟩, List.mem_of_getElem? (i := 104) (by decide +kernel), List.mem_of_getElem? (i := 375) (by decide +kernel), List.mem_of_getElem? (i := 376) (by decide +kernel)⟩
theorem lw_p21 : lw_okq (⟨"NamePassingComparer$Game", "attackWorth", "(IIIIII)I"⟩, 2) := ⟨⟨by decide +kernel, by decide +kernel⟩, List.mem_of_getElem? (i := 104) (by decide +kernel), List.mem_of_getElem? (i := 379) (by decide +kernel), List.mem_of_getElem? (i := 380) (by decide +kernel)⟩
theorem lw_p22 : lw_okq (⟨"NamePassingComparer$Game", "agree", "(III)Z"⟩, 2) := ⟨⟨by decide +kernel, by decide +kernel⟩, List.mem_of_getElem? (i := 104) (by decide +kernel), List.mem_of_getElem? (i := 383) (by decide +kernel), List.mem_of_getElem? (i := 384) (by decide +kernel)⟩
theorem lw_p23 : lw_okq (⟨"NamePassingComparer$Game", "answerWorth", "(IIIIII)I"⟩, 2) := ⟨⟨by decide +kernel, by decide +kernel⟩, List.mem_of_getElem? (i := 104) (by decide +kernel), List.mem_of_getElem? (i := 388) (by decide +kernel), List.mem_of_getElem? (i := 389) (by decide +kernel)⟩
theorem lw_p24 : lw_okq (⟨"NamePassingComparer$Game", "attackOf", "(III)I"⟩, 2) := ⟨⟨by decide +kernel, by decide +kernel⟩, List.mem_of_getElem? (i := 104) (by decide +kernel), List.mem_of_getElem? (i := 400) (by decide +kernel), List.mem_of_getElem? (i := 401) (by decide +kernel)⟩
theorem lw_p25 : lw_okq (⟨"NamePassingComparer$Game", "attackWith", "(IIII)I"⟩, 2) := ⟨⟨by decide +kernel, by decide +kernel⟩, List.mem_of_getElem? (i := 104) (by decide +kernel), List.mem_of_getElem? (i := 405) (by decide +kernel), List.mem_of_getElem? (i := 406) (by decide +kernel)⟩
theorem lw_p26 : lw_okq (⟨"NamePassingComparer", "lowestRelated", "(II)I"⟩, 2) := ⟨⟨by decide +kernel, by decide +kernel⟩, List.mem_of_getElem? (i := 12) (by decide +kernel), List.mem_of_getElem? (i := 413) (by decide +kernel), List.mem_of_getElem? (i := 414) (by decide +kernel)⟩
theorem lw_p27 : lw_okq (⟨"NamePassingComparerModel", "isProcess", "(I)Z"⟩, 19) := ⟨⟨by decide +kernel, by decide +kernel⟩, List.mem_of_getElem? (i := 421) (by decide +kernel), List.mem_of_getElem? (i := 489) (by decide +kernel), List.mem_of_getElem? (i := 490) (by decide +kernel)⟩
theorem lw_p28 : lw_okq (⟨"NamePassingComparerModel", "builds", "(IIIII)I"⟩, 19) := ⟨⟨by decide +kernel, by decide +kernel⟩, List.mem_of_getElem? (i := 421) (by decide +kernel), List.mem_of_getElem? (i := 496) (by decide +kernel), List.mem_of_getElem? (i := 497) (by decide +kernel)⟩
theorem lw_p29 : lw_okq (⟨"NamePassingComparerModel", "head", "(II)I"⟩, 19) := ⟨⟨by decide +kernel, by decide +kernel⟩, List.mem_of_getElem? (i := 421) (by decide +kernel), List.mem_of_getElem? (i := 557) (by decide +kernel), List.mem_of_getElem? (i := 558) (by decide +kernel)⟩
theorem lw_p30 : lw_okq (⟨"NamePassingComparerModel", "errorOf", "(II)I"⟩, 19) := ⟨⟨by decide +kernel, by decide +kernel⟩, List.mem_of_getElem? (i := 421) (by decide +kernel), List.mem_of_getElem? (i := 568) (by decide +kernel), List.mem_of_getElem? (i := 569) (by decide +kernel)⟩
theorem lw_p31 : lw_okq (⟨"NamePassingComparerModel", "lists", "(III)V"⟩, 19) := ⟨⟨by decide +kernel, by decide +kernel⟩, List.mem_of_getElem? (i := 421) (by decide +kernel), List.mem_of_getElem? (i := 572) (by decide +kernel), List.mem_of_getElem? (i := 573) (by decide +kernel)⟩
def lw_privs_2 : List (MethodName × Nat) := [(⟨"NamePassingComparer$Game", "worth", "(IIIII)I"⟩, 2), (⟨"NamePassingComparer$Game", "sideWorth", "(IIIII)I"⟩, 2), (⟨"NamePassingComparer$Game", "lastChoice", "(III)I"⟩, 2), (⟨"NamePassingComparer$Game", "isChosenWith", "(II)Z"⟩, 2), (⟨"NamePassingComparer$Game", "firstChoice", "(II)I"⟩, 2), (⟨"NamePassingComparer$Game", "attackWorth", "(IIIIII)I"⟩, 2), (⟨"NamePassingComparer$Game", "agree", "(III)Z"⟩, 2), (⟨"NamePassingComparer$Game", "answerWorth", "(IIIIII)I"⟩, 2), (⟨"NamePassingComparer$Game", "attackOf", "(III)I"⟩, 2), (⟨"NamePassingComparer$Game", "attackWith", "(IIII)I"⟩, 2), (⟨"NamePassingComparer", "lowestRelated", "(II)I"⟩, 2), (⟨"NamePassingComparerModel", "isProcess", "(I)Z"⟩, 19), (⟨"NamePassingComparerModel", "builds", "(IIIII)I"⟩, 19), (⟨"NamePassingComparerModel", "head", "(II)I"⟩, 19), (⟨"NamePassingComparerModel", "errorOf", "(II)I"⟩, 19), (⟨"NamePassingComparerModel", "lists", "(III)V"⟩, 19)]
theorem lw_r2 : ∀ q ∈ lw_privs_2, lw_okq q := List.forall_mem_cons.mpr ⟨lw_p16, List.forall_mem_cons.mpr ⟨lw_p17, List.forall_mem_cons.mpr ⟨lw_p18, List.forall_mem_cons.mpr ⟨lw_p19, List.forall_mem_cons.mpr ⟨lw_p20, List.forall_mem_cons.mpr ⟨lw_p21, List.forall_mem_cons.mpr ⟨lw_p22, List.forall_mem_cons.mpr ⟨lw_p23, List.forall_mem_cons.mpr ⟨lw_p24, List.forall_mem_cons.mpr ⟨lw_p25, List.forall_mem_cons.mpr ⟨lw_p26, List.forall_mem_cons.mpr ⟨lw_p27, List.forall_mem_cons.mpr ⟨lw_p28, List.forall_mem_cons.mpr ⟨lw_p29, List.forall_mem_cons.mpr ⟨lw_p30, List.forall_mem_cons.mpr ⟨lw_p31, fun _ h => absurd h List.not_mem_nil⟩⟩⟩⟩⟩⟩⟩⟩⟩⟩⟩⟩⟩⟩⟩⟩
theorem lw_p32 : lw_okq (⟨"NamePassingComparerModel", "moveError", "(II)I"⟩, 19) := ⟨⟨by decide +kernel, by decide +kernel⟩, List.mem_of_getElem? (i := 421) (by decide +kernel), List.mem_of_getElem? (i := 583) (by decide +kernel), List.mem_of_getElem? (i := 584) (by decide +kernel)⟩
theorem lw_p33 : lw_okq (⟨"NamePassingComparerModel", "pairError", "(III)I"⟩, 19) := ⟨⟨by decide +kernel, by decide +kernel⟩, List.mem_of_getElem? (i := 421) (by decide +kernel), List.mem_of_getElem? (i := 599) (by decide +kernel), List.mem_of_getElem? (i := 600) (by decide +kernel)⟩
theorem lw_p34 : lw_okq (⟨"NamePassingComparerModel", "separated", "(II)I"⟩, 19) := ⟨⟨by decide +kernel, by decide +kernel⟩, List.mem_of_getElem? (i := 421) (by decide +kernel), List.mem_of_getElem? (i := 603) (by decide +kernel), List.mem_of_getElem? (i := 604) (by decide +kernel)⟩
theorem lw_p35 : lw_okq (⟨"NamePassingComparerModel", "starts", "(III)V"⟩, 19) := ⟨⟨by decide +kernel, by decide +kernel⟩, List.mem_of_getElem? (i := 421) (by decide +kernel), List.mem_of_getElem? (i := 607) (by decide +kernel), List.mem_of_getElem? (i := 608) (by decide +kernel)⟩
theorem lw_p36 : lw_okq (⟨"NamePassingComparerModel", "wins", "(I)Z"⟩, 19) := ⟨⟨by decide +kernel, by decide +kernel⟩, List.mem_of_getElem? (i := 421) (by decide +kernel), List.mem_of_getElem? (i := 611) (by decide +kernel), List.mem_of_getElem? (i := 612) (by decide +kernel)⟩
theorem lw_p37 : lw_okq (⟨"NamePassingComparerModel", "wins1", "()Z"⟩, 19) := ⟨⟨by decide +kernel, by decide +kernel⟩, List.mem_of_getElem? (i := 421) (by decide +kernel), List.mem_of_getElem? (i := 615) (by decide +kernel), List.mem_of_getElem? (i := 616) (by decide +kernel)⟩
theorem lw_p38 : lw_okq (⟨"NamePassingComparerModel", "lowest", "(III)I"⟩, 19) := ⟨⟨by decide +kernel, by decide +kernel⟩, List.mem_of_getElem? (i := 421) (by decide +kernel), List.mem_of_getElem? (i := 619) (by decide +kernel), List.mem_of_getElem? (i := 620) (by decide +kernel)⟩
theorem lw_p39 : lw_okq (⟨"NamePassingComparerModel", "highest", "(III)I"⟩, 19) := ⟨⟨by decide +kernel, by decide +kernel⟩, List.mem_of_getElem? (i := 421) (by decide +kernel), List.mem_of_getElem? (i := 623) (by decide +kernel), List.mem_of_getElem? (i := 624) (by decide +kernel)⟩
theorem lw_p40 : lw_okq (⟨"NamePassingComparerModel", "holds1", "(III)Z"⟩, 19) := ⟨⟨by decide +kernel, by decide +kernel⟩, List.mem_of_getElem? (i := 421) (by decide +kernel), List.mem_of_getElem? (i := 627) (by decide +kernel), List.mem_of_getElem? (i := 628) (by decide +kernel)⟩
theorem lw_p41 : lw_okq (⟨"NamePassingComparerModel", "answers", "(IIII)Z"⟩, 19) := ⟨⟨by decide +kernel, by decide +kernel⟩, List.mem_of_getElem? (i := 421) (by decide +kernel), List.mem_of_getElem? (i := 631) (by decide +kernel), List.mem_of_getElem? (i := 632) (by decide +kernel)⟩
theorem lw_p42 : lw_okq (⟨"NamePassingComparerModel", "wins2", "()Z"⟩, 19) := ⟨⟨by decide +kernel, by decide +kernel⟩, List.mem_of_getElem? (i := 421) (by decide +kernel), List.mem_of_getElem? (i := 635) (by decide +kernel), List.mem_of_getElem? (i := 636) (by decide +kernel)⟩
theorem lw_p43 : lw_okq (⟨"NamePassingComparerModel", "holds2", "(III)Z"⟩, 19) := ⟨⟨by decide +kernel, by decide +kernel⟩, List.mem_of_getElem? (i := 421) (by decide +kernel), List.mem_of_getElem? (i := 639) (by decide +kernel), List.mem_of_getElem? (i := 640) (by decide +kernel)⟩
theorem lw_p44 : lw_okq (⟨"NamePassingComparerModel", "follows2", "(IIII)Z"⟩, 19) := ⟨⟨by decide +kernel, by decide +kernel⟩, List.mem_of_getElem? (i := 421) (by decide +kernel), List.mem_of_getElem? (i := 643) (by decide +kernel), List.mem_of_getElem? (i := 644) (by decide +kernel)⟩
theorem lw_p45 : lw_okq (⟨"NamePassingComparerModel", "next", "(IIIII)V"⟩, 19) := ⟨⟨by decide +kernel, by decide +kernel⟩, List.mem_of_getElem? (i := 421) (by decide +kernel), List.mem_of_getElem? (i := 647) (by decide +kernel), List.mem_of_getElem? (i := 648) (by decide +kernel)⟩
theorem lw_p46 : lw_okq (⟨"NamePassingComparerModel", "wins3", "()Z"⟩, 19) := ⟨⟨by decide +kernel, by decide +kernel⟩, List.mem_of_getElem? (i := 421) (by decide +kernel), List.mem_of_getElem? (i := 651) (by decide +kernel), List.mem_of_getElem? (i := 652) (by decide +kernel)⟩
theorem lw_p47 : lw_okq (⟨"NamePassingComparerModel", "holds3", "(III)Z"⟩, 19) := ⟨⟨by decide +kernel, by decide +kernel⟩, List.mem_of_getElem? (i := 421) (by decide +kernel), List.mem_of_getElem? (i := 655) (by decide +kernel), List.mem_of_getElem? (i := 656) (by decide +kernel)⟩
def lw_privs_3 : List (MethodName × Nat) := [(⟨"NamePassingComparerModel", "moveError", "(II)I"⟩, 19), (⟨"NamePassingComparerModel", "pairError", "(III)I"⟩, 19), (⟨"NamePassingComparerModel", "separated", "(II)I"⟩, 19), (⟨"NamePassingComparerModel", "starts", "(III)V"⟩, 19), (⟨"NamePassingComparerModel", "wins", "(I)Z"⟩, 19), (⟨"NamePassingComparerModel", "wins1", "()Z"⟩, 19), (⟨"NamePassingComparerModel", "lowest", "(III)I"⟩, 19), (⟨"NamePassingComparerModel", "highest", "(III)I"⟩, 19), (⟨"NamePassingComparerModel", "holds1", "(III)Z"⟩, 19), (⟨"NamePassingComparerModel", "answers", "(IIII)Z"⟩, 19), (⟨"NamePassingComparerModel", "wins2", "()Z"⟩, 19), (⟨"NamePassingComparerModel", "holds2", "(III)Z"⟩, 19), (⟨"NamePassingComparerModel", "follows2", "(IIII)Z"⟩, 19), (⟨"NamePassingComparerModel", "next", "(IIIII)V"⟩, 19), (⟨"NamePassingComparerModel", "wins3", "()Z"⟩, 19), (⟨"NamePassingComparerModel", "holds3", "(III)Z"⟩, 19)]
theorem lw_r3 : ∀ q ∈ lw_privs_3, lw_okq q := List.forall_mem_cons.mpr ⟨lw_p32, List.forall_mem_cons.mpr ⟨lw_p33, List.forall_mem_cons.mpr ⟨lw_p34, List.forall_mem_cons.mpr ⟨lw_p35, List.forall_mem_cons.mpr ⟨lw_p36, List.forall_mem_cons.mpr ⟨lw_p37, List.forall_mem_cons.mpr ⟨lw_p38, List.forall_mem_cons.mpr ⟨lw_p39, List.forall_mem_cons.mpr ⟨lw_p40, List.forall_mem_cons.mpr ⟨lw_p41, List.forall_mem_cons.mpr ⟨lw_p42, List.forall_mem_cons.mpr ⟨lw_p43, List.forall_mem_cons.mpr ⟨lw_p44, List.forall_mem_cons.mpr ⟨lw_p45, List.forall_mem_cons.mpr ⟨lw_p46, List.forall_mem_cons.mpr ⟨lw_p47, fun _ h => absurd h List.not_mem_nil⟩⟩⟩⟩⟩⟩⟩⟩⟩⟩⟩⟩⟩⟩⟩⟩
theorem lw_p48 : lw_okq (⟨"NamePassingComparerModel", "follows3", "(IIII)Z"⟩, 19) := ⟨⟨by decide +kernel, by decide +kernel⟩, List.mem_of_getElem? (i := 421) (by decide +kernel), List.mem_of_getElem? (i := 659) (by decide +kernel), List.mem_of_getElem? (i := 660) (by decide +kernel)⟩
theorem lw_p49 : lw_okq (⟨"NamePassingComparerModel", "holds", "(IIII)Z"⟩, 19) := ⟨⟨by decide +kernel, by decide +kernel⟩, List.mem_of_getElem? (i := 421) (by decide +kernel), List.mem_of_getElem? (i := 671) (by decide +kernel), List.mem_of_getElem? (i := 672) (by decide +kernel)⟩
theorem lw_p50 : lw_okq (⟨"NamePassingComparerModel", "least", "(I)I"⟩, 19) := ⟨⟨by decide +kernel, by decide +kernel⟩, List.mem_of_getElem? (i := 421) (by decide +kernel), List.mem_of_getElem? (i := 679) (by decide +kernel), List.mem_of_getElem? (i := 680) (by decide +kernel)⟩
def lw_privs_4 : List (MethodName × Nat) := [(⟨"NamePassingComparerModel", "follows3", "(IIII)Z"⟩, 19), (⟨"NamePassingComparerModel", "holds", "(IIII)Z"⟩, 19), (⟨"NamePassingComparerModel", "least", "(I)I"⟩, 19)]
theorem lw_r4 : ∀ q ∈ lw_privs_4, lw_okq q := List.forall_mem_cons.mpr ⟨lw_p48, List.forall_mem_cons.mpr ⟨lw_p49, List.forall_mem_cons.mpr ⟨lw_p50, fun _ h => absurd h List.not_mem_nil⟩⟩⟩
def lw_privs : List (MethodName × Nat) := lw_privs_1 ++ (lw_privs_2 ++ (lw_privs_3 ++ (lw_privs_4)))
def lw_tbl : List Cond := k2_sels lw_privs ++ tables_1
theorem lw_privs_ok : ∀ q ∈ lw_privs, lw_okq q := by
  show ∀ q ∈ lw_privs_1 ++ (lw_privs_2 ++ (lw_privs_3 ++ (lw_privs_4))), lw_okq q
  exact List.forall_mem_append.mpr ⟨lw_r1, List.forall_mem_append.mpr ⟨lw_r2, List.forall_mem_append.mpr ⟨lw_r3, lw_r4⟩⟩⟩
-- ===== end of PART A; then your names; then what follows =====
end
section
theorem goodIn_r {big : List Cond} (ws : List Cond) (ps : List Nat) (hp : ws = ps.filterMap (fun i => big[i]?)) (h : ws.all goodWord = true) : GoodIn big ws := by
  intro w hw
  have h1 := List.all_eq_true.mp h w hw
  rw [hp] at hw
  obtain ⟨i, -, hi⟩ := List.mem_filterMap.mp hw
  have hm : w ∈ big := by first | exact List.mem_of_getElem? hi | exact List.getElem?_mem hi
  exact ⟨hm, good_of_word h1⟩
theorem goodIn_app {big a b : List Cond} (ha : GoodIn big a) (hb : GoodIn big b) : GoodIn big (a ++ b) := fun w h => (List.mem_append.mp h).elim (ha w) (hb w)
theorem goodIn_ca {big a b : List Cond} {c : Cond} (ha : GoodIn big (c :: a)) (hb : GoodIn big b) : GoodIn big (c :: (a ++ b)) := fun w h => (List.mem_cons.mp h).elim (fun e => ha w (List.mem_cons.mpr (Or.inl e))) (fun h => (List.mem_append.mp h).elim (fun h => ha w (List.mem_cons.mpr (Or.inr h))) (hb w))
theorem goodIn_sub {big ws : List Cond} (hm : ∀ w ∈ ws, w ∈ big) (h : ws.all goodWord = true) : GoodIn big ws := fun w hw => ⟨hm w hw, good_of_word (List.all_eq_true.mp h w hw)⟩
def RX0 : String := "NamePassingComparer$Game"
def TX0 : u_T := fun k => match k with
  | 0 => ("NamePassingComparer$Game", "store", "LNamePassingComparer$Store;", true)
  | _ => ("NamePassingComparer$Game", "worths", "[I", true)
def tyX0 : Nat → FieldType := fun k => match k with
  | 0 => .object "NamePassingComparer$Store"
  | _ => .array .int
abbrev wsX00 : List Cond := u_ws RX0 TX0 2
theorem nmX0 : ∀ a, a < 2 → ∀ b, b < 2 → a ≠ b → (TX0 a).2.1 ≠ (TX0 b).2.1 := by decide +kernel
theorem tyX0_ok : ∀ k, k < 2 → parseFieldDescriptor (TX0 k).2.2.1 = some (tyX0 k) := by decide +kernel
abbrev cX0_init : ByteArray := prog_2_method_1_code
def yX0_init : MethodName := ⟨RX0, "<init>", "(LNamePassingComparer$Store;)V"⟩
abbrev cX0_forget : ByteArray := prog_2_method_2_code
def yX0_forget : MethodName := ⟨RX0, "forget", "(I)V"⟩
abbrev cX0_roundsOf : ByteArray := prog_2_method_3_code
def yX0_roundsOf : MethodName := ⟨RX0, "roundsOf", "(III)I"⟩
abbrev cX0_attackOf : ByteArray := prog_2_method_4_code
def yX0_attackOf : MethodName := ⟨RX0, "attackOf", "(III)I"⟩
abbrev cX0_attackWith : ByteArray := prog_2_method_5_code
def yX0_attackWith : MethodName := ⟨RX0, "attackWith", "(IIII)I"⟩
abbrev cX0_worth : ByteArray := prog_2_method_6_code
def yX0_worth : MethodName := ⟨RX0, "worth", "(IIIII)I"⟩
abbrev cX0_sideWorth : ByteArray := prog_2_method_7_code
def yX0_sideWorth : MethodName := ⟨RX0, "sideWorth", "(IIIII)I"⟩
abbrev cX0_attackWorth : ByteArray := prog_2_method_8_code
def yX0_attackWorth : MethodName := ⟨RX0, "attackWorth", "(IIIIII)I"⟩
abbrev cX0_answerWorth : ByteArray := prog_2_method_9_code
def yX0_answerWorth : MethodName := ⟨RX0, "answerWorth", "(IIIIII)I"⟩
abbrev cX0_agree : ByteArray := prog_2_method_10_code
def yX0_agree : MethodName := ⟨RX0, "agree", "(III)Z"⟩
abbrev cX0_isChosenWith : ByteArray := prog_2_method_11_code
def yX0_isChosenWith : MethodName := ⟨RX0, "isChosenWith", "(II)Z"⟩
abbrev cX0_firstChoice : ByteArray := prog_2_method_12_code
def yX0_firstChoice : MethodName := ⟨RX0, "firstChoice", "(II)I"⟩
abbrev cX0_lastChoice : ByteArray := prog_2_method_13_code
def yX0_lastChoice : MethodName := ⟨RX0, "lastChoice", "(III)I"⟩
abbrev cX0_placeOf : ByteArray := prog_2_method_14_code
def yX0_placeOf : MethodName := ⟨RX0, "placeOf", "(IIII)I"⟩
abbrev cX0_firstPlace : ByteArray := prog_2_method_15_code
def yX0_firstPlace : MethodName := ⟨RX0, "firstPlace", "(I)I"⟩
abbrev cX0_viewOf : ByteArray := prog_2_method_16_code
def yX0_viewOf : MethodName := ⟨RX0, "viewOf", "(I)I"⟩
def RX1 : String := "NamePassingComparer$Received"
def TX1 : u_T := fun k => match k with
  | _ => ("", "", "", false)
def tyX1 : Nat → FieldType := fun k => match k with
  | _ => .int
abbrev wsX10 : List Cond := u_ws RX1 TX1 0
theorem nmX1 : ∀ a, a < 0 → ∀ b, b < 0 → a ≠ b → (TX1 a).2.1 ≠ (TX1 b).2.1 := by decide +kernel
theorem tyX1_ok : ∀ k, k < 0 → parseFieldDescriptor (TX1 k).2.2.1 = some (tyX1 k) := by decide +kernel
abbrev cX1_with : ByteArray := prog_3_method_2_code
def yX1_with : MethodName := ⟨RX1, "with", "(II)I"⟩
abbrev cX1_valueOf : ByteArray := prog_3_method_3_code
def yX1_valueOf : MethodName := ⟨RX1, "valueOf", "(II)I"⟩
abbrev cX1_areEqual : ByteArray := prog_3_method_4_code
def yX1_areEqual : MethodName := ⟨RX1, "areEqual", "(III)Z"⟩
abbrev cX1_nextFresh : ByteArray := prog_3_method_5_code
def yX1_nextFresh : MethodName := ⟨RX1, "nextFresh", "(I)I"⟩
def RX2 : String := "NamePassingComparer$Store"
def TX2 : u_T := fun k => match k with
  | 0 => ("NamePassingComparer$Store", "count", "I", false)
  | 1 => ("NamePassingComparer$Store", "kinds", "[I", true)
  | 2 => ("NamePassingComparer$Store", "channels", "[I", true)
  | 3 => ("NamePassingComparer$Store", "objects", "[I", true)
  | 4 => ("NamePassingComparer$Store", "firstParts", "[I", true)
  | 5 => ("NamePassingComparer$Store", "secondParts", "[I", true)
  | 6 => ("NamePassingComparer$Store", "depths", "[I", true)
  | 7 => ("NamePassingComparer$Store", "breadths", "[I", true)
  | 8 => ("NamePassingComparer$Store", "needs", "[I", true)
  | 9 => ("NamePassingComparer$Store", "lengths", "[I", true)
  | 10 => ("NamePassingComparer$Store", "actions", "[I", true)
  | _ => ("NamePassingComparer$Store", "guards", "[J", true)
def tyX2 : Nat → FieldType := fun k => match k with
  | 0 => .int
  | 1 => .array .int
  | 2 => .array .int
  | 3 => .array .int
  | 4 => .array .int
  | 5 => .array .int
  | 6 => .array .int
  | 7 => .array .int
  | 8 => .array .int
  | 9 => .array .int
  | 10 => .array .int
  | _ => .array .long
abbrev wsX20 : List Cond := u_ws RX2 TX2 12
theorem nmX2 : ∀ a, a < 12 → ∀ b, b < 12 → a ≠ b → (TX2 a).2.1 ≠ (TX2 b).2.1 := by decide +kernel
theorem tyX2_ok : ∀ k, k < 12 → parseFieldDescriptor (TX2 k).2.2.1 = some (tyX2 k) := by decide +kernel
abbrev cX2_init : ByteArray := prog_4_method_1_code
def yX2_init : MethodName := ⟨RX2, "<init>", "()V"⟩
abbrev cX2_lengthsOfNew : ByteArray := prog_4_method_2_code
def yX2_lengthsOfNew : MethodName := ⟨RX2, "lengthsOfNew", "()[I"⟩
abbrev cX2_holds : ByteArray := prog_4_method_3_code
def yX2_holds : MethodName := ⟨RX2, "holds", "(I)Z"⟩
abbrev cX2_isClosed : ByteArray := prog_4_method_4_code
def yX2_isClosed : MethodName := ⟨RX2, "isClosed", "(I)Z"⟩
abbrev cX2_isAction : ByteArray := prog_4_method_5_code
def yX2_isAction : MethodName := ⟨RX2, "isAction", "(I)Z"⟩
abbrev cX2_partsOfKind : ByteArray := prog_4_method_6_code
def yX2_partsOfKind : MethodName := ⟨RX2, "partsOfKind", "(I)I"⟩
abbrev cX2_build : ByteArray := prog_4_method_7_code
def yX2_build : MethodName := ⟨RX2, "build", "(IIIII)I"⟩
abbrev cX2_needFor : ByteArray := prog_4_method_8_code
def yX2_needFor : MethodName := ⟨RX2, "needFor", "(IIIII)I"⟩
abbrev cX2_lengthFor : ByteArray := prog_4_method_9_code
def yX2_lengthFor : MethodName := ⟨RX2, "lengthFor", "(III)I"⟩
abbrev cX2_putActions : ByteArray := prog_4_method_10_code
def yX2_putActions : MethodName := ⟨RX2, "putActions", "(IIIIII)V"⟩
abbrev cX2_copyActions : ByteArray := prog_4_method_11_code
def yX2_copyActions : MethodName := ⟨RX2, "copyActions", "(IIIJ)V"⟩
abbrev cX2_isOpen : ByteArray := prog_4_method_12_code
def yX2_isOpen : MethodName := ⟨RX2, "isOpen", "(JI)Z"⟩
abbrev cX2_actionIn : ByteArray := prog_4_method_13_code
def yX2_actionIn : MethodName := ⟨RX2, "actionIn", "(III)I"⟩
abbrev cX2_movesOf : ByteArray := prog_4_method_14_code
def yX2_movesOf : MethodName := ⟨RX2, "movesOf", "(I)I"⟩
abbrev cX2_actionOf : ByteArray := prog_4_method_15_code
def yX2_actionOf : MethodName := ⟨RX2, "actionOf", "(II)I"⟩
abbrev cX2_headOf : ByteArray := prog_4_method_16_code
def yX2_headOf : MethodName := ⟨RX2, "headOf", "(I)Ljava/lang/String;"⟩
abbrev cX2_characterOf : ByteArray := prog_4_method_17_code
def yX2_characterOf : MethodName := ⟨RX2, "characterOf", "(II)I"⟩
abbrev cX2_headCharacter : ByteArray := prog_4_method_18_code
def yX2_headCharacter : MethodName := ⟨RX2, "headCharacter", "(II)I"⟩
abbrev cX2_letterOf : ByteArray := prog_4_method_19_code
def yX2_letterOf : MethodName := ⟨RX2, "letterOf", "(I)I"⟩
def RX3 : String := "NamePassingComparer"
def TX3 : u_T := fun k => match k with
  | 0 => ("NamePassingComparer", "store", "LNamePassingComparer$Store;", true)
  | _ => ("NamePassingComparer", "game", "LNamePassingComparer$Game;", true)
def tyX3 : Nat → FieldType := fun k => match k with
  | 0 => .object "NamePassingComparer$Store"
  | _ => .object "NamePassingComparer$Game"
abbrev wsX30 : List Cond := u_ws RX3 TX3 2
theorem nmX3 : ∀ a, a < 2 → ∀ b, b < 2 → a ≠ b → (TX3 a).2.1 ≠ (TX3 b).2.1 := by decide +kernel
theorem tyX3_ok : ∀ k, k < 2 → parseFieldDescriptor (TX3 k).2.2.1 = some (tyX3 k) := by decide +kernel
abbrev cX3_init : ByteArray := prog_1_method_1_code
def yX3_init : MethodName := ⟨RX3, "<init>", "()V"⟩
abbrev cX3_tau : ByteArray := prog_1_method_2_code
def yX3_tau : MethodName := ⟨RX3, "tau", "(I)I"⟩
abbrev cX3_output : ByteArray := prog_1_method_3_code
def yX3_output : MethodName := ⟨RX3, "output", "(III)I"⟩
abbrev cX3_input : ByteArray := prog_1_method_4_code
def yX3_input : MethodName := ⟨RX3, "input", "(II)I"⟩
abbrev cX3_match : ByteArray := prog_1_method_5_code
def yX3_match : MethodName := ⟨RX3, "match", "(III)I"⟩
abbrev cX3_sum : ByteArray := prog_1_method_6_code
def yX3_sum : MethodName := ⟨RX3, "sum", "(II)I"⟩
abbrev cX3_removeLast : ByteArray := prog_1_method_7_code
def yX3_removeLast : MethodName := ⟨RX3, "removeLast", "()I"⟩
abbrev cX3_processCount : ByteArray := prog_1_method_8_code
def yX3_processCount : MethodName := ⟨RX3, "processCount", "()I"⟩
abbrev cX3_kindOf : ByteArray := prog_1_method_9_code
def yX3_kindOf : MethodName := ⟨RX3, "kindOf", "(I)I"⟩
abbrev cX3_partOf : ByteArray := prog_1_method_10_code
def yX3_partOf : MethodName := ⟨RX3, "partOf", "(II)I"⟩
abbrev cX3_depthOf : ByteArray := prog_1_method_11_code
def yX3_depthOf : MethodName := ⟨RX3, "depthOf", "(I)I"⟩
abbrev cX3_needOf : ByteArray := prog_1_method_12_code
def yX3_needOf : MethodName := ⟨RX3, "needOf", "(I)I"⟩
abbrev cX3_textLength : ByteArray := prog_1_method_13_code
def yX3_textLength : MethodName := ⟨RX3, "textLength", "(I)I"⟩
abbrev cX3_textAt : ByteArray := prog_1_method_14_code
def yX3_textAt : MethodName := ⟨RX3, "textAt", "(II)I"⟩
abbrev cX3_moveCount : ByteArray := prog_1_method_15_code
def yX3_moveCount : MethodName := ⟨RX3, "moveCount", "(I)I"⟩
abbrev cX3_moveKind : ByteArray := prog_1_method_16_code
def yX3_moveKind : MethodName := ⟨RX3, "moveKind", "(II)I"⟩
abbrev cX3_moveNames : ByteArray := prog_1_method_17_code
def yX3_moveNames : MethodName := ⟨RX3, "moveNames", "(II)I"⟩
abbrev cX3_moveTarget : ByteArray := prog_1_method_18_code
def yX3_moveTarget : MethodName := ⟨RX3, "moveTarget", "(II)I"⟩
abbrev cX3_areRelated : ByteArray := prog_1_method_19_code
def yX3_areRelated : MethodName := ⟨RX3, "areRelated", "(III)I"⟩
abbrev cX3_rounds : ByteArray := prog_1_method_20_code
def yX3_rounds : MethodName := ⟨RX3, "rounds", "(III)I"⟩
abbrev cX3_firstAttack : ByteArray := prog_1_method_21_code
def yX3_firstAttack : MethodName := ⟨RX3, "firstAttack", "(III)I"⟩
abbrev cX3_representative : ByteArray := prog_1_method_22_code
def yX3_representative : MethodName := ⟨RX3, "representative", "(II)I"⟩
abbrev cX3_classCount : ByteArray := prog_1_method_23_code
def yX3_classCount : MethodName := ⟨RX3, "classCount", "(I)I"⟩
abbrev cX3_lowestRelated : ByteArray := prog_1_method_24_code
def yX3_lowestRelated : MethodName := ⟨RX3, "lowestRelated", "(II)I"⟩
abbrev cX3_actionOrError : ByteArray := prog_1_method_25_code
def yX3_actionOrError : MethodName := ⟨RX3, "actionOrError", "(II)I"⟩
abbrev cX3_errorOfPair : ByteArray := prog_1_method_26_code
def yX3_errorOfPair : MethodName := ⟨RX3, "errorOfPair", "(III)I"⟩
abbrev cX3_isName : ByteArray := prog_1_method_27_code
def yX3_isName : MethodName := ⟨RX3, "isName", "(I)Z"⟩
abbrev cX3_isRelation : ByteArray := prog_1_method_28_code
def yX3_isRelation : MethodName := ⟨RX3, "isRelation", "(I)Z"⟩
abbrev cX3_at : ByteArray := prog_1_method_29_code
def yX3_at : MethodName := ⟨RX3, "at", "([II)I"⟩
abbrev cX3_at_ : ByteArray := prog_1_method_30_code
def yX3_at_ : MethodName := ⟨RX3, "at", "([JI)J"⟩
abbrev cX3_put : ByteArray := prog_1_method_31_code
def yX3_put : MethodName := ⟨RX3, "put", "([III)V"⟩
abbrev cX3_put_ : ByteArray := prog_1_method_32_code
def yX3_put_ : MethodName := ⟨RX3, "put", "([JIJ)V"⟩
def RX4 : String := "NamePassingComparerModel"
def TX4 : u_T := fun k => match k with
  | 0 => ("NamePassingComparerModel", "processes", "I", false)
  | 1 => ("NamePassingComparerModel", "kind", "[I", true)
  | 2 => ("NamePassingComparerModel", "nameX", "[I", true)
  | 3 => ("NamePassingComparerModel", "nameY", "[I", true)
  | 4 => ("NamePassingComparerModel", "partP", "[I", true)
  | 5 => ("NamePassingComparerModel", "partQ", "[I", true)
  | 6 => ("NamePassingComparerModel", "depth", "[I", true)
  | 7 => ("NamePassingComparerModel", "breadth", "[I", true)
  | 8 => ("NamePassingComparerModel", "need", "[I", true)
  | 9 => ("NamePassingComparerModel", "length", "[I", true)
  | 10 => ("NamePassingComparerModel", "count", "[I", true)
  | 11 => ("NamePassingComparerModel", "moveOf", "[I", true)
  | 12 => ("NamePassingComparerModel", "subject", "[I", true)
  | 13 => ("NamePassingComparerModel", "object", "[I", true)
  | 14 => ("NamePassingComparerModel", "target", "[I", true)
  | 15 => ("NamePassingComparerModel", "values", "[I", true)
  | 16 => ("NamePassingComparerModel", "fresh", "[I", true)
  | 17 => ("NamePassingComparerModel", "stack", "[I", true)
  | _ => ("NamePassingComparerModel", "relation", "I", false)
def tyX4 : Nat → FieldType := fun k => match k with
  | 0 => .int
  | 1 => .array .int
  | 2 => .array .int
  | 3 => .array .int
  | 4 => .array .int
  | 5 => .array .int
  | 6 => .array .int
  | 7 => .array .int
  | 8 => .array .int
  | 9 => .array .int
  | 10 => .array .int
  | 11 => .array .int
  | 12 => .array .int
  | 13 => .array .int
  | 14 => .array .int
  | 15 => .array .int
  | 16 => .array .int
  | 17 => .array .int
  | _ => .int
abbrev wsX40 : List Cond := u_ws RX4 TX4 19
theorem nmX4 : ∀ a, a < 19 → ∀ b, b < 19 → a ≠ b → (TX4 a).2.1 ≠ (TX4 b).2.1 := by decide +kernel
theorem tyX4_ok : ∀ k, k < 19 → parseFieldDescriptor (TX4 k).2.2.1 = some (tyX4 k) := by decide +kernel
abbrev cX4_init : ByteArray := prog_6_method_1_code
def yX4_init : MethodName := ⟨RX4, "<init>", "()V"⟩
abbrev cX4_in : ByteArray := prog_6_method_2_code
def yX4_in : MethodName := ⟨RX4, "in", "(III)Z"⟩
abbrev cX4_isProcess : ByteArray := prog_6_method_3_code
def yX4_isProcess : MethodName := ⟨RX4, "isProcess", "(I)Z"⟩
abbrev cX4_isName : ByteArray := prog_6_method_4_code
def yX4_isName : MethodName := ⟨RX4, "isName", "(I)Z"⟩
abbrev cX4_needed : ByteArray := prog_6_method_5_code
def yX4_needed : MethodName := ⟨RX4, "needed", "(I)I"⟩
abbrev cX4_larger : ByteArray := prog_6_method_6_code
def yX4_larger : MethodName := ⟨RX4, "larger", "(II)I"⟩
abbrev cX4_builds : ByteArray := prog_6_method_7_code
def yX4_builds : MethodName := ⟨RX4, "builds", "(IIIII)I"⟩
abbrev cX4_tau : ByteArray := prog_6_method_8_code
def yX4_tau : MethodName := ⟨RX4, "tau", "(I)I"⟩
abbrev cX4_output : ByteArray := prog_6_method_9_code
def yX4_output : MethodName := ⟨RX4, "output", "(III)I"⟩
abbrev cX4_input : ByteArray := prog_6_method_10_code
def yX4_input : MethodName := ⟨RX4, "input", "(II)I"⟩
abbrev cX4_match : ByteArray := prog_6_method_11_code
def yX4_match : MethodName := ⟨RX4, "match", "(III)I"⟩
abbrev cX4_sum : ByteArray := prog_6_method_12_code
def yX4_sum : MethodName := ⟨RX4, "sum", "(II)I"⟩
abbrev cX4_removeLast : ByteArray := prog_6_method_13_code
def yX4_removeLast : MethodName := ⟨RX4, "removeLast", "()I"⟩
abbrev cX4_processCount : ByteArray := prog_6_method_14_code
def yX4_processCount : MethodName := ⟨RX4, "processCount", "()I"⟩
abbrev cX4_kindOf : ByteArray := prog_6_method_15_code
def yX4_kindOf : MethodName := ⟨RX4, "kindOf", "(I)I"⟩
abbrev cX4_partOf : ByteArray := prog_6_method_16_code
def yX4_partOf : MethodName := ⟨RX4, "partOf", "(II)I"⟩
abbrev cX4_depthOf : ByteArray := prog_6_method_17_code
def yX4_depthOf : MethodName := ⟨RX4, "depthOf", "(I)I"⟩
abbrev cX4_needOf : ByteArray := prog_6_method_18_code
def yX4_needOf : MethodName := ⟨RX4, "needOf", "(I)I"⟩
abbrev cX4_textLength : ByteArray := prog_6_method_19_code
def yX4_textLength : MethodName := ⟨RX4, "textLength", "(I)I"⟩
abbrev cX4_sign : ByteArray := prog_6_method_20_code
def yX4_sign : MethodName := ⟨RX4, "sign", "(I)I"⟩
abbrev cX4_head : ByteArray := prog_6_method_21_code
def yX4_head : MethodName := ⟨RX4, "head", "(II)I"⟩
abbrev cX4_textAt : ByteArray := prog_6_method_22_code
def yX4_textAt : MethodName := ⟨RX4, "textAt", "(II)I"⟩
abbrev cX4_valueOf : ByteArray := prog_6_method_23_code
def yX4_valueOf : MethodName := ⟨RX4, "valueOf", "(II)I"⟩
abbrev cX4_lists : ByteArray := prog_6_method_24_code
def yX4_lists : MethodName := ⟨RX4, "lists", "(III)V"⟩
abbrev cX4_errorOf : ByteArray := prog_6_method_25_code
def yX4_errorOf : MethodName := ⟨RX4, "errorOf", "(II)I"⟩
abbrev cX4_moveCount : ByteArray := prog_6_method_26_code
def yX4_moveCount : MethodName := ⟨RX4, "moveCount", "(I)I"⟩
abbrev cX4_moveError : ByteArray := prog_6_method_27_code
def yX4_moveError : MethodName := ⟨RX4, "moveError", "(II)I"⟩
abbrev cX4_moveKind : ByteArray := prog_6_method_28_code
def yX4_moveKind : MethodName := ⟨RX4, "moveKind", "(II)I"⟩
abbrev cX4_moveNames : ByteArray := prog_6_method_29_code
def yX4_moveNames : MethodName := ⟨RX4, "moveNames", "(II)I"⟩
abbrev cX4_moveTarget : ByteArray := prog_6_method_30_code
def yX4_moveTarget : MethodName := ⟨RX4, "moveTarget", "(II)I"⟩
abbrev cX4_answers : ByteArray := prog_6_method_31_code
def yX4_answers : MethodName := ⟨RX4, "answers", "(IIII)Z"⟩
abbrev cX4_next : ByteArray := prog_6_method_32_code
def yX4_next : MethodName := ⟨RX4, "next", "(IIIII)V"⟩
abbrev cX4_lowest : ByteArray := prog_6_method_33_code
def yX4_lowest : MethodName := ⟨RX4, "lowest", "(III)I"⟩
abbrev cX4_highest : ByteArray := prog_6_method_34_code
def yX4_highest : MethodName := ⟨RX4, "highest", "(III)I"⟩
abbrev cX4_holds1 : ByteArray := prog_6_method_35_code
def yX4_holds1 : MethodName := ⟨RX4, "holds1", "(III)Z"⟩
abbrev cX4_wins1 : ByteArray := prog_6_method_36_code
def yX4_wins1 : MethodName := ⟨RX4, "wins1", "()Z"⟩
abbrev cX4_holds2 : ByteArray := prog_6_method_37_code
def yX4_holds2 : MethodName := ⟨RX4, "holds2", "(III)Z"⟩
abbrev cX4_follows2 : ByteArray := prog_6_method_38_code
def yX4_follows2 : MethodName := ⟨RX4, "follows2", "(IIII)Z"⟩
abbrev cX4_wins2 : ByteArray := prog_6_method_39_code
def yX4_wins2 : MethodName := ⟨RX4, "wins2", "()Z"⟩
abbrev cX4_holds3 : ByteArray := prog_6_method_40_code
def yX4_holds3 : MethodName := ⟨RX4, "holds3", "(III)Z"⟩
abbrev cX4_follows3 : ByteArray := prog_6_method_41_code
def yX4_follows3 : MethodName := ⟨RX4, "follows3", "(IIII)Z"⟩
abbrev cX4_wins3 : ByteArray := prog_6_method_42_code
def yX4_wins3 : MethodName := ⟨RX4, "wins3", "()Z"⟩
abbrev cX4_wins : ByteArray := prog_6_method_43_code
def yX4_wins : MethodName := ⟨RX4, "wins", "(I)Z"⟩
abbrev cX4_starts : ByteArray := prog_6_method_44_code
def yX4_starts : MethodName := ⟨RX4, "starts", "(III)V"⟩
abbrev cX4_separated : ByteArray := prog_6_method_45_code
def yX4_separated : MethodName := ⟨RX4, "separated", "(II)I"⟩
abbrev cX4_pairError : ByteArray := prog_6_method_46_code
def yX4_pairError : MethodName := ⟨RX4, "pairError", "(III)I"⟩
abbrev cX4_areRelated : ByteArray := prog_6_method_47_code
def yX4_areRelated : MethodName := ⟨RX4, "areRelated", "(III)I"⟩
abbrev cX4_rounds : ByteArray := prog_6_method_48_code
def yX4_rounds : MethodName := ⟨RX4, "rounds", "(III)I"⟩
abbrev cX4_holds : ByteArray := prog_6_method_49_code
def yX4_holds : MethodName := ⟨RX4, "holds", "(IIII)Z"⟩
abbrev cX4_firstAttack : ByteArray := prog_6_method_50_code
def yX4_firstAttack : MethodName := ⟨RX4, "firstAttack", "(III)I"⟩
abbrev cX4_least : ByteArray := prog_6_method_51_code
def yX4_least : MethodName := ⟨RX4, "least", "(I)I"⟩
abbrev cX4_representative : ByteArray := prog_6_method_52_code
def yX4_representative : MethodName := ⟨RX4, "representative", "(II)I"⟩
abbrev cX4_classCount : ByteArray := prog_6_method_53_code
def yX4_classCount : MethodName := ⟨RX4, "classCount", "(I)I"⟩
def RJ9 : String := "java/lang/Math"
def TJ9 : u_T := fun k => match k with
  | _ => ("", "", "", false)
def tyJ9 : Nat → FieldType := fun k => match k with
  | _ => .int
abbrev wsJ90 : List Cond := u_ws RJ9 TJ9 0
theorem nmJ9 : ∀ a, a < 0 → ∀ b, b < 0 → a ≠ b → (TJ9 a).2.1 ≠ (TJ9 b).2.1 := by decide +kernel
theorem tyJ9_ok : ∀ k, k < 0 → parseFieldDescriptor (TJ9 k).2.2.1 = some (tyJ9 k) := by decide +kernel
abbrev cJ9_max_7cf53 : ByteArray := prog_7_method_65_code
def yJ9_max_7cf53 : MethodName := ⟨RJ9, "max", "(II)I"⟩
abbrev cJ9_min_7cf53 : ByteArray := prog_7_method_69_code
def yJ9_min_7cf53 : MethodName := ⟨RJ9, "min", "(II)I"⟩
def RJ0 : String := "java/lang/String"
def TJ0 : u_T := fun k => match k with
  | _ => ("", "", "", false)
def tyJ0 : Nat → FieldType := fun k => match k with
  | _ => .int
abbrev wsJ00 : List Cond := u_ws RJ0 TJ0 0
theorem nmJ0 : ∀ a, a < 0 → ∀ b, b < 0 → a ≠ b → (TJ0 a).2.1 ≠ (TJ0 b).2.1 := by decide +kernel
theorem tyJ0_ok : ∀ k, k < 0 → parseFieldDescriptor (TJ0 k).2.2.1 = some (tyJ0 k) := by decide +kernel
abbrev cJ0_length_8abf5 : ByteArray := prog_8_method_54_code
def yJ0_length_8abf5 : MethodName := ⟨RJ0, "length", "()I"⟩
abbrev cJ0_charAt_5068e : ByteArray := prog_8_method_56_code
def yJ0_charAt_5068e : MethodName := ⟨RJ0, "charAt", "(I)C"⟩
abbrev cJ0_coder_7d493 : ByteArray := prog_8_method_152_code
def yJ0_coder_7d493 : MethodName := ⟨RJ0, "coder", "()B"⟩
abbrev cJ0_isLatin1_aae02 : ByteArray := prog_8_method_154_code
def yJ0_isLatin1_aae02 : MethodName := ⟨RJ0, "isLatin1", "()Z"⟩
abbrev cJ0_checkIndex_df160 : ByteArray := prog_8_method_155_code
def yJ0_checkIndex_df160 : MethodName := ⟨RJ0, "checkIndex", "(II)V"⟩
def RJ1 : String := "java/lang/StringLatin1"
def TJ1 : u_T := fun k => match k with
  | _ => ("", "", "", false)
def tyJ1 : Nat → FieldType := fun k => match k with
  | _ => .int
abbrev wsJ10 : List Cond := u_ws RJ1 TJ1 0
theorem nmJ1 : ∀ a, a < 0 → ∀ b, b < 0 → a ≠ b → (TJ1 a).2.1 ≠ (TJ1 b).2.1 := by decide +kernel
theorem tyJ1_ok : ∀ k, k < 0 → parseFieldDescriptor (TJ1 k).2.2.1 = some (tyJ1 k) := by decide +kernel
abbrev cJ1_charAt_3b067 : ByteArray := prog_9_method_2_code
def yJ1_charAt_3b067 : MethodName := ⟨RJ1, "charAt", "([BI)C"⟩
def RJ2 : String := "java/lang/StringUTF16"
def TJ2 : u_T := fun k => match k with
  | _ => ("", "", "", false)
def tyJ2 : Nat → FieldType := fun k => match k with
  | _ => .int
abbrev wsJ20 : List Cond := u_ws RJ2 TJ2 0
theorem nmJ2 : ∀ a, a < 0 → ∀ b, b < 0 → a ≠ b → (TJ2 a).2.1 ≠ (TJ2 b).2.1 := by decide +kernel
theorem tyJ2_ok : ∀ k, k < 0 → parseFieldDescriptor (TJ2 k).2.2.1 = some (tyJ2 k) := by decide +kernel
abbrev cJ2_getChar_3b067 : ByteArray := prog_10_method_5_code
def yJ2_getChar_3b067 : MethodName := ⟨RJ2, "getChar", "([BI)C"⟩
abbrev cJ2_length_9d52b : ByteArray := prog_10_method_6_code
def yJ2_length_9d52b : MethodName := ⟨RJ2, "length", "([B)I"⟩
abbrev cJ2_charAt_3b067 : ByteArray := prog_10_method_83_code
def yJ2_charAt_3b067 : MethodName := ⟨RJ2, "charAt", "([BI)C"⟩
abbrev cJ2_checkIndex_2214a : ByteArray := prog_10_method_91_code
def yJ2_checkIndex_2214a : MethodName := ⟨RJ2, "checkIndex", "(I[B)V"⟩
def RJ3 : String := "jdk/internal/util/Preconditions"
def TJ3 : u_T := fun k => match k with
  | _ => ("", "", "", false)
def tyJ3 : Nat → FieldType := fun k => match k with
  | _ => .int
abbrev wsJ30 : List Cond := u_ws RJ3 TJ3 0
theorem nmJ3 : ∀ a, a < 0 → ∀ b, b < 0 → a ≠ b → (TJ3 a).2.1 ≠ (TJ3 b).2.1 := by decide +kernel
theorem tyJ3_ok : ∀ k, k < 0 → parseFieldDescriptor (TJ3 k).2.2.1 = some (tyJ3 k) := by decide +kernel
abbrev cJ3_checkIndex_8e157 : ByteArray := prog_11_method_11_code
def yJ3_checkIndex_8e157 : MethodName := ⟨RJ3, "checkIndex", "(IILjava/util/function/BiFunction;)I"⟩
def RL : String := "NamePassingComparerLaw"
abbrev cL_law : ByteArray := code
def yL_law : MethodName := ⟨RL, "law", "([I)Z"⟩
abbrev vwCl : List vw_C := [(RX0, TX0, 2), (RX2, TX2, 12), (RX3, TX3, 2), (RX4, TX4, 19)]
end
section
theorem dX0_init_0 : decode cX0_init 0 = .ok (.aload_n 0, 1) := by decide +kernel
theorem dX0_init_1 : decode cX0_init 1 = .ok (.invokespecial 3, 3) := by decide +kernel
theorem dX0_init_4 : decode cX0_init 4 = .ok (.aload_n 0, 1) := by decide +kernel
theorem dX0_init_5 : decode cX0_init 5 = .ok (.aload_n 1, 1) := by decide +kernel
theorem dX0_init_6 : decode cX0_init 6 = .ok (.putfield 9, 3) := by decide +kernel
theorem dX0_init_9 : decode cX0_init 9 = .ok (.aload_n 0, 1) := by decide +kernel
theorem dX0_init_10 : decode cX0_init 10 = .ok (.sipush 4140, 3) := by decide +kernel
theorem dX0_init_13 : decode cX0_init 13 = .ok (.newarray .int, 2) := by decide +kernel
theorem dX0_init_15 : decode cX0_init 15 = .ok (.putfield 15, 3) := by decide +kernel
theorem dX0_init_18 : decode cX0_init 18 = .ok (.return_, 1) := by decide +kernel
theorem dX0_forget_0 : decode cX0_forget 0 = .ok (.iload_n 1, 1) := by decide +kernel
theorem dX0_forget_1 : decode cX0_forget 1 = .ok (.invokestatic 19, 3) := by decide +kernel
theorem dX0_forget_4 : decode cX0_forget 4 = .ok (.istore_n 2, 1) := by decide +kernel
theorem dX0_forget_5 : decode cX0_forget 5 = .ok (.iload_n 1, 1) := by decide +kernel
theorem dX0_forget_6 : decode cX0_forget 6 = .ok (.iconst 1, 1) := by decide +kernel
theorem dX0_forget_7 : decode cX0_forget 7 = .ok (.iadd, 1) := by decide +kernel
theorem dX0_forget_8 : decode cX0_forget 8 = .ok (.invokestatic 19, 3) := by decide +kernel
theorem dX0_forget_11 : decode cX0_forget 11 = .ok (.istore_n 3, 1) := by decide +kernel
theorem dX0_forget_12 : decode cX0_forget 12 = .ok (.iload_n 2, 1) := by decide +kernel
theorem dX0_forget_13 : decode cX0_forget 13 = .ok (.istore 4, 2) := by decide +kernel
theorem dX0_forget_15 : decode cX0_forget 15 = .ok (.iload 4, 2) := by decide +kernel
theorem dX0_forget_17 : decode cX0_forget 17 = .ok (.iload_n 3, 1) := by decide +kernel
theorem dX0_forget_18 : decode cX0_forget 18 = .ok (.if_icmp .ge 19, 3) := by decide +kernel
theorem dX0_forget_21 : decode cX0_forget 21 = .ok (.aload_n 0, 1) := by decide +kernel
theorem dX0_forget_22 : decode cX0_forget 22 = .ok (.getfield 15, 3) := by decide +kernel
theorem dX0_forget_25 : decode cX0_forget 25 = .ok (.iload 4, 2) := by decide +kernel
theorem dX0_forget_27 : decode cX0_forget 27 = .ok (.iconst 0, 1) := by decide +kernel
theorem dX0_forget_28 : decode cX0_forget 28 = .ok (.invokestatic 23, 3) := by decide +kernel
theorem dX0_forget_31 : decode cX0_forget 31 = .ok (.iinc 4 1, 3) := by decide +kernel
theorem dX0_forget_34 : decode cX0_forget 34 = .ok (.goto (-19), 3) := by decide +kernel
theorem dX0_forget_37 : decode cX0_forget 37 = .ok (.return_, 1) := by decide +kernel
theorem dX0_roundsOf_0 : decode cX0_roundsOf 0 = .ok (.aload_n 0, 1) := by decide +kernel
theorem dX0_roundsOf_1 : decode cX0_roundsOf 1 = .ok (.iload_n 3, 1) := by decide +kernel
theorem dX0_roundsOf_2 : decode cX0_roundsOf 2 = .ok (.iload_n 1, 1) := by decide +kernel
theorem dX0_roundsOf_3 : decode cX0_roundsOf 3 = .ok (.iload_n 2, 1) := by decide +kernel
theorem dX0_roundsOf_4 : decode cX0_roundsOf 4 = .ok (.iconst 1, 1) := by decide +kernel
theorem dX0_roundsOf_5 : decode cX0_roundsOf 5 = .ok (.iconst 3, 1) := by decide +kernel
theorem dX0_roundsOf_6 : decode cX0_roundsOf 6 = .ok (.invokevirtual 29, 3) := by decide +kernel
theorem dX0_roundsOf_9 : decode cX0_roundsOf 9 = .ok (.istore 4, 2) := by decide +kernel
theorem dX0_roundsOf_11 : decode cX0_roundsOf 11 = .ok (.iload 4, 2) := by decide +kernel
theorem dX0_roundsOf_13 : decode cX0_roundsOf 13 = .ok (.iconst 4, 1) := by decide +kernel
theorem dX0_roundsOf_14 : decode cX0_roundsOf 14 = .ok (.if_icmp .ne 8, 3) := by decide +kernel
theorem dX0_roundsOf_17 : decode cX0_roundsOf 17 = .ok (.bipush (-4), 2) := by decide +kernel
theorem dX0_roundsOf_19 : decode cX0_roundsOf 19 = .ok (.goto 5, 3) := by decide +kernel
theorem dX0_roundsOf_22 : decode cX0_roundsOf 22 = .ok (.iload 4, 2) := by decide +kernel
theorem dX0_roundsOf_24 : decode cX0_roundsOf 24 = .ok (.ireturn, 1) := by decide +kernel
theorem dX0_attackOf_0 : decode cX0_attackOf 0 = .ok (.aload_n 0, 1) := by decide +kernel
theorem dX0_attackOf_1 : decode cX0_attackOf 1 = .ok (.iload_n 1, 1) := by decide +kernel
theorem dX0_attackOf_2 : decode cX0_attackOf 2 = .ok (.iload_n 2, 1) := by decide +kernel
theorem dX0_attackOf_3 : decode cX0_attackOf 3 = .ok (.iload_n 3, 1) := by decide +kernel
theorem dX0_attackOf_4 : decode cX0_attackOf 4 = .ok (.invokevirtual 33, 3) := by decide +kernel
theorem dX0_attackOf_7 : decode cX0_attackOf 7 = .ok (.istore 4, 2) := by decide +kernel
theorem dX0_attackOf_9 : decode cX0_attackOf 9 = .ok (.iload 4, 2) := by decide +kernel
theorem dX0_attackOf_11 : decode cX0_attackOf 11 = .ok (.bipush (-4), 2) := by decide +kernel
theorem dX0_attackOf_13 : decode cX0_attackOf 13 = .ok (.if_icmp .ne 6, 3) := by decide +kernel
theorem dX0_attackOf_16 : decode cX0_attackOf 16 = .ok (.bipush (-4), 2) := by decide +kernel
theorem dX0_attackOf_18 : decode cX0_attackOf 18 = .ok (.ireturn, 1) := by decide +kernel
theorem dX0_attackOf_19 : decode cX0_attackOf 19 = .ok (.aload_n 0, 1) := by decide +kernel
theorem dX0_attackOf_20 : decode cX0_attackOf 20 = .ok (.iload_n 3, 1) := by decide +kernel
theorem dX0_attackOf_21 : decode cX0_attackOf 21 = .ok (.iload_n 1, 1) := by decide +kernel
theorem dX0_attackOf_22 : decode cX0_attackOf 22 = .ok (.iload_n 2, 1) := by decide +kernel
theorem dX0_attackOf_23 : decode cX0_attackOf 23 = .ok (.iload 4, 2) := by decide +kernel
theorem dX0_attackOf_25 : decode cX0_attackOf 25 = .ok (.invokevirtual 37, 3) := by decide +kernel
theorem dX0_attackOf_28 : decode cX0_attackOf 28 = .ok (.istore 5, 2) := by decide +kernel
theorem dX0_attackOf_30 : decode cX0_attackOf 30 = .ok (.iload 5, 2) := by decide +kernel
theorem dX0_attackOf_32 : decode cX0_attackOf 32 = .ok (.ifCond .lt 6, 3) := by decide +kernel
theorem dX0_attackOf_35 : decode cX0_attackOf 35 = .ok (.iload 5, 2) := by decide +kernel
theorem dX0_attackOf_37 : decode cX0_attackOf 37 = .ok (.ireturn, 1) := by decide +kernel
theorem dX0_attackOf_38 : decode cX0_attackOf 38 = .ok (.aload_n 0, 1) := by decide +kernel
theorem dX0_attackOf_39 : decode cX0_attackOf 39 = .ok (.iload_n 3, 1) := by decide +kernel
theorem dX0_attackOf_40 : decode cX0_attackOf 40 = .ok (.iload_n 2, 1) := by decide +kernel
theorem dX0_attackOf_41 : decode cX0_attackOf 41 = .ok (.iload_n 1, 1) := by decide +kernel
theorem dX0_attackOf_42 : decode cX0_attackOf 42 = .ok (.iload 4, 2) := by decide +kernel
theorem dX0_attackOf_44 : decode cX0_attackOf 44 = .ok (.invokevirtual 37, 3) := by decide +kernel
theorem dX0_attackOf_47 : decode cX0_attackOf 47 = .ok (.istore 6, 2) := by decide +kernel
theorem dX0_attackOf_49 : decode cX0_attackOf 49 = .ok (.iload 6, 2) := by decide +kernel
theorem dX0_attackOf_51 : decode cX0_attackOf 51 = .ok (.ifCond .lt 12, 3) := by decide +kernel
theorem dX0_attackOf_54 : decode cX0_attackOf 54 = .ok (.sipush 1000, 3) := by decide +kernel
theorem dX0_attackOf_57 : decode cX0_attackOf 57 = .ok (.iload 6, 2) := by decide +kernel
theorem dX0_attackOf_59 : decode cX0_attackOf 59 = .ok (.iadd, 1) := by decide +kernel
theorem dX0_attackOf_60 : decode cX0_attackOf 60 = .ok (.goto 5, 3) := by decide +kernel
theorem dX0_attackOf_63 : decode cX0_attackOf 63 = .ok (.bipush (-4), 2) := by decide +kernel
theorem dX0_attackOf_65 : decode cX0_attackOf 65 = .ok (.ireturn, 1) := by decide +kernel
theorem dX0_attackWith_0 : decode cX0_attackWith 0 = .ok (.iconst 1, 1) := by decide +kernel
theorem dX0_attackWith_1 : decode cX0_attackWith 1 = .ok (.istore 5, 2) := by decide +kernel
theorem dX0_attackWith_3 : decode cX0_attackWith 3 = .ok (.iconst 0, 1) := by decide +kernel
theorem dX0_attackWith_4 : decode cX0_attackWith 4 = .ok (.istore 6, 2) := by decide +kernel
theorem dX0_attackWith_6 : decode cX0_attackWith 6 = .ok (.iconst 0, 1) := by decide +kernel
theorem dX0_attackWith_7 : decode cX0_attackWith 7 = .ok (.istore 7, 2) := by decide +kernel
theorem dX0_attackWith_9 : decode cX0_attackWith 9 = .ok (.iload 7, 2) := by decide +kernel
theorem dX0_attackWith_11 : decode cX0_attackWith 11 = .ok (.iconst 3, 1) := by decide +kernel
theorem dX0_attackWith_12 : decode cX0_attackWith 12 = .ok (.if_icmp .ge 93, 3) := by decide +kernel
theorem dX0_attackWith_15 : decode cX0_attackWith 15 = .ok (.aload_n 0, 1) := by decide +kernel
theorem dX0_attackWith_16 : decode cX0_attackWith 16 = .ok (.getfield 9, 3) := by decide +kernel
theorem dX0_attackWith_19 : decode cX0_attackWith 19 = .ok (.iload_n 2, 1) := by decide +kernel
theorem dX0_attackWith_20 : decode cX0_attackWith 20 = .ok (.iload 7, 2) := by decide +kernel
theorem dX0_attackWith_22 : decode cX0_attackWith 22 = .ok (.iload 5, 2) := by decide +kernel
theorem dX0_attackWith_24 : decode cX0_attackWith 24 = .ok (.invokevirtual 41, 3) := by decide +kernel
theorem dX0_attackWith_27 : decode cX0_attackWith 27 = .ok (.istore 8, 2) := by decide +kernel
theorem dX0_attackWith_29 : decode cX0_attackWith 29 = .ok (.iload 8, 2) := by decide +kernel
theorem dX0_attackWith_31 : decode cX0_attackWith 31 = .ok (.bipush (-4), 2) := by decide +kernel
theorem dX0_attackWith_33 : decode cX0_attackWith 33 = .ok (.if_icmp .eq 66, 3) := by decide +kernel
theorem dX0_attackWith_36 : decode cX0_attackWith 36 = .ok (.aload_n 0, 1) := by decide +kernel
theorem dX0_attackWith_37 : decode cX0_attackWith 37 = .ok (.iload_n 1, 1) := by decide +kernel
theorem dX0_attackWith_38 : decode cX0_attackWith 38 = .ok (.iload 8, 2) := by decide +kernel
theorem dX0_attackWith_40 : decode cX0_attackWith 40 = .ok (.iload 5, 2) := by decide +kernel
theorem dX0_attackWith_42 : decode cX0_attackWith 42 = .ok (.invokevirtual 46, 3) := by decide +kernel
theorem dX0_attackWith_45 : decode cX0_attackWith 45 = .ok (.istore 9, 2) := by decide +kernel
theorem dX0_attackWith_47 : decode cX0_attackWith 47 = .ok (.aload_n 0, 1) := by decide +kernel
theorem dX0_attackWith_48 : decode cX0_attackWith 48 = .ok (.iload_n 1, 1) := by decide +kernel
theorem dX0_attackWith_49 : decode cX0_attackWith 49 = .ok (.iload 8, 2) := by decide +kernel
theorem dX0_attackWith_51 : decode cX0_attackWith 51 = .ok (.invokevirtual 49, 3) := by decide +kernel
theorem dX0_attackWith_54 : decode cX0_attackWith 54 = .ok (.istore 10, 2) := by decide +kernel
theorem dX0_attackWith_56 : decode cX0_attackWith 56 = .ok (.iload 10, 2) := by decide +kernel
theorem dX0_attackWith_58 : decode cX0_attackWith 58 = .ok (.iload 9, 2) := by decide +kernel
theorem dX0_attackWith_60 : decode cX0_attackWith 60 = .ok (.if_icmp .gt 36, 3) := by decide +kernel
theorem dX0_attackWith_63 : decode cX0_attackWith 63 = .ok (.aload_n 0, 1) := by decide +kernel
theorem dX0_attackWith_64 : decode cX0_attackWith 64 = .ok (.iload_n 1, 1) := by decide +kernel
theorem dX0_attackWith_65 : decode cX0_attackWith 65 = .ok (.iload 8, 2) := by decide +kernel
theorem dX0_attackWith_67 : decode cX0_attackWith 67 = .ok (.iload 10, 2) := by decide +kernel
theorem dX0_attackWith_69 : decode cX0_attackWith 69 = .ok (.iload_n 3, 1) := by decide +kernel
theorem dX0_attackWith_70 : decode cX0_attackWith 70 = .ok (.iload 5, 2) := by decide +kernel
theorem dX0_attackWith_72 : decode cX0_attackWith 72 = .ok (.iconst 3, 1) := by decide +kernel
theorem dX0_attackWith_73 : decode cX0_attackWith 73 = .ok (.invokevirtual 53, 3) := by decide +kernel
theorem dX0_attackWith_76 : decode cX0_attackWith 76 = .ok (.iload 4, 2) := by decide +kernel
theorem dX0_attackWith_78 : decode cX0_attackWith 78 = .ok (.if_icmp .ne 12, 3) := by decide +kernel
theorem dX0_attackWith_81 : decode cX0_attackWith 81 = .ok (.bipush 10, 2) := by decide +kernel
theorem dX0_attackWith_83 : decode cX0_attackWith 83 = .ok (.iload 6, 2) := by decide +kernel
theorem dX0_attackWith_85 : decode cX0_attackWith 85 = .ok (.imul, 1) := by decide +kernel
theorem dX0_attackWith_86 : decode cX0_attackWith 86 = .ok (.iload 10, 2) := by decide +kernel
theorem dX0_attackWith_88 : decode cX0_attackWith 88 = .ok (.iadd, 1) := by decide +kernel
theorem dX0_attackWith_89 : decode cX0_attackWith 89 = .ok (.ireturn, 1) := by decide +kernel
theorem dX0_attackWith_90 : decode cX0_attackWith 90 = .ok (.iinc 10 1, 3) := by decide +kernel
theorem dX0_attackWith_93 : decode cX0_attackWith 93 = .ok (.goto (-37), 3) := by decide +kernel
theorem dX0_attackWith_96 : decode cX0_attackWith 96 = .ok (.iinc 6 1, 3) := by decide +kernel
theorem dX0_attackWith_99 : decode cX0_attackWith 99 = .ok (.iinc 7 1, 3) := by decide +kernel
theorem dX0_attackWith_102 : decode cX0_attackWith 102 = .ok (.goto (-93), 3) := by decide +kernel
theorem dX0_attackWith_105 : decode cX0_attackWith 105 = .ok (.bipush (-4), 2) := by decide +kernel
theorem dX0_attackWith_107 : decode cX0_attackWith 107 = .ok (.ireturn, 1) := by decide +kernel
theorem dX0_worth_0 : decode cX0_worth 0 = .ok (.iload 5, 2) := by decide +kernel
theorem dX0_worth_2 : decode cX0_worth 2 = .ok (.ifCond .le 8, 3) := by decide +kernel
theorem dX0_worth_5 : decode cX0_worth 5 = .ok (.iload_n 2, 1) := by decide +kernel
theorem dX0_worth_6 : decode cX0_worth 6 = .ok (.iload_n 3, 1) := by decide +kernel
theorem dX0_worth_7 : decode cX0_worth 7 = .ok (.if_icmp .ne 5, 3) := by decide +kernel
theorem dX0_worth_10 : decode cX0_worth 10 = .ok (.iconst 4, 1) := by decide +kernel
theorem dX0_worth_11 : decode cX0_worth 11 = .ok (.ireturn, 1) := by decide +kernel
theorem dX0_worth_12 : decode cX0_worth 12 = .ok (.iload_n 1, 1) := by decide +kernel
theorem dX0_worth_13 : decode cX0_worth 13 = .ok (.iload_n 2, 1) := by decide +kernel
theorem dX0_worth_14 : decode cX0_worth 14 = .ok (.iload_n 3, 1) := by decide +kernel
theorem dX0_worth_15 : decode cX0_worth 15 = .ok (.iload 4, 2) := by decide +kernel
theorem dX0_worth_17 : decode cX0_worth 17 = .ok (.invokestatic 57, 3) := by decide +kernel
theorem dX0_worth_20 : decode cX0_worth 20 = .ok (.istore 6, 2) := by decide +kernel
theorem dX0_worth_22 : decode cX0_worth 22 = .ok (.aload_n 0, 1) := by decide +kernel
theorem dX0_worth_23 : decode cX0_worth 23 = .ok (.getfield 15, 3) := by decide +kernel
theorem dX0_worth_26 : decode cX0_worth 26 = .ok (.iload 6, 2) := by decide +kernel
theorem dX0_worth_28 : decode cX0_worth 28 = .ok (.invokestatic 60, 3) := by decide +kernel
theorem dX0_worth_31 : decode cX0_worth 31 = .ok (.istore 7, 2) := by decide +kernel
theorem dX0_worth_33 : decode cX0_worth 33 = .ok (.iload 7, 2) := by decide +kernel
theorem dX0_worth_35 : decode cX0_worth 35 = .ok (.ifCond .eq 6, 3) := by decide +kernel
theorem dX0_worth_38 : decode cX0_worth 38 = .ok (.iload 7, 2) := by decide +kernel
theorem dX0_worth_40 : decode cX0_worth 40 = .ok (.ireturn, 1) := by decide +kernel
theorem dX0_worth_41 : decode cX0_worth 41 = .ok (.aload_n 0, 1) := by decide +kernel
theorem dX0_worth_42 : decode cX0_worth 42 = .ok (.iload_n 1, 1) := by decide +kernel
theorem dX0_worth_43 : decode cX0_worth 43 = .ok (.iload_n 2, 1) := by decide +kernel
theorem dX0_worth_44 : decode cX0_worth 44 = .ok (.iload_n 3, 1) := by decide +kernel
theorem dX0_worth_45 : decode cX0_worth 45 = .ok (.iload 4, 2) := by decide +kernel
theorem dX0_worth_47 : decode cX0_worth 47 = .ok (.iload 5, 2) := by decide +kernel
theorem dX0_worth_49 : decode cX0_worth 49 = .ok (.invokevirtual 64, 3) := by decide +kernel
theorem dX0_worth_52 : decode cX0_worth 52 = .ok (.istore 8, 2) := by decide +kernel
theorem dX0_worth_54 : decode cX0_worth 54 = .ok (.aload_n 0, 1) := by decide +kernel
theorem dX0_worth_55 : decode cX0_worth 55 = .ok (.iload_n 1, 1) := by decide +kernel
theorem dX0_worth_56 : decode cX0_worth 56 = .ok (.iload_n 3, 1) := by decide +kernel
theorem dX0_worth_57 : decode cX0_worth 57 = .ok (.iload_n 2, 1) := by decide +kernel
theorem dX0_worth_58 : decode cX0_worth 58 = .ok (.iload 4, 2) := by decide +kernel
theorem dX0_worth_60 : decode cX0_worth 60 = .ok (.iload 5, 2) := by decide +kernel
theorem dX0_worth_62 : decode cX0_worth 62 = .ok (.invokevirtual 64, 3) := by decide +kernel
theorem dX0_worth_65 : decode cX0_worth 65 = .ok (.istore 9, 2) := by decide +kernel
theorem dX0_worth_67 : decode cX0_worth 67 = .ok (.iload 8, 2) := by decide +kernel
theorem dX0_worth_69 : decode cX0_worth 69 = .ok (.iload 9, 2) := by decide +kernel
theorem dX0_worth_71 : decode cX0_worth 71 = .ok (.invokestatic 67, 3) := by decide +kernel
theorem dX0_worth_74 : decode cX0_worth 74 = .ok (.istore 10, 2) := by decide +kernel
theorem dX0_worth_76 : decode cX0_worth 76 = .ok (.aload_n 0, 1) := by decide +kernel
theorem dX0_worth_77 : decode cX0_worth 77 = .ok (.getfield 15, 3) := by decide +kernel
theorem dX0_worth_80 : decode cX0_worth 80 = .ok (.iload 6, 2) := by decide +kernel
theorem dX0_worth_82 : decode cX0_worth 82 = .ok (.iload 10, 2) := by decide +kernel
theorem dX0_worth_84 : decode cX0_worth 84 = .ok (.invokestatic 23, 3) := by decide +kernel
theorem dX0_worth_87 : decode cX0_worth 87 = .ok (.iload 10, 2) := by decide +kernel
theorem dX0_worth_89 : decode cX0_worth 89 = .ok (.ireturn, 1) := by decide +kernel
theorem dX0_sideWorth_0 : decode cX0_sideWorth 0 = .ok (.iconst 4, 1) := by decide +kernel
theorem dX0_sideWorth_1 : decode cX0_sideWorth 1 = .ok (.istore 6, 2) := by decide +kernel
theorem dX0_sideWorth_3 : decode cX0_sideWorth 3 = .ok (.iconst 0, 1) := by decide +kernel
theorem dX0_sideWorth_4 : decode cX0_sideWorth 4 = .ok (.istore 7, 2) := by decide +kernel
theorem dX0_sideWorth_6 : decode cX0_sideWorth 6 = .ok (.iload 7, 2) := by decide +kernel
theorem dX0_sideWorth_8 : decode cX0_sideWorth 8 = .ok (.iconst 3, 1) := by decide +kernel
theorem dX0_sideWorth_9 : decode cX0_sideWorth 9 = .ok (.if_icmp .ge 94, 3) := by decide +kernel
theorem dX0_sideWorth_12 : decode cX0_sideWorth 12 = .ok (.iload 6, 2) := by decide +kernel
theorem dX0_sideWorth_14 : decode cX0_sideWorth 14 = .ok (.iconst 1, 1) := by decide +kernel
theorem dX0_sideWorth_15 : decode cX0_sideWorth 15 = .ok (.if_icmp .le 88, 3) := by decide +kernel
theorem dX0_sideWorth_18 : decode cX0_sideWorth 18 = .ok (.aload_n 0, 1) := by decide +kernel
theorem dX0_sideWorth_19 : decode cX0_sideWorth 19 = .ok (.getfield 9, 3) := by decide +kernel
theorem dX0_sideWorth_22 : decode cX0_sideWorth 22 = .ok (.iload_n 2, 1) := by decide +kernel
theorem dX0_sideWorth_23 : decode cX0_sideWorth 23 = .ok (.iload 7, 2) := by decide +kernel
theorem dX0_sideWorth_25 : decode cX0_sideWorth 25 = .ok (.iload 4, 2) := by decide +kernel
theorem dX0_sideWorth_27 : decode cX0_sideWorth 27 = .ok (.invokevirtual 41, 3) := by decide +kernel
theorem dX0_sideWorth_30 : decode cX0_sideWorth 30 = .ok (.istore 8, 2) := by decide +kernel
theorem dX0_sideWorth_32 : decode cX0_sideWorth 32 = .ok (.iload 8, 2) := by decide +kernel
theorem dX0_sideWorth_34 : decode cX0_sideWorth 34 = .ok (.bipush (-4), 2) := by decide +kernel
theorem dX0_sideWorth_36 : decode cX0_sideWorth 36 = .ok (.if_icmp .eq 61, 3) := by decide +kernel
theorem dX0_sideWorth_39 : decode cX0_sideWorth 39 = .ok (.aload_n 0, 1) := by decide +kernel
theorem dX0_sideWorth_40 : decode cX0_sideWorth 40 = .ok (.iload_n 1, 1) := by decide +kernel
theorem dX0_sideWorth_41 : decode cX0_sideWorth 41 = .ok (.iload 8, 2) := by decide +kernel
theorem dX0_sideWorth_43 : decode cX0_sideWorth 43 = .ok (.iload 4, 2) := by decide +kernel
theorem dX0_sideWorth_45 : decode cX0_sideWorth 45 = .ok (.invokevirtual 46, 3) := by decide +kernel
theorem dX0_sideWorth_48 : decode cX0_sideWorth 48 = .ok (.istore 9, 2) := by decide +kernel
theorem dX0_sideWorth_50 : decode cX0_sideWorth 50 = .ok (.aload_n 0, 1) := by decide +kernel
theorem dX0_sideWorth_51 : decode cX0_sideWorth 51 = .ok (.iload_n 1, 1) := by decide +kernel
theorem dX0_sideWorth_52 : decode cX0_sideWorth 52 = .ok (.iload 8, 2) := by decide +kernel
theorem dX0_sideWorth_54 : decode cX0_sideWorth 54 = .ok (.invokevirtual 49, 3) := by decide +kernel
theorem dX0_sideWorth_57 : decode cX0_sideWorth 57 = .ok (.istore 10, 2) := by decide +kernel
theorem dX0_sideWorth_59 : decode cX0_sideWorth 59 = .ok (.iload 10, 2) := by decide +kernel
theorem dX0_sideWorth_61 : decode cX0_sideWorth 61 = .ok (.iload 9, 2) := by decide +kernel
theorem dX0_sideWorth_63 : decode cX0_sideWorth 63 = .ok (.if_icmp .gt 34, 3) := by decide +kernel
theorem dX0_sideWorth_66 : decode cX0_sideWorth 66 = .ok (.aload_n 0, 1) := by decide +kernel
theorem dX0_sideWorth_67 : decode cX0_sideWorth 67 = .ok (.iload_n 1, 1) := by decide +kernel
theorem dX0_sideWorth_68 : decode cX0_sideWorth 68 = .ok (.iload 8, 2) := by decide +kernel
theorem dX0_sideWorth_70 : decode cX0_sideWorth 70 = .ok (.iload 10, 2) := by decide +kernel
theorem dX0_sideWorth_72 : decode cX0_sideWorth 72 = .ok (.iload_n 3, 1) := by decide +kernel
theorem dX0_sideWorth_73 : decode cX0_sideWorth 73 = .ok (.iload 4, 2) := by decide +kernel
theorem dX0_sideWorth_75 : decode cX0_sideWorth 75 = .ok (.iload 5, 2) := by decide +kernel
theorem dX0_sideWorth_77 : decode cX0_sideWorth 77 = .ok (.invokevirtual 53, 3) := by decide +kernel
theorem dX0_sideWorth_80 : decode cX0_sideWorth 80 = .ok (.istore 11, 2) := by decide +kernel
theorem dX0_sideWorth_82 : decode cX0_sideWorth 82 = .ok (.iload 6, 2) := by decide +kernel
theorem dX0_sideWorth_84 : decode cX0_sideWorth 84 = .ok (.iload 11, 2) := by decide +kernel
theorem dX0_sideWorth_86 : decode cX0_sideWorth 86 = .ok (.invokestatic 67, 3) := by decide +kernel
theorem dX0_sideWorth_89 : decode cX0_sideWorth 89 = .ok (.istore 6, 2) := by decide +kernel
theorem dX0_sideWorth_91 : decode cX0_sideWorth 91 = .ok (.iinc 10 1, 3) := by decide +kernel
theorem dX0_sideWorth_94 : decode cX0_sideWorth 94 = .ok (.goto (-35), 3) := by decide +kernel
theorem dX0_sideWorth_97 : decode cX0_sideWorth 97 = .ok (.iinc 7 1, 3) := by decide +kernel
theorem dX0_sideWorth_100 : decode cX0_sideWorth 100 = .ok (.goto (-94), 3) := by decide +kernel
theorem dX0_sideWorth_103 : decode cX0_sideWorth 103 = .ok (.iload 6, 2) := by decide +kernel
theorem dX0_sideWorth_105 : decode cX0_sideWorth 105 = .ok (.ireturn, 1) := by decide +kernel
theorem dX0_attackWorth_0 : decode cX0_attackWorth 0 = .ok (.iconst 0, 1) := by decide +kernel
theorem dX0_attackWorth_1 : decode cX0_attackWorth 1 = .ok (.istore 7, 2) := by decide +kernel
theorem dX0_attackWorth_3 : decode cX0_attackWorth 3 = .ok (.iconst 0, 1) := by decide +kernel
theorem dX0_attackWorth_4 : decode cX0_attackWorth 4 = .ok (.istore 8, 2) := by decide +kernel
theorem dX0_attackWorth_6 : decode cX0_attackWorth 6 = .ok (.iload 8, 2) := by decide +kernel
theorem dX0_attackWorth_8 : decode cX0_attackWorth 8 = .ok (.iconst 3, 1) := by decide +kernel
theorem dX0_attackWorth_9 : decode cX0_attackWorth 9 = .ok (.if_icmp .ge 73, 3) := by decide +kernel
theorem dX0_attackWorth_12 : decode cX0_attackWorth 12 = .ok (.iload 7, 2) := by decide +kernel
theorem dX0_attackWorth_14 : decode cX0_attackWorth 14 = .ok (.iconst 4, 1) := by decide +kernel
theorem dX0_attackWorth_15 : decode cX0_attackWorth 15 = .ok (.if_icmp .ge 67, 3) := by decide +kernel
theorem dX0_attackWorth_18 : decode cX0_attackWorth 18 = .ok (.aload_n 0, 1) := by decide +kernel
theorem dX0_attackWorth_19 : decode cX0_attackWorth 19 = .ok (.getfield 9, 3) := by decide +kernel
theorem dX0_attackWorth_22 : decode cX0_attackWorth 22 = .ok (.iload 4, 2) := by decide +kernel
theorem dX0_attackWorth_24 : decode cX0_attackWorth 24 = .ok (.iload 8, 2) := by decide +kernel
theorem dX0_attackWorth_26 : decode cX0_attackWorth 26 = .ok (.iload 5, 2) := by decide +kernel
theorem dX0_attackWorth_28 : decode cX0_attackWorth 28 = .ok (.invokevirtual 41, 3) := by decide +kernel
theorem dX0_attackWorth_31 : decode cX0_attackWorth 31 = .ok (.istore 9, 2) := by decide +kernel
theorem dX0_attackWorth_33 : decode cX0_attackWorth 33 = .ok (.iload 9, 2) := by decide +kernel
theorem dX0_attackWorth_35 : decode cX0_attackWorth 35 = .ok (.bipush (-4), 2) := by decide +kernel
theorem dX0_attackWorth_37 : decode cX0_attackWorth 37 = .ok (.if_icmp .eq 39, 3) := by decide +kernel
theorem dX0_attackWorth_40 : decode cX0_attackWorth 40 = .ok (.aload_n 0, 1) := by decide +kernel
theorem dX0_attackWorth_41 : decode cX0_attackWorth 41 = .ok (.iload_n 2, 1) := by decide +kernel
theorem dX0_attackWorth_42 : decode cX0_attackWorth 42 = .ok (.iload 9, 2) := by decide +kernel
theorem dX0_attackWorth_44 : decode cX0_attackWorth 44 = .ok (.iload 5, 2) := by decide +kernel
theorem dX0_attackWorth_46 : decode cX0_attackWorth 46 = .ok (.invokevirtual 72, 3) := by decide +kernel
theorem dX0_attackWorth_49 : decode cX0_attackWorth 49 = .ok (.ifCond .eq 27, 3) := by decide +kernel
theorem dX0_attackWorth_52 : decode cX0_attackWorth 52 = .ok (.aload_n 0, 1) := by decide +kernel
theorem dX0_attackWorth_53 : decode cX0_attackWorth 53 = .ok (.iload_n 1, 1) := by decide +kernel
theorem dX0_attackWorth_54 : decode cX0_attackWorth 54 = .ok (.iload_n 2, 1) := by decide +kernel
theorem dX0_attackWorth_55 : decode cX0_attackWorth 55 = .ok (.iload_n 3, 1) := by decide +kernel
theorem dX0_attackWorth_56 : decode cX0_attackWorth 56 = .ok (.iload 9, 2) := by decide +kernel
theorem dX0_attackWorth_58 : decode cX0_attackWorth 58 = .ok (.iload 5, 2) := by decide +kernel
theorem dX0_attackWorth_60 : decode cX0_attackWorth 60 = .ok (.iload 6, 2) := by decide +kernel
theorem dX0_attackWorth_62 : decode cX0_attackWorth 62 = .ok (.invokevirtual 76, 3) := by decide +kernel
theorem dX0_attackWorth_65 : decode cX0_attackWorth 65 = .ok (.istore 10, 2) := by decide +kernel
theorem dX0_attackWorth_67 : decode cX0_attackWorth 67 = .ok (.iload 7, 2) := by decide +kernel
theorem dX0_attackWorth_69 : decode cX0_attackWorth 69 = .ok (.iload 10, 2) := by decide +kernel
theorem dX0_attackWorth_71 : decode cX0_attackWorth 71 = .ok (.invokestatic 79, 3) := by decide +kernel
theorem dX0_attackWorth_74 : decode cX0_attackWorth 74 = .ok (.istore 7, 2) := by decide +kernel
theorem dX0_attackWorth_76 : decode cX0_attackWorth 76 = .ok (.iinc 8 1, 3) := by decide +kernel
theorem dX0_attackWorth_79 : decode cX0_attackWorth 79 = .ok (.goto (-73), 3) := by decide +kernel
theorem dX0_attackWorth_82 : decode cX0_attackWorth 82 = .ok (.iconst 4, 1) := by decide +kernel
theorem dX0_attackWorth_83 : decode cX0_attackWorth 83 = .ok (.iload 7, 2) := by decide +kernel
theorem dX0_attackWorth_85 : decode cX0_attackWorth 85 = .ok (.iconst 1, 1) := by decide +kernel
theorem dX0_attackWorth_86 : decode cX0_attackWorth 86 = .ok (.iadd, 1) := by decide +kernel
theorem dX0_attackWorth_87 : decode cX0_attackWorth 87 = .ok (.invokestatic 67, 3) := by decide +kernel
theorem dX0_attackWorth_90 : decode cX0_attackWorth 90 = .ok (.ireturn, 1) := by decide +kernel
theorem dX0_answerWorth_0 : decode cX0_answerWorth 0 = .ok (.aload_n 0, 1) := by decide +kernel
theorem dX0_answerWorth_1 : decode cX0_answerWorth 1 = .ok (.getfield 9, 3) := by decide +kernel
theorem dX0_answerWorth_4 : decode cX0_answerWorth 4 = .ok (.getfield 82, 3) := by decide +kernel
theorem dX0_answerWorth_7 : decode cX0_answerWorth 7 = .ok (.iload_n 2, 1) := by decide +kernel
theorem dX0_answerWorth_8 : decode cX0_answerWorth 8 = .ok (.invokestatic 60, 3) := by decide +kernel
theorem dX0_answerWorth_11 : decode cX0_answerWorth 11 = .ok (.istore 7, 2) := by decide +kernel
theorem dX0_answerWorth_13 : decode cX0_answerWorth 13 = .ok (.aload_n 0, 1) := by decide +kernel
theorem dX0_answerWorth_14 : decode cX0_answerWorth 14 = .ok (.getfield 9, 3) := by decide +kernel
theorem dX0_answerWorth_17 : decode cX0_answerWorth 17 = .ok (.getfield 82, 3) := by decide +kernel
theorem dX0_answerWorth_20 : decode cX0_answerWorth 20 = .ok (.iload 4, 2) := by decide +kernel
theorem dX0_answerWorth_22 : decode cX0_answerWorth 22 = .ok (.invokestatic 60, 3) := by decide +kernel
theorem dX0_answerWorth_25 : decode cX0_answerWorth 25 = .ok (.istore 8, 2) := by decide +kernel
theorem dX0_answerWorth_27 : decode cX0_answerWorth 27 = .ok (.aload_n 0, 1) := by decide +kernel
theorem dX0_answerWorth_28 : decode cX0_answerWorth 28 = .ok (.getfield 9, 3) := by decide +kernel
theorem dX0_answerWorth_31 : decode cX0_answerWorth 31 = .ok (.getfield 85, 3) := by decide +kernel
theorem dX0_answerWorth_34 : decode cX0_answerWorth 34 = .ok (.iload_n 2, 1) := by decide +kernel
theorem dX0_answerWorth_35 : decode cX0_answerWorth 35 = .ok (.invokestatic 60, 3) := by decide +kernel
theorem dX0_answerWorth_38 : decode cX0_answerWorth 38 = .ok (.iconst 3, 1) := by decide +kernel
theorem dX0_answerWorth_39 : decode cX0_answerWorth 39 = .ok (.if_icmp .eq 19, 3) := by decide +kernel
theorem dX0_answerWorth_42 : decode cX0_answerWorth 42 = .ok (.aload_n 0, 1) := by decide +kernel
theorem dX0_answerWorth_43 : decode cX0_answerWorth 43 = .ok (.iload_n 1, 1) := by decide +kernel
theorem dX0_answerWorth_44 : decode cX0_answerWorth 44 = .ok (.iload 7, 2) := by decide +kernel
theorem dX0_answerWorth_46 : decode cX0_answerWorth 46 = .ok (.iload 8, 2) := by decide +kernel
theorem dX0_answerWorth_48 : decode cX0_answerWorth 48 = .ok (.iload 5, 2) := by decide +kernel
theorem dX0_answerWorth_50 : decode cX0_answerWorth 50 = .ok (.iload 6, 2) := by decide +kernel
theorem dX0_answerWorth_52 : decode cX0_answerWorth 52 = .ok (.iconst 1, 1) := by decide +kernel
theorem dX0_answerWorth_53 : decode cX0_answerWorth 53 = .ok (.isub, 1) := by decide +kernel
theorem dX0_answerWorth_54 : decode cX0_answerWorth 54 = .ok (.invokevirtual 29, 3) := by decide +kernel
theorem dX0_answerWorth_57 : decode cX0_answerWorth 57 = .ok (.ireturn, 1) := by decide +kernel
theorem dX0_answerWorth_58 : decode cX0_answerWorth 58 = .ok (.iload 5, 2) := by decide +kernel
theorem dX0_answerWorth_60 : decode cX0_answerWorth 60 = .ok (.invokestatic 88, 3) := by decide +kernel
theorem dX0_answerWorth_63 : decode cX0_answerWorth 63 = .ok (.istore 9, 2) := by decide +kernel
theorem dX0_answerWorth_65 : decode cX0_answerWorth 65 = .ok (.iload_n 1, 1) := by decide +kernel
theorem dX0_answerWorth_66 : decode cX0_answerWorth 66 = .ok (.iconst 2, 1) := by decide +kernel
theorem dX0_answerWorth_67 : decode cX0_answerWorth 67 = .ok (.if_icmp .ne 7, 3) := by decide +kernel
theorem dX0_answerWorth_70 : decode cX0_answerWorth 70 = .ok (.iconst 0, 1) := by decide +kernel
theorem dX0_answerWorth_71 : decode cX0_answerWorth 71 = .ok (.goto 14, 3) := by decide +kernel
theorem dX0_answerWorth_74 : decode cX0_answerWorth 74 = .ok (.iload_n 1, 1) := by decide +kernel
theorem dX0_answerWorth_75 : decode cX0_answerWorth 75 = .ok (.iconst 1, 1) := by decide +kernel
theorem dX0_answerWorth_76 : decode cX0_answerWorth 76 = .ok (.if_icmp .ne 7, 3) := by decide +kernel
theorem dX0_answerWorth_79 : decode cX0_answerWorth 79 = .ok (.iload_n 3, 1) := by decide +kernel
theorem dX0_answerWorth_80 : decode cX0_answerWorth 80 = .ok (.goto 5, 3) := by decide +kernel
theorem dX0_answerWorth_83 : decode cX0_answerWorth 83 = .ok (.iload 9, 2) := by decide +kernel
theorem dX0_answerWorth_85 : decode cX0_answerWorth 85 = .ok (.istore 10, 2) := by decide +kernel
theorem dX0_answerWorth_87 : decode cX0_answerWorth 87 = .ok (.iload_n 1, 1) := by decide +kernel
theorem dX0_answerWorth_88 : decode cX0_answerWorth 88 = .ok (.iconst 1, 1) := by decide +kernel
theorem dX0_answerWorth_89 : decode cX0_answerWorth 89 = .ok (.if_icmp .ne 7, 3) := by decide +kernel
theorem dX0_answerWorth_92 : decode cX0_answerWorth 92 = .ok (.iload_n 3, 1) := by decide +kernel
theorem dX0_answerWorth_93 : decode cX0_answerWorth 93 = .ok (.goto 5, 3) := by decide +kernel
theorem dX0_answerWorth_96 : decode cX0_answerWorth 96 = .ok (.iload 9, 2) := by decide +kernel
theorem dX0_answerWorth_98 : decode cX0_answerWorth 98 = .ok (.istore 11, 2) := by decide +kernel
theorem dX0_answerWorth_100 : decode cX0_answerWorth 100 = .ok (.iconst 4, 1) := by decide +kernel
theorem dX0_answerWorth_101 : decode cX0_answerWorth 101 = .ok (.istore 12, 2) := by decide +kernel
theorem dX0_answerWorth_103 : decode cX0_answerWorth 103 = .ok (.iload 10, 2) := by decide +kernel
theorem dX0_answerWorth_105 : decode cX0_answerWorth 105 = .ok (.istore 13, 2) := by decide +kernel
theorem dX0_answerWorth_107 : decode cX0_answerWorth 107 = .ok (.iload 13, 2) := by decide +kernel
theorem dX0_answerWorth_109 : decode cX0_answerWorth 109 = .ok (.iload 11, 2) := by decide +kernel
theorem dX0_answerWorth_111 : decode cX0_answerWorth 111 = .ok (.if_icmp .gt 40, 3) := by decide +kernel
theorem dX0_answerWorth_114 : decode cX0_answerWorth 114 = .ok (.iload 5, 2) := by decide +kernel
theorem dX0_answerWorth_116 : decode cX0_answerWorth 116 = .ok (.iload 13, 2) := by decide +kernel
theorem dX0_answerWorth_118 : decode cX0_answerWorth 118 = .ok (.invokestatic 91, 3) := by decide +kernel
theorem dX0_answerWorth_121 : decode cX0_answerWorth 121 = .ok (.istore 14, 2) := by decide +kernel
theorem dX0_answerWorth_123 : decode cX0_answerWorth 123 = .ok (.iload 12, 2) := by decide +kernel
theorem dX0_answerWorth_125 : decode cX0_answerWorth 125 = .ok (.aload_n 0, 1) := by decide +kernel
theorem dX0_answerWorth_126 : decode cX0_answerWorth 126 = .ok (.iload_n 1, 1) := by decide +kernel
theorem dX0_answerWorth_127 : decode cX0_answerWorth 127 = .ok (.iload 7, 2) := by decide +kernel
theorem dX0_answerWorth_129 : decode cX0_answerWorth 129 = .ok (.iload 8, 2) := by decide +kernel
theorem dX0_answerWorth_131 : decode cX0_answerWorth 131 = .ok (.iload 14, 2) := by decide +kernel
theorem dX0_answerWorth_133 : decode cX0_answerWorth 133 = .ok (.iload 6, 2) := by decide +kernel
theorem dX0_answerWorth_135 : decode cX0_answerWorth 135 = .ok (.iconst 1, 1) := by decide +kernel
theorem dX0_answerWorth_136 : decode cX0_answerWorth 136 = .ok (.isub, 1) := by decide +kernel
theorem dX0_answerWorth_137 : decode cX0_answerWorth 137 = .ok (.invokevirtual 29, 3) := by decide +kernel
theorem dX0_answerWorth_140 : decode cX0_answerWorth 140 = .ok (.invokestatic 67, 3) := by decide +kernel
theorem dX0_answerWorth_143 : decode cX0_answerWorth 143 = .ok (.istore 12, 2) := by decide +kernel
theorem dX0_answerWorth_145 : decode cX0_answerWorth 145 = .ok (.iinc 13 1, 3) := by decide +kernel
theorem dX0_answerWorth_148 : decode cX0_answerWorth 148 = .ok (.goto (-41), 3) := by decide +kernel
theorem dX0_answerWorth_151 : decode cX0_answerWorth 151 = .ok (.iload 12, 2) := by decide +kernel
theorem dX0_answerWorth_153 : decode cX0_answerWorth 153 = .ok (.ireturn, 1) := by decide +kernel
theorem dX0_agree_0 : decode cX0_agree 0 = .ok (.aload_n 0, 1) := by decide +kernel
theorem dX0_agree_1 : decode cX0_agree 1 = .ok (.getfield 9, 3) := by decide +kernel
theorem dX0_agree_4 : decode cX0_agree 4 = .ok (.getfield 85, 3) := by decide +kernel
theorem dX0_agree_7 : decode cX0_agree 7 = .ok (.iload_n 1, 1) := by decide +kernel
theorem dX0_agree_8 : decode cX0_agree 8 = .ok (.invokestatic 60, 3) := by decide +kernel
theorem dX0_agree_11 : decode cX0_agree 11 = .ok (.aload_n 0, 1) := by decide +kernel
theorem dX0_agree_12 : decode cX0_agree 12 = .ok (.getfield 9, 3) := by decide +kernel
theorem dX0_agree_15 : decode cX0_agree 15 = .ok (.getfield 85, 3) := by decide +kernel
theorem dX0_agree_18 : decode cX0_agree 18 = .ok (.iload_n 2, 1) := by decide +kernel
theorem dX0_agree_19 : decode cX0_agree 19 = .ok (.invokestatic 60, 3) := by decide +kernel
theorem dX0_agree_22 : decode cX0_agree 22 = .ok (.if_icmp .eq 5, 3) := by decide +kernel
theorem dX0_agree_25 : decode cX0_agree 25 = .ok (.iconst 0, 1) := by decide +kernel
theorem dX0_agree_26 : decode cX0_agree 26 = .ok (.ireturn, 1) := by decide +kernel
theorem dX0_agree_27 : decode cX0_agree 27 = .ok (.aload_n 0, 1) := by decide +kernel
theorem dX0_agree_28 : decode cX0_agree 28 = .ok (.getfield 9, 3) := by decide +kernel
theorem dX0_agree_31 : decode cX0_agree 31 = .ok (.getfield 94, 3) := by decide +kernel
theorem dX0_agree_34 : decode cX0_agree 34 = .ok (.iload_n 1, 1) := by decide +kernel
theorem dX0_agree_35 : decode cX0_agree 35 = .ok (.invokestatic 60, 3) := by decide +kernel
theorem dX0_agree_38 : decode cX0_agree 38 = .ok (.istore 4, 2) := by decide +kernel
theorem dX0_agree_40 : decode cX0_agree 40 = .ok (.aload_n 0, 1) := by decide +kernel
theorem dX0_agree_41 : decode cX0_agree 41 = .ok (.getfield 9, 3) := by decide +kernel
theorem dX0_agree_44 : decode cX0_agree 44 = .ok (.getfield 97, 3) := by decide +kernel
theorem dX0_agree_47 : decode cX0_agree 47 = .ok (.iload_n 1, 1) := by decide +kernel
theorem dX0_agree_48 : decode cX0_agree 48 = .ok (.invokestatic 60, 3) := by decide +kernel
theorem dX0_agree_51 : decode cX0_agree 51 = .ok (.istore 5, 2) := by decide +kernel
theorem dX0_agree_53 : decode cX0_agree 53 = .ok (.iload 4, 2) := by decide +kernel
theorem dX0_agree_55 : decode cX0_agree 55 = .ok (.aload_n 0, 1) := by decide +kernel
theorem dX0_agree_56 : decode cX0_agree 56 = .ok (.getfield 9, 3) := by decide +kernel
theorem dX0_agree_59 : decode cX0_agree 59 = .ok (.getfield 94, 3) := by decide +kernel
theorem dX0_agree_62 : decode cX0_agree 62 = .ok (.iload_n 2, 1) := by decide +kernel
theorem dX0_agree_63 : decode cX0_agree 63 = .ok (.invokestatic 60, 3) := by decide +kernel
theorem dX0_agree_66 : decode cX0_agree 66 = .ok (.iload_n 3, 1) := by decide +kernel
theorem dX0_agree_67 : decode cX0_agree 67 = .ok (.invokestatic 100, 3) := by decide +kernel
theorem dX0_agree_70 : decode cX0_agree 70 = .ok (.ifCond .eq 27, 3) := by decide +kernel
theorem dX0_agree_73 : decode cX0_agree 73 = .ok (.iload 5, 2) := by decide +kernel
theorem dX0_agree_75 : decode cX0_agree 75 = .ok (.aload_n 0, 1) := by decide +kernel
theorem dX0_agree_76 : decode cX0_agree 76 = .ok (.getfield 9, 3) := by decide +kernel
theorem dX0_agree_79 : decode cX0_agree 79 = .ok (.getfield 97, 3) := by decide +kernel
theorem dX0_agree_82 : decode cX0_agree 82 = .ok (.iload_n 2, 1) := by decide +kernel
theorem dX0_agree_83 : decode cX0_agree 83 = .ok (.invokestatic 60, 3) := by decide +kernel
theorem dX0_agree_86 : decode cX0_agree 86 = .ok (.iload_n 3, 1) := by decide +kernel
theorem dX0_agree_87 : decode cX0_agree 87 = .ok (.invokestatic 100, 3) := by decide +kernel
theorem dX0_agree_90 : decode cX0_agree 90 = .ok (.ifCond .eq 7, 3) := by decide +kernel
theorem dX0_agree_93 : decode cX0_agree 93 = .ok (.iconst 1, 1) := by decide +kernel
theorem dX0_agree_94 : decode cX0_agree 94 = .ok (.goto 4, 3) := by decide +kernel
theorem dX0_agree_97 : decode cX0_agree 97 = .ok (.iconst 0, 1) := by decide +kernel
theorem dX0_agree_98 : decode cX0_agree 98 = .ok (.ireturn, 1) := by decide +kernel
theorem dX0_isChosenWith_0 : decode cX0_isChosenWith 0 = .ok (.iload_n 1, 1) := by decide +kernel
theorem dX0_isChosenWith_1 : decode cX0_isChosenWith 1 = .ok (.iconst 1, 1) := by decide +kernel
theorem dX0_isChosenWith_2 : decode cX0_isChosenWith 2 = .ok (.if_icmp .ne 22, 3) := by decide +kernel
theorem dX0_isChosenWith_5 : decode cX0_isChosenWith 5 = .ok (.aload_n 0, 1) := by decide +kernel
theorem dX0_isChosenWith_6 : decode cX0_isChosenWith 6 = .ok (.getfield 9, 3) := by decide +kernel
theorem dX0_isChosenWith_9 : decode cX0_isChosenWith 9 = .ok (.getfield 85, 3) := by decide +kernel
theorem dX0_isChosenWith_12 : decode cX0_isChosenWith 12 = .ok (.iload_n 2, 1) := by decide +kernel
theorem dX0_isChosenWith_13 : decode cX0_isChosenWith 13 = .ok (.invokestatic 60, 3) := by decide +kernel
theorem dX0_isChosenWith_16 : decode cX0_isChosenWith 16 = .ok (.iconst 3, 1) := by decide +kernel
theorem dX0_isChosenWith_17 : decode cX0_isChosenWith 17 = .ok (.if_icmp .ne 7, 3) := by decide +kernel
theorem dX0_isChosenWith_20 : decode cX0_isChosenWith 20 = .ok (.iconst 1, 1) := by decide +kernel
theorem dX0_isChosenWith_21 : decode cX0_isChosenWith 21 = .ok (.goto 4, 3) := by decide +kernel
theorem dX0_isChosenWith_24 : decode cX0_isChosenWith 24 = .ok (.iconst 0, 1) := by decide +kernel
theorem dX0_isChosenWith_25 : decode cX0_isChosenWith 25 = .ok (.ireturn, 1) := by decide +kernel
theorem dX0_firstChoice_0 : decode cX0_firstChoice 0 = .ok (.aload_n 0, 1) := by decide +kernel
theorem dX0_firstChoice_1 : decode cX0_firstChoice 1 = .ok (.iload_n 1, 1) := by decide +kernel
theorem dX0_firstChoice_2 : decode cX0_firstChoice 2 = .ok (.iload_n 2, 1) := by decide +kernel
theorem dX0_firstChoice_3 : decode cX0_firstChoice 3 = .ok (.invokevirtual 103, 3) := by decide +kernel
theorem dX0_firstChoice_6 : decode cX0_firstChoice 6 = .ok (.ifCond .eq 7, 3) := by decide +kernel
theorem dX0_firstChoice_9 : decode cX0_firstChoice 9 = .ok (.iconst 0, 1) := by decide +kernel
theorem dX0_firstChoice_10 : decode cX0_firstChoice 10 = .ok (.goto 5, 3) := by decide +kernel
theorem dX0_firstChoice_13 : decode cX0_firstChoice 13 = .ok (.bipush 9, 2) := by decide +kernel
theorem dX0_firstChoice_15 : decode cX0_firstChoice 15 = .ok (.ireturn, 1) := by decide +kernel
theorem dX0_lastChoice_0 : decode cX0_lastChoice 0 = .ok (.aload_n 0, 1) := by decide +kernel
theorem dX0_lastChoice_1 : decode cX0_lastChoice 1 = .ok (.iload_n 1, 1) := by decide +kernel
theorem dX0_lastChoice_2 : decode cX0_lastChoice 2 = .ok (.iload_n 2, 1) := by decide +kernel
theorem dX0_lastChoice_3 : decode cX0_lastChoice 3 = .ok (.invokevirtual 103, 3) := by decide +kernel
theorem dX0_lastChoice_6 : decode cX0_lastChoice 6 = .ok (.ifCond .eq 10, 3) := by decide +kernel
theorem dX0_lastChoice_9 : decode cX0_lastChoice 9 = .ok (.iload_n 3, 1) := by decide +kernel
theorem dX0_lastChoice_10 : decode cX0_lastChoice 10 = .ok (.invokestatic 88, 3) := by decide +kernel
theorem dX0_lastChoice_13 : decode cX0_lastChoice 13 = .ok (.goto 5, 3) := by decide +kernel
theorem dX0_lastChoice_16 : decode cX0_lastChoice 16 = .ok (.bipush 9, 2) := by decide +kernel
theorem dX0_lastChoice_18 : decode cX0_lastChoice 18 = .ok (.ireturn, 1) := by decide +kernel
theorem dX0_placeOf_0 : decode cX0_placeOf 0 = .ok (.iload_n 3, 1) := by decide +kernel
theorem dX0_placeOf_1 : decode cX0_placeOf 1 = .ok (.invokestatic 107, 3) := by decide +kernel
theorem dX0_placeOf_4 : decode cX0_placeOf 4 = .ok (.istore 4, 2) := by decide +kernel
theorem dX0_placeOf_6 : decode cX0_placeOf 6 = .ok (.iload 4, 2) := by decide +kernel
theorem dX0_placeOf_8 : decode cX0_placeOf 8 = .ok (.iconst (-1), 1) := by decide +kernel
theorem dX0_placeOf_9 : decode cX0_placeOf 9 = .ok (.if_icmp .ne 5, 3) := by decide +kernel
theorem dX0_placeOf_12 : decode cX0_placeOf 12 = .ok (.iconst (-1), 1) := by decide +kernel
theorem dX0_placeOf_13 : decode cX0_placeOf 13 = .ok (.ireturn, 1) := by decide +kernel
theorem dX0_placeOf_14 : decode cX0_placeOf 14 = .ok (.iload_n 1, 1) := by decide +kernel
theorem dX0_placeOf_15 : decode cX0_placeOf 15 = .ok (.iload_n 2, 1) := by decide +kernel
theorem dX0_placeOf_16 : decode cX0_placeOf 16 = .ok (.invokestatic 79, 3) := by decide +kernel
theorem dX0_placeOf_19 : decode cX0_placeOf 19 = .ok (.invokestatic 19, 3) := by decide +kernel
theorem dX0_placeOf_22 : decode cX0_placeOf 22 = .ok (.iload_n 1, 1) := by decide +kernel
theorem dX0_placeOf_23 : decode cX0_placeOf 23 = .ok (.iload_n 2, 1) := by decide +kernel
theorem dX0_placeOf_24 : decode cX0_placeOf 24 = .ok (.invokestatic 67, 3) := by decide +kernel
theorem dX0_placeOf_27 : decode cX0_placeOf 27 = .ok (.iconst 3, 1) := by decide +kernel
theorem dX0_placeOf_28 : decode cX0_placeOf 28 = .ok (.imul, 1) := by decide +kernel
theorem dX0_placeOf_29 : decode cX0_placeOf 29 = .ok (.iconst 5, 1) := by decide +kernel
theorem dX0_placeOf_30 : decode cX0_placeOf 30 = .ok (.imul, 1) := by decide +kernel
theorem dX0_placeOf_31 : decode cX0_placeOf 31 = .ok (.iadd, 1) := by decide +kernel
theorem dX0_placeOf_32 : decode cX0_placeOf 32 = .ok (.istore 5, 2) := by decide +kernel
theorem dX0_placeOf_34 : decode cX0_placeOf 34 = .ok (.iload 5, 2) := by decide +kernel
theorem dX0_placeOf_36 : decode cX0_placeOf 36 = .ok (.iload_n 0, 1) := by decide +kernel
theorem dX0_placeOf_37 : decode cX0_placeOf 37 = .ok (.iconst 5, 1) := by decide +kernel
theorem dX0_placeOf_38 : decode cX0_placeOf 38 = .ok (.imul, 1) := by decide +kernel
theorem dX0_placeOf_39 : decode cX0_placeOf 39 = .ok (.iadd, 1) := by decide +kernel
theorem dX0_placeOf_40 : decode cX0_placeOf 40 = .ok (.iload 4, 2) := by decide +kernel
theorem dX0_placeOf_42 : decode cX0_placeOf 42 = .ok (.iadd, 1) := by decide +kernel
theorem dX0_placeOf_43 : decode cX0_placeOf 43 = .ok (.ireturn, 1) := by decide +kernel
theorem dX0_firstPlace_0 : decode cX0_firstPlace 0 = .ok (.iload_n 0, 1) := by decide +kernel
theorem dX0_firstPlace_1 : decode cX0_firstPlace 1 = .ok (.iload_n 0, 1) := by decide +kernel
theorem dX0_firstPlace_2 : decode cX0_firstPlace 2 = .ok (.iconst 1, 1) := by decide +kernel
theorem dX0_firstPlace_3 : decode cX0_firstPlace 3 = .ok (.isub, 1) := by decide +kernel
theorem dX0_firstPlace_4 : decode cX0_firstPlace 4 = .ok (.imul, 1) := by decide +kernel
theorem dX0_firstPlace_5 : decode cX0_firstPlace 5 = .ok (.iconst 2, 1) := by decide +kernel
theorem dX0_firstPlace_6 : decode cX0_firstPlace 6 = .ok (.idiv, 1) := by decide +kernel
theorem dX0_firstPlace_7 : decode cX0_firstPlace 7 = .ok (.iconst 3, 1) := by decide +kernel
theorem dX0_firstPlace_8 : decode cX0_firstPlace 8 = .ok (.imul, 1) := by decide +kernel
theorem dX0_firstPlace_9 : decode cX0_firstPlace 9 = .ok (.iconst 5, 1) := by decide +kernel
theorem dX0_firstPlace_10 : decode cX0_firstPlace 10 = .ok (.imul, 1) := by decide +kernel
theorem dX0_firstPlace_11 : decode cX0_firstPlace 11 = .ok (.ireturn, 1) := by decide +kernel
theorem dX0_viewOf_0 : decode cX0_viewOf 0 = .ok (.iload_n 0, 1) := by decide +kernel
theorem dX0_viewOf_1 : decode cX0_viewOf 1 = .ok (.iconst 1, 1) := by decide +kernel
theorem dX0_viewOf_2 : decode cX0_viewOf 2 = .ok (.if_icmp .ne 5, 3) := by decide +kernel
theorem dX0_viewOf_5 : decode cX0_viewOf 5 = .ok (.iconst 0, 1) := by decide +kernel
theorem dX0_viewOf_6 : decode cX0_viewOf 6 = .ok (.ireturn, 1) := by decide +kernel
theorem dX0_viewOf_7 : decode cX0_viewOf 7 = .ok (.iconst 3, 1) := by decide +kernel
theorem dX0_viewOf_8 : decode cX0_viewOf 8 = .ok (.iload_n 0, 1) := by decide +kernel
theorem dX0_viewOf_9 : decode cX0_viewOf 9 = .ok (.invokestatic 110, 3) := by decide +kernel
theorem dX0_viewOf_12 : decode cX0_viewOf 12 = .ok (.istore_n 1, 1) := by decide +kernel
theorem dX0_viewOf_13 : decode cX0_viewOf 13 = .ok (.iload_n 0, 1) := by decide +kernel
theorem dX0_viewOf_14 : decode cX0_viewOf 14 = .ok (.iconst 1, 1) := by decide +kernel
theorem dX0_viewOf_15 : decode cX0_viewOf 15 = .ok (.iload_n 1, 1) := by decide +kernel
theorem dX0_viewOf_16 : decode cX0_viewOf 16 = .ok (.invokestatic 91, 3) := by decide +kernel
theorem dX0_viewOf_19 : decode cX0_viewOf 19 = .ok (.if_icmp .ne 7, 3) := by decide +kernel
theorem dX0_viewOf_22 : decode cX0_viewOf 22 = .ok (.iconst 1, 1) := by decide +kernel
theorem dX0_viewOf_23 : decode cX0_viewOf 23 = .ok (.goto 4, 3) := by decide +kernel
theorem dX0_viewOf_26 : decode cX0_viewOf 26 = .ok (.iconst 0, 1) := by decide +kernel
theorem dX0_viewOf_27 : decode cX0_viewOf 27 = .ok (.istore_n 2, 1) := by decide +kernel
theorem dX0_viewOf_28 : decode cX0_viewOf 28 = .ok (.iload_n 2, 1) := by decide +kernel
theorem dX0_viewOf_29 : decode cX0_viewOf 29 = .ok (.ifCond .eq 9, 3) := by decide +kernel
theorem dX0_viewOf_32 : decode cX0_viewOf 32 = .ok (.iconst 1, 1) := by decide +kernel
theorem dX0_viewOf_33 : decode cX0_viewOf 33 = .ok (.iload_n 1, 1) := by decide +kernel
theorem dX0_viewOf_34 : decode cX0_viewOf 34 = .ok (.iadd, 1) := by decide +kernel
theorem dX0_viewOf_35 : decode cX0_viewOf 35 = .ok (.goto 4, 3) := by decide +kernel
theorem dX0_viewOf_38 : decode cX0_viewOf 38 = .ok (.iconst (-1), 1) := by decide +kernel
theorem dX0_viewOf_39 : decode cX0_viewOf 39 = .ok (.ireturn, 1) := by decide +kernel
theorem dX1_with_0 : decode cX1_with 0 = .ok (.iload_n 0, 1) := by decide +kernel
theorem dX1_with_1 : decode cX1_with 1 = .ok (.iconst 3, 1) := by decide +kernel
theorem dX1_with_2 : decode cX1_with 2 = .ok (.ishl, 1) := by decide +kernel
theorem dX1_with_3 : decode cX1_with 3 = .ok (.iload_n 1, 1) := by decide +kernel
theorem dX1_with_4 : decode cX1_with 4 = .ok (.ior, 1) := by decide +kernel
theorem dX1_with_5 : decode cX1_with 5 = .ok (.ireturn, 1) := by decide +kernel
theorem dX1_valueOf_0 : decode cX1_valueOf 0 = .ok (.iload_n 0, 1) := by decide +kernel
theorem dX1_valueOf_1 : decode cX1_valueOf 1 = .ok (.iconst 3, 1) := by decide +kernel
theorem dX1_valueOf_2 : decode cX1_valueOf 2 = .ok (.if_icmp .ge 5, 3) := by decide +kernel
theorem dX1_valueOf_5 : decode cX1_valueOf 5 = .ok (.iload_n 0, 1) := by decide +kernel
theorem dX1_valueOf_6 : decode cX1_valueOf 6 = .ok (.ireturn, 1) := by decide +kernel
theorem dX1_valueOf_7 : decode cX1_valueOf 7 = .ok (.iload_n 1, 1) := by decide +kernel
theorem dX1_valueOf_8 : decode cX1_valueOf 8 = .ok (.iconst 3, 1) := by decide +kernel
theorem dX1_valueOf_9 : decode cX1_valueOf 9 = .ok (.iload_n 0, 1) := by decide +kernel
theorem dX1_valueOf_10 : decode cX1_valueOf 10 = .ok (.iconst 3, 1) := by decide +kernel
theorem dX1_valueOf_11 : decode cX1_valueOf 11 = .ok (.isub, 1) := by decide +kernel
theorem dX1_valueOf_12 : decode cX1_valueOf 12 = .ok (.imul, 1) := by decide +kernel
theorem dX1_valueOf_13 : decode cX1_valueOf 13 = .ok (.ishr, 1) := by decide +kernel
theorem dX1_valueOf_14 : decode cX1_valueOf 14 = .ok (.bipush 7, 2) := by decide +kernel
theorem dX1_valueOf_16 : decode cX1_valueOf 16 = .ok (.iand, 1) := by decide +kernel
theorem dX1_valueOf_17 : decode cX1_valueOf 17 = .ok (.ireturn, 1) := by decide +kernel
theorem dX1_areEqual_0 : decode cX1_areEqual 0 = .ok (.iload_n 0, 1) := by decide +kernel
theorem dX1_areEqual_1 : decode cX1_areEqual 1 = .ok (.iload_n 2, 1) := by decide +kernel
theorem dX1_areEqual_2 : decode cX1_areEqual 2 = .ok (.invokestatic 11, 3) := by decide +kernel
theorem dX1_areEqual_5 : decode cX1_areEqual 5 = .ok (.iload_n 1, 1) := by decide +kernel
theorem dX1_areEqual_6 : decode cX1_areEqual 6 = .ok (.iload_n 2, 1) := by decide +kernel
theorem dX1_areEqual_7 : decode cX1_areEqual 7 = .ok (.invokestatic 11, 3) := by decide +kernel
theorem dX1_areEqual_10 : decode cX1_areEqual 10 = .ok (.if_icmp .ne 7, 3) := by decide +kernel
theorem dX1_areEqual_13 : decode cX1_areEqual 13 = .ok (.iconst 1, 1) := by decide +kernel
theorem dX1_areEqual_14 : decode cX1_areEqual 14 = .ok (.goto 4, 3) := by decide +kernel
theorem dX1_areEqual_17 : decode cX1_areEqual 17 = .ok (.iconst 0, 1) := by decide +kernel
theorem dX1_areEqual_18 : decode cX1_areEqual 18 = .ok (.ireturn, 1) := by decide +kernel
theorem dX1_nextFresh_0 : decode cX1_nextFresh 0 = .ok (.iconst 3, 1) := by decide +kernel
theorem dX1_nextFresh_1 : decode cX1_nextFresh 1 = .ok (.istore_n 1, 1) := by decide +kernel
theorem dX1_nextFresh_2 : decode cX1_nextFresh 2 = .ok (.iconst 3, 1) := by decide +kernel
theorem dX1_nextFresh_3 : decode cX1_nextFresh 3 = .ok (.istore_n 2, 1) := by decide +kernel
theorem dX1_nextFresh_4 : decode cX1_nextFresh 4 = .ok (.iload_n 2, 1) := by decide +kernel
theorem dX1_nextFresh_5 : decode cX1_nextFresh 5 = .ok (.bipush 6, 2) := by decide +kernel
theorem dX1_nextFresh_7 : decode cX1_nextFresh 7 = .ok (.if_icmp .ge 21, 3) := by decide +kernel
theorem dX1_nextFresh_10 : decode cX1_nextFresh 10 = .ok (.iload_n 1, 1) := by decide +kernel
theorem dX1_nextFresh_11 : decode cX1_nextFresh 11 = .ok (.iload_n 2, 1) := by decide +kernel
theorem dX1_nextFresh_12 : decode cX1_nextFresh 12 = .ok (.iload_n 0, 1) := by decide +kernel
theorem dX1_nextFresh_13 : decode cX1_nextFresh 13 = .ok (.invokestatic 11, 3) := by decide +kernel
theorem dX1_nextFresh_16 : decode cX1_nextFresh 16 = .ok (.iconst 1, 1) := by decide +kernel
theorem dX1_nextFresh_17 : decode cX1_nextFresh 17 = .ok (.iadd, 1) := by decide +kernel
theorem dX1_nextFresh_18 : decode cX1_nextFresh 18 = .ok (.invokestatic 15, 3) := by decide +kernel
theorem dX1_nextFresh_21 : decode cX1_nextFresh 21 = .ok (.istore_n 1, 1) := by decide +kernel
theorem dX1_nextFresh_22 : decode cX1_nextFresh 22 = .ok (.iinc 2 1, 3) := by decide +kernel
theorem dX1_nextFresh_25 : decode cX1_nextFresh 25 = .ok (.goto (-21), 3) := by decide +kernel
theorem dX1_nextFresh_28 : decode cX1_nextFresh 28 = .ok (.iload_n 1, 1) := by decide +kernel
theorem dX1_nextFresh_29 : decode cX1_nextFresh 29 = .ok (.ireturn, 1) := by decide +kernel
theorem dX2_init_0 : decode cX2_init 0 = .ok (.aload_n 0, 1) := by decide +kernel
theorem dX2_init_1 : decode cX2_init 1 = .ok (.invokespecial 3, 3) := by decide +kernel
theorem dX2_init_4 : decode cX2_init 4 = .ok (.aload_n 0, 1) := by decide +kernel
theorem dX2_init_5 : decode cX2_init 5 = .ok (.bipush 24, 2) := by decide +kernel
theorem dX2_init_7 : decode cX2_init 7 = .ok (.newarray .int, 2) := by decide +kernel
theorem dX2_init_9 : decode cX2_init 9 = .ok (.putfield 9, 3) := by decide +kernel
theorem dX2_init_12 : decode cX2_init 12 = .ok (.aload_n 0, 1) := by decide +kernel
theorem dX2_init_13 : decode cX2_init 13 = .ok (.bipush 24, 2) := by decide +kernel
theorem dX2_init_15 : decode cX2_init 15 = .ok (.newarray .int, 2) := by decide +kernel
theorem dX2_init_17 : decode cX2_init 17 = .ok (.putfield 15, 3) := by decide +kernel
theorem dX2_init_20 : decode cX2_init 20 = .ok (.aload_n 0, 1) := by decide +kernel
theorem dX2_init_21 : decode cX2_init 21 = .ok (.bipush 24, 2) := by decide +kernel
theorem dX2_init_23 : decode cX2_init 23 = .ok (.newarray .int, 2) := by decide +kernel
theorem dX2_init_25 : decode cX2_init 25 = .ok (.putfield 18, 3) := by decide +kernel
theorem dX2_init_28 : decode cX2_init 28 = .ok (.aload_n 0, 1) := by decide +kernel
theorem dX2_init_29 : decode cX2_init 29 = .ok (.bipush 24, 2) := by decide +kernel
theorem dX2_init_31 : decode cX2_init 31 = .ok (.newarray .int, 2) := by decide +kernel
theorem dX2_init_33 : decode cX2_init 33 = .ok (.putfield 21, 3) := by decide +kernel
theorem dX2_init_36 : decode cX2_init 36 = .ok (.aload_n 0, 1) := by decide +kernel
theorem dX2_init_37 : decode cX2_init 37 = .ok (.bipush 24, 2) := by decide +kernel
theorem dX2_init_39 : decode cX2_init 39 = .ok (.newarray .int, 2) := by decide +kernel
theorem dX2_init_41 : decode cX2_init 41 = .ok (.putfield 24, 3) := by decide +kernel
theorem dX2_init_44 : decode cX2_init 44 = .ok (.aload_n 0, 1) := by decide +kernel
theorem dX2_init_45 : decode cX2_init 45 = .ok (.bipush 24, 2) := by decide +kernel
theorem dX2_init_47 : decode cX2_init 47 = .ok (.newarray .int, 2) := by decide +kernel
theorem dX2_init_49 : decode cX2_init 49 = .ok (.putfield 27, 3) := by decide +kernel
theorem dX2_init_52 : decode cX2_init 52 = .ok (.aload_n 0, 1) := by decide +kernel
theorem dX2_init_53 : decode cX2_init 53 = .ok (.bipush 24, 2) := by decide +kernel
theorem dX2_init_55 : decode cX2_init 55 = .ok (.newarray .int, 2) := by decide +kernel
theorem dX2_init_57 : decode cX2_init 57 = .ok (.putfield 30, 3) := by decide +kernel
theorem dX2_init_60 : decode cX2_init 60 = .ok (.aload_n 0, 1) := by decide +kernel
theorem dX2_init_61 : decode cX2_init 61 = .ok (.bipush 24, 2) := by decide +kernel
theorem dX2_init_63 : decode cX2_init 63 = .ok (.newarray .int, 2) := by decide +kernel
theorem dX2_init_65 : decode cX2_init 65 = .ok (.putfield 33, 3) := by decide +kernel
theorem dX2_init_68 : decode cX2_init 68 = .ok (.aload_n 0, 1) := by decide +kernel
theorem dX2_init_69 : decode cX2_init 69 = .ok (.invokestatic 36, 3) := by decide +kernel
theorem dX2_init_72 : decode cX2_init 72 = .ok (.putfield 40, 3) := by decide +kernel
theorem dX2_init_75 : decode cX2_init 75 = .ok (.aload_n 0, 1) := by decide +kernel
theorem dX2_init_76 : decode cX2_init 76 = .ok (.bipush 72, 2) := by decide +kernel
theorem dX2_init_78 : decode cX2_init 78 = .ok (.newarray .int, 2) := by decide +kernel
theorem dX2_init_80 : decode cX2_init 80 = .ok (.putfield 43, 3) := by decide +kernel
theorem dX2_init_83 : decode cX2_init 83 = .ok (.aload_n 0, 1) := by decide +kernel
theorem dX2_init_84 : decode cX2_init 84 = .ok (.bipush 72, 2) := by decide +kernel
theorem dX2_init_86 : decode cX2_init 86 = .ok (.newarray .long, 2) := by decide +kernel
theorem dX2_init_88 : decode cX2_init 88 = .ok (.putfield 46, 3) := by decide +kernel
theorem dX2_init_91 : decode cX2_init 91 = .ok (.aload_n 0, 1) := by decide +kernel
theorem dX2_init_92 : decode cX2_init 92 = .ok (.iconst 1, 1) := by decide +kernel
theorem dX2_init_93 : decode cX2_init 93 = .ok (.putfield 50, 3) := by decide +kernel
theorem dX2_init_96 : decode cX2_init 96 = .ok (.return_, 1) := by decide +kernel
theorem dX2_lengthsOfNew_0 : decode cX2_lengthsOfNew 0 = .ok (.bipush 24, 2) := by decide +kernel
theorem dX2_lengthsOfNew_2 : decode cX2_lengthsOfNew 2 = .ok (.newarray .int, 2) := by decide +kernel
theorem dX2_lengthsOfNew_4 : decode cX2_lengthsOfNew 4 = .ok (.astore_n 0, 1) := by decide +kernel
theorem dX2_lengthsOfNew_5 : decode cX2_lengthsOfNew 5 = .ok (.aload_n 0, 1) := by decide +kernel
theorem dX2_lengthsOfNew_6 : decode cX2_lengthsOfNew 6 = .ok (.iconst 0, 1) := by decide +kernel
theorem dX2_lengthsOfNew_7 : decode cX2_lengthsOfNew 7 = .ok (.iconst 0, 1) := by decide +kernel
theorem dX2_lengthsOfNew_8 : decode cX2_lengthsOfNew 8 = .ok (.invokestatic 54, 3) := by decide +kernel
theorem dX2_lengthsOfNew_11 : decode cX2_lengthsOfNew 11 = .ok (.invokevirtual 58, 3) := by decide +kernel
theorem dX2_lengthsOfNew_14 : decode cX2_lengthsOfNew 14 = .ok (.invokestatic 64, 3) := by decide +kernel
theorem dX2_lengthsOfNew_17 : decode cX2_lengthsOfNew 17 = .ok (.aload_n 0, 1) := by decide +kernel
theorem dX2_lengthsOfNew_18 : decode cX2_lengthsOfNew 18 = .ok (.areturn, 1) := by decide +kernel
theorem dX2_holds_0 : decode cX2_holds 0 = .ok (.iload_n 1, 1) := by decide +kernel
theorem dX2_holds_1 : decode cX2_holds 1 = .ok (.ifCond .lt 15, 3) := by decide +kernel
theorem dX2_holds_4 : decode cX2_holds 4 = .ok (.iload_n 1, 1) := by decide +kernel
theorem dX2_holds_5 : decode cX2_holds 5 = .ok (.aload_n 0, 1) := by decide +kernel
theorem dX2_holds_6 : decode cX2_holds 6 = .ok (.getfield 50, 3) := by decide +kernel
theorem dX2_holds_9 : decode cX2_holds 9 = .ok (.if_icmp .ge 7, 3) := by decide +kernel
theorem dX2_holds_12 : decode cX2_holds 12 = .ok (.iconst 1, 1) := by decide +kernel
theorem dX2_holds_13 : decode cX2_holds 13 = .ok (.goto 4, 3) := by decide +kernel
theorem dX2_holds_16 : decode cX2_holds 16 = .ok (.iconst 0, 1) := by decide +kernel
theorem dX2_holds_17 : decode cX2_holds 17 = .ok (.ireturn, 1) := by decide +kernel
theorem dX2_isClosed_0 : decode cX2_isClosed 0 = .ok (.aload_n 0, 1) := by decide +kernel
theorem dX2_isClosed_1 : decode cX2_isClosed 1 = .ok (.getfield 33, 3) := by decide +kernel
theorem dX2_isClosed_4 : decode cX2_isClosed 4 = .ok (.iload_n 1, 1) := by decide +kernel
theorem dX2_isClosed_5 : decode cX2_isClosed 5 = .ok (.invokestatic 68, 3) := by decide +kernel
theorem dX2_isClosed_8 : decode cX2_isClosed 8 = .ok (.ifCond .ne 7, 3) := by decide +kernel
theorem dX2_isClosed_11 : decode cX2_isClosed 11 = .ok (.iconst 1, 1) := by decide +kernel
theorem dX2_isClosed_12 : decode cX2_isClosed 12 = .ok (.goto 4, 3) := by decide +kernel
theorem dX2_isClosed_15 : decode cX2_isClosed 15 = .ok (.iconst 0, 1) := by decide +kernel
theorem dX2_isClosed_16 : decode cX2_isClosed 16 = .ok (.ireturn, 1) := by decide +kernel
theorem dX2_isAction_0 : decode cX2_isAction 0 = .ok (.iload_n 0, 1) := by decide +kernel
theorem dX2_isAction_1 : decode cX2_isAction 1 = .ok (.iconst 1, 1) := by decide +kernel
theorem dX2_isAction_2 : decode cX2_isAction 2 = .ok (.if_icmp .eq 13, 3) := by decide +kernel
theorem dX2_isAction_5 : decode cX2_isAction 5 = .ok (.iload_n 0, 1) := by decide +kernel
theorem dX2_isAction_6 : decode cX2_isAction 6 = .ok (.iconst 2, 1) := by decide +kernel
theorem dX2_isAction_7 : decode cX2_isAction 7 = .ok (.if_icmp .eq 8, 3) := by decide +kernel
theorem dX2_isAction_10 : decode cX2_isAction 10 = .ok (.iload_n 0, 1) := by decide +kernel
theorem dX2_isAction_11 : decode cX2_isAction 11 = .ok (.iconst 3, 1) := by decide +kernel
theorem dX2_isAction_12 : decode cX2_isAction 12 = .ok (.if_icmp .ne 7, 3) := by decide +kernel
theorem dX2_isAction_15 : decode cX2_isAction 15 = .ok (.iconst 1, 1) := by decide +kernel
theorem dX2_isAction_16 : decode cX2_isAction 16 = .ok (.goto 4, 3) := by decide +kernel
theorem dX2_isAction_19 : decode cX2_isAction 19 = .ok (.iconst 0, 1) := by decide +kernel
theorem dX2_isAction_20 : decode cX2_isAction 20 = .ok (.ireturn, 1) := by decide +kernel
theorem dX2_partsOfKind_0 : decode cX2_partsOfKind 0 = .ok (.iload_n 0, 1) := by decide +kernel
theorem dX2_partsOfKind_1 : decode cX2_partsOfKind 1 = .ok (.ifCond .ne 5, 3) := by decide +kernel
theorem dX2_partsOfKind_4 : decode cX2_partsOfKind 4 = .ok (.iconst 0, 1) := by decide +kernel
theorem dX2_partsOfKind_5 : decode cX2_partsOfKind 5 = .ok (.ireturn, 1) := by decide +kernel
theorem dX2_partsOfKind_6 : decode cX2_partsOfKind 6 = .ok (.iload_n 0, 1) := by decide +kernel
theorem dX2_partsOfKind_7 : decode cX2_partsOfKind 7 = .ok (.iconst 5, 1) := by decide +kernel
theorem dX2_partsOfKind_8 : decode cX2_partsOfKind 8 = .ok (.if_icmp .ne 7, 3) := by decide +kernel
theorem dX2_partsOfKind_11 : decode cX2_partsOfKind 11 = .ok (.iconst 2, 1) := by decide +kernel
theorem dX2_partsOfKind_12 : decode cX2_partsOfKind 12 = .ok (.goto 4, 3) := by decide +kernel
theorem dX2_partsOfKind_15 : decode cX2_partsOfKind 15 = .ok (.iconst 1, 1) := by decide +kernel
theorem dX2_partsOfKind_16 : decode cX2_partsOfKind 16 = .ok (.ireturn, 1) := by decide +kernel
theorem dX2_build_0 : decode cX2_build 0 = .ok (.aload_n 0, 1) := by decide +kernel
theorem dX2_build_1 : decode cX2_build 1 = .ok (.getfield 27, 3) := by decide +kernel
theorem dX2_build_4 : decode cX2_build 4 = .ok (.iload 4, 2) := by decide +kernel
theorem dX2_build_6 : decode cX2_build 6 = .ok (.invokestatic 68, 3) := by decide +kernel
theorem dX2_build_9 : decode cX2_build 9 = .ok (.aload_n 0, 1) := by decide +kernel
theorem dX2_build_10 : decode cX2_build 10 = .ok (.getfield 27, 3) := by decide +kernel
theorem dX2_build_13 : decode cX2_build 13 = .ok (.iload 5, 2) := by decide +kernel
theorem dX2_build_15 : decode cX2_build 15 = .ok (.invokestatic 68, 3) := by decide +kernel
theorem dX2_build_18 : decode cX2_build 18 = .ok (.invokestatic 72, 3) := by decide +kernel
theorem dX2_build_21 : decode cX2_build 21 = .ok (.iload_n 1, 1) := by decide +kernel
theorem dX2_build_22 : decode cX2_build 22 = .ok (.invokestatic 78, 3) := by decide +kernel
theorem dX2_build_25 : decode cX2_build 25 = .ok (.ifCond .eq 7, 3) := by decide +kernel
theorem dX2_build_28 : decode cX2_build 28 = .ok (.iconst 1, 1) := by decide +kernel
theorem dX2_build_29 : decode cX2_build 29 = .ok (.goto 4, 3) := by decide +kernel
theorem dX2_build_32 : decode cX2_build 32 = .ok (.iconst 0, 1) := by decide +kernel
theorem dX2_build_33 : decode cX2_build 33 = .ok (.iadd, 1) := by decide +kernel
theorem dX2_build_34 : decode cX2_build 34 = .ok (.istore 6, 2) := by decide +kernel
theorem dX2_build_36 : decode cX2_build 36 = .ok (.iload_n 1, 1) := by decide +kernel
theorem dX2_build_37 : decode cX2_build 37 = .ok (.invokestatic 78, 3) := by decide +kernel
theorem dX2_build_40 : decode cX2_build 40 = .ok (.ifCond .eq 7, 3) := by decide +kernel
theorem dX2_build_43 : decode cX2_build 43 = .ok (.iconst 1, 1) := by decide +kernel
theorem dX2_build_44 : decode cX2_build 44 = .ok (.goto 22, 3) := by decide +kernel
theorem dX2_build_47 : decode cX2_build 47 = .ok (.aload_n 0, 1) := by decide +kernel
theorem dX2_build_48 : decode cX2_build 48 = .ok (.getfield 30, 3) := by decide +kernel
theorem dX2_build_51 : decode cX2_build 51 = .ok (.iload 4, 2) := by decide +kernel
theorem dX2_build_53 : decode cX2_build 53 = .ok (.invokestatic 68, 3) := by decide +kernel
theorem dX2_build_56 : decode cX2_build 56 = .ok (.aload_n 0, 1) := by decide +kernel
theorem dX2_build_57 : decode cX2_build 57 = .ok (.getfield 30, 3) := by decide +kernel
theorem dX2_build_60 : decode cX2_build 60 = .ok (.iload 5, 2) := by decide +kernel
theorem dX2_build_62 : decode cX2_build 62 = .ok (.invokestatic 68, 3) := by decide +kernel
theorem dX2_build_65 : decode cX2_build 65 = .ok (.iadd, 1) := by decide +kernel
theorem dX2_build_66 : decode cX2_build 66 = .ok (.istore 7, 2) := by decide +kernel
theorem dX2_build_68 : decode cX2_build 68 = .ok (.aload_n 0, 1) := by decide +kernel
theorem dX2_build_69 : decode cX2_build 69 = .ok (.getfield 50, 3) := by decide +kernel
theorem dX2_build_72 : decode cX2_build 72 = .ok (.bipush 24, 2) := by decide +kernel
theorem dX2_build_74 : decode cX2_build 74 = .ok (.if_icmp .ge 15, 3) := by decide +kernel
theorem dX2_build_77 : decode cX2_build 77 = .ok (.iload 6, 2) := by decide +kernel
theorem dX2_build_79 : decode cX2_build 79 = .ok (.iconst 3, 1) := by decide +kernel
theorem dX2_build_80 : decode cX2_build 80 = .ok (.if_icmp .gt 9, 3) := by decide +kernel
theorem dX2_build_83 : decode cX2_build 83 = .ok (.iload 7, 2) := by decide +kernel
theorem dX2_build_85 : decode cX2_build 85 = .ok (.iconst 3, 1) := by decide +kernel
theorem dX2_build_86 : decode cX2_build 86 = .ok (.if_icmp .le 6, 3) := by decide +kernel
theorem dX2_build_89 : decode cX2_build 89 = .ok (.bipush (-3), 2) := by decide +kernel
theorem dX2_build_91 : decode cX2_build 91 = .ok (.ireturn, 1) := by decide +kernel
theorem dX2_build_92 : decode cX2_build 92 = .ok (.aload_n 0, 1) := by decide +kernel
theorem dX2_build_93 : decode cX2_build 93 = .ok (.getfield 50, 3) := by decide +kernel
theorem dX2_build_96 : decode cX2_build 96 = .ok (.istore 8, 2) := by decide +kernel
theorem dX2_build_98 : decode cX2_build 98 = .ok (.aload_n 0, 1) := by decide +kernel
theorem dX2_build_99 : decode cX2_build 99 = .ok (.iload 8, 2) := by decide +kernel
theorem dX2_build_101 : decode cX2_build 101 = .ok (.iconst 1, 1) := by decide +kernel
theorem dX2_build_102 : decode cX2_build 102 = .ok (.iadd, 1) := by decide +kernel
theorem dX2_build_103 : decode cX2_build 103 = .ok (.putfield 50, 3) := by decide +kernel
theorem dX2_build_106 : decode cX2_build 106 = .ok (.aload_n 0, 1) := by decide +kernel
theorem dX2_build_107 : decode cX2_build 107 = .ok (.getfield 9, 3) := by decide +kernel
theorem dX2_build_110 : decode cX2_build 110 = .ok (.iload 8, 2) := by decide +kernel
theorem dX2_build_112 : decode cX2_build 112 = .ok (.iload_n 1, 1) := by decide +kernel
theorem dX2_build_113 : decode cX2_build 113 = .ok (.invokestatic 64, 3) := by decide +kernel
theorem dX2_build_116 : decode cX2_build 116 = .ok (.aload_n 0, 1) := by decide +kernel
theorem dX2_build_117 : decode cX2_build 117 = .ok (.getfield 15, 3) := by decide +kernel
theorem dX2_build_120 : decode cX2_build 120 = .ok (.iload 8, 2) := by decide +kernel
theorem dX2_build_122 : decode cX2_build 122 = .ok (.iload_n 2, 1) := by decide +kernel
theorem dX2_build_123 : decode cX2_build 123 = .ok (.invokestatic 64, 3) := by decide +kernel
theorem dX2_build_126 : decode cX2_build 126 = .ok (.aload_n 0, 1) := by decide +kernel
theorem dX2_build_127 : decode cX2_build 127 = .ok (.getfield 18, 3) := by decide +kernel
theorem dX2_build_130 : decode cX2_build 130 = .ok (.iload 8, 2) := by decide +kernel
theorem dX2_build_132 : decode cX2_build 132 = .ok (.iload_n 3, 1) := by decide +kernel
theorem dX2_build_133 : decode cX2_build 133 = .ok (.invokestatic 64, 3) := by decide +kernel
theorem dX2_build_136 : decode cX2_build 136 = .ok (.aload_n 0, 1) := by decide +kernel
theorem dX2_build_137 : decode cX2_build 137 = .ok (.getfield 21, 3) := by decide +kernel
theorem dX2_build_140 : decode cX2_build 140 = .ok (.iload 8, 2) := by decide +kernel
theorem dX2_build_142 : decode cX2_build 142 = .ok (.iload 4, 2) := by decide +kernel
theorem dX2_build_144 : decode cX2_build 144 = .ok (.invokestatic 64, 3) := by decide +kernel
theorem dX2_build_147 : decode cX2_build 147 = .ok (.aload_n 0, 1) := by decide +kernel
theorem dX2_build_148 : decode cX2_build 148 = .ok (.getfield 24, 3) := by decide +kernel
theorem dX2_build_151 : decode cX2_build 151 = .ok (.iload 8, 2) := by decide +kernel
theorem dX2_build_153 : decode cX2_build 153 = .ok (.iload 5, 2) := by decide +kernel
theorem dX2_build_155 : decode cX2_build 155 = .ok (.invokestatic 64, 3) := by decide +kernel
theorem dX2_build_158 : decode cX2_build 158 = .ok (.aload_n 0, 1) := by decide +kernel
theorem dX2_build_159 : decode cX2_build 159 = .ok (.getfield 27, 3) := by decide +kernel
theorem dX2_build_162 : decode cX2_build 162 = .ok (.iload 8, 2) := by decide +kernel
theorem dX2_build_164 : decode cX2_build 164 = .ok (.iload 6, 2) := by decide +kernel
theorem dX2_build_166 : decode cX2_build 166 = .ok (.invokestatic 64, 3) := by decide +kernel
theorem dX2_build_169 : decode cX2_build 169 = .ok (.aload_n 0, 1) := by decide +kernel
theorem dX2_build_170 : decode cX2_build 170 = .ok (.getfield 30, 3) := by decide +kernel
theorem dX2_build_173 : decode cX2_build 173 = .ok (.iload 8, 2) := by decide +kernel
theorem dX2_build_175 : decode cX2_build 175 = .ok (.iload 7, 2) := by decide +kernel
theorem dX2_build_177 : decode cX2_build 177 = .ok (.invokestatic 64, 3) := by decide +kernel
theorem dX2_build_180 : decode cX2_build 180 = .ok (.aload_n 0, 1) := by decide +kernel
theorem dX2_build_181 : decode cX2_build 181 = .ok (.getfield 33, 3) := by decide +kernel
theorem dX2_build_184 : decode cX2_build 184 = .ok (.iload 8, 2) := by decide +kernel
theorem dX2_build_186 : decode cX2_build 186 = .ok (.aload_n 0, 1) := by decide +kernel
theorem dX2_build_187 : decode cX2_build 187 = .ok (.iload_n 1, 1) := by decide +kernel
theorem dX2_build_188 : decode cX2_build 188 = .ok (.iload_n 2, 1) := by decide +kernel
theorem dX2_build_189 : decode cX2_build 189 = .ok (.iload_n 3, 1) := by decide +kernel
theorem dX2_build_190 : decode cX2_build 190 = .ok (.iload 4, 2) := by decide +kernel
theorem dX2_build_192 : decode cX2_build 192 = .ok (.iload 5, 2) := by decide +kernel
theorem dX2_build_194 : decode cX2_build 194 = .ok (.invokevirtual 82, 3) := by decide +kernel
theorem dX2_build_197 : decode cX2_build 197 = .ok (.invokestatic 64, 3) := by decide +kernel
theorem dX2_build_200 : decode cX2_build 200 = .ok (.aload_n 0, 1) := by decide +kernel
theorem dX2_build_201 : decode cX2_build 201 = .ok (.getfield 40, 3) := by decide +kernel
theorem dX2_build_204 : decode cX2_build 204 = .ok (.iload 8, 2) := by decide +kernel
theorem dX2_build_206 : decode cX2_build 206 = .ok (.aload_n 0, 1) := by decide +kernel
theorem dX2_build_207 : decode cX2_build 207 = .ok (.iload_n 1, 1) := by decide +kernel
theorem dX2_build_208 : decode cX2_build 208 = .ok (.iload 4, 2) := by decide +kernel
theorem dX2_build_210 : decode cX2_build 210 = .ok (.iload 5, 2) := by decide +kernel
theorem dX2_build_212 : decode cX2_build 212 = .ok (.invokevirtual 86, 3) := by decide +kernel
theorem dX2_build_215 : decode cX2_build 215 = .ok (.invokestatic 64, 3) := by decide +kernel
theorem dX2_build_218 : decode cX2_build 218 = .ok (.aload_n 0, 1) := by decide +kernel
theorem dX2_build_219 : decode cX2_build 219 = .ok (.iload 8, 2) := by decide +kernel
theorem dX2_build_221 : decode cX2_build 221 = .ok (.iload_n 1, 1) := by decide +kernel
theorem dX2_build_222 : decode cX2_build 222 = .ok (.iload_n 2, 1) := by decide +kernel
theorem dX2_build_223 : decode cX2_build 223 = .ok (.iload_n 3, 1) := by decide +kernel
theorem dX2_build_224 : decode cX2_build 224 = .ok (.iload 4, 2) := by decide +kernel
theorem dX2_build_226 : decode cX2_build 226 = .ok (.iload 5, 2) := by decide +kernel
theorem dX2_build_228 : decode cX2_build 228 = .ok (.invokevirtual 90, 3) := by decide +kernel
theorem dX2_build_231 : decode cX2_build 231 = .ok (.iload 8, 2) := by decide +kernel
theorem dX2_build_233 : decode cX2_build 233 = .ok (.ireturn, 1) := by decide +kernel
theorem dX2_needFor_0 : decode cX2_needFor 0 = .ok (.iload_n 2, 1) := by decide +kernel
theorem dX2_needFor_1 : decode cX2_needFor 1 = .ok (.iload_n 3, 1) := by decide +kernel
theorem dX2_needFor_2 : decode cX2_needFor 2 = .ok (.invokestatic 72, 3) := by decide +kernel
theorem dX2_needFor_5 : decode cX2_needFor 5 = .ok (.iconst 2, 1) := by decide +kernel
theorem dX2_needFor_6 : decode cX2_needFor 6 = .ok (.isub, 1) := by decide +kernel
theorem dX2_needFor_7 : decode cX2_needFor 7 = .ok (.istore 6, 2) := by decide +kernel
theorem dX2_needFor_9 : decode cX2_needFor 9 = .ok (.aload_n 0, 1) := by decide +kernel
theorem dX2_needFor_10 : decode cX2_needFor 10 = .ok (.getfield 33, 3) := by decide +kernel
theorem dX2_needFor_13 : decode cX2_needFor 13 = .ok (.iload 4, 2) := by decide +kernel
theorem dX2_needFor_15 : decode cX2_needFor 15 = .ok (.invokestatic 68, 3) := by decide +kernel
theorem dX2_needFor_18 : decode cX2_needFor 18 = .ok (.iload_n 1, 1) := by decide +kernel
theorem dX2_needFor_19 : decode cX2_needFor 19 = .ok (.iconst 3, 1) := by decide +kernel
theorem dX2_needFor_20 : decode cX2_needFor 20 = .ok (.if_icmp .ne 7, 3) := by decide +kernel
theorem dX2_needFor_23 : decode cX2_needFor 23 = .ok (.iconst 1, 1) := by decide +kernel
theorem dX2_needFor_24 : decode cX2_needFor 24 = .ok (.goto 4, 3) := by decide +kernel
theorem dX2_needFor_27 : decode cX2_needFor 27 = .ok (.iconst 0, 1) := by decide +kernel
theorem dX2_needFor_28 : decode cX2_needFor 28 = .ok (.isub, 1) := by decide +kernel
theorem dX2_needFor_29 : decode cX2_needFor 29 = .ok (.istore 7, 2) := by decide +kernel
theorem dX2_needFor_31 : decode cX2_needFor 31 = .ok (.iload 7, 2) := by decide +kernel
theorem dX2_needFor_33 : decode cX2_needFor 33 = .ok (.aload_n 0, 1) := by decide +kernel
theorem dX2_needFor_34 : decode cX2_needFor 34 = .ok (.getfield 33, 3) := by decide +kernel
theorem dX2_needFor_37 : decode cX2_needFor 37 = .ok (.iload 5, 2) := by decide +kernel
theorem dX2_needFor_39 : decode cX2_needFor 39 = .ok (.invokestatic 68, 3) := by decide +kernel
theorem dX2_needFor_42 : decode cX2_needFor 42 = .ok (.invokestatic 72, 3) := by decide +kernel
theorem dX2_needFor_45 : decode cX2_needFor 45 = .ok (.istore 8, 2) := by decide +kernel
theorem dX2_needFor_47 : decode cX2_needFor 47 = .ok (.iconst 0, 1) := by decide +kernel
theorem dX2_needFor_48 : decode cX2_needFor 48 = .ok (.iload 6, 2) := by decide +kernel
theorem dX2_needFor_50 : decode cX2_needFor 50 = .ok (.iload 8, 2) := by decide +kernel
theorem dX2_needFor_52 : decode cX2_needFor 52 = .ok (.invokestatic 72, 3) := by decide +kernel
theorem dX2_needFor_55 : decode cX2_needFor 55 = .ok (.invokestatic 72, 3) := by decide +kernel
theorem dX2_needFor_58 : decode cX2_needFor 58 = .ok (.ireturn, 1) := by decide +kernel
theorem dX2_lengthFor_0 : decode cX2_lengthFor 0 = .ok (.iload_n 1, 1) := by decide +kernel
theorem dX2_lengthFor_1 : decode cX2_lengthFor 1 = .ok (.invokestatic 54, 3) := by decide +kernel
theorem dX2_lengthFor_4 : decode cX2_lengthFor 4 = .ok (.invokevirtual 58, 3) := by decide +kernel
theorem dX2_lengthFor_7 : decode cX2_lengthFor 7 = .ok (.aload_n 0, 1) := by decide +kernel
theorem dX2_lengthFor_8 : decode cX2_lengthFor 8 = .ok (.getfield 40, 3) := by decide +kernel
theorem dX2_lengthFor_11 : decode cX2_lengthFor 11 = .ok (.iload_n 2, 1) := by decide +kernel
theorem dX2_lengthFor_12 : decode cX2_lengthFor 12 = .ok (.invokestatic 68, 3) := by decide +kernel
theorem dX2_lengthFor_15 : decode cX2_lengthFor 15 = .ok (.iadd, 1) := by decide +kernel
theorem dX2_lengthFor_16 : decode cX2_lengthFor 16 = .ok (.istore 4, 2) := by decide +kernel
theorem dX2_lengthFor_18 : decode cX2_lengthFor 18 = .ok (.iload_n 1, 1) := by decide +kernel
theorem dX2_lengthFor_19 : decode cX2_lengthFor 19 = .ok (.iconst 5, 1) := by decide +kernel
theorem dX2_lengthFor_20 : decode cX2_lengthFor 20 = .ok (.if_icmp .ne 18, 3) := by decide +kernel
theorem dX2_lengthFor_23 : decode cX2_lengthFor 23 = .ok (.iload 4, 2) := by decide +kernel
theorem dX2_lengthFor_25 : decode cX2_lengthFor 25 = .ok (.aload_n 0, 1) := by decide +kernel
theorem dX2_lengthFor_26 : decode cX2_lengthFor 26 = .ok (.getfield 40, 3) := by decide +kernel
theorem dX2_lengthFor_29 : decode cX2_lengthFor 29 = .ok (.iload_n 3, 1) := by decide +kernel
theorem dX2_lengthFor_30 : decode cX2_lengthFor 30 = .ok (.invokestatic 68, 3) := by decide +kernel
theorem dX2_lengthFor_33 : decode cX2_lengthFor 33 = .ok (.iconst 2, 1) := by decide +kernel
theorem dX2_lengthFor_34 : decode cX2_lengthFor 34 = .ok (.iadd, 1) := by decide +kernel
theorem dX2_lengthFor_35 : decode cX2_lengthFor 35 = .ok (.iadd, 1) := by decide +kernel
theorem dX2_lengthFor_36 : decode cX2_lengthFor 36 = .ok (.istore 4, 2) := by decide +kernel
theorem dX2_lengthFor_38 : decode cX2_lengthFor 38 = .ok (.iload 4, 2) := by decide +kernel
theorem dX2_lengthFor_40 : decode cX2_lengthFor 40 = .ok (.ireturn, 1) := by decide +kernel
theorem dX2_putActions_0 : decode cX2_putActions 0 = .ok (.iload_n 2, 1) := by decide +kernel
theorem dX2_putActions_1 : decode cX2_putActions 1 = .ok (.invokestatic 78, 3) := by decide +kernel
theorem dX2_putActions_4 : decode cX2_putActions 4 = .ok (.ifCond .eq 26, 3) := by decide +kernel
theorem dX2_putActions_7 : decode cX2_putActions 7 = .ok (.aload_n 0, 1) := by decide +kernel
theorem dX2_putActions_8 : decode cX2_putActions 8 = .ok (.getfield 43, 3) := by decide +kernel
theorem dX2_putActions_11 : decode cX2_putActions 11 = .ok (.iload_n 1, 1) := by decide +kernel
theorem dX2_putActions_12 : decode cX2_putActions 12 = .ok (.iconst 3, 1) := by decide +kernel
theorem dX2_putActions_13 : decode cX2_putActions 13 = .ok (.imul, 1) := by decide +kernel
theorem dX2_putActions_14 : decode cX2_putActions 14 = .ok (.iload_n 1, 1) := by decide +kernel
theorem dX2_putActions_15 : decode cX2_putActions 15 = .ok (.invokestatic 64, 3) := by decide +kernel
theorem dX2_putActions_18 : decode cX2_putActions 18 = .ok (.aload_n 0, 1) := by decide +kernel
theorem dX2_putActions_19 : decode cX2_putActions 19 = .ok (.getfield 46, 3) := by decide +kernel
theorem dX2_putActions_22 : decode cX2_putActions 22 = .ok (.iload_n 1, 1) := by decide +kernel
theorem dX2_putActions_23 : decode cX2_putActions 23 = .ok (.iconst 3, 1) := by decide +kernel
theorem dX2_putActions_24 : decode cX2_putActions 24 = .ok (.imul, 1) := by decide +kernel
theorem dX2_putActions_25 : decode cX2_putActions 25 = .ok (.lconst 0, 1) := by decide +kernel
theorem dX2_putActions_26 : decode cX2_putActions 26 = .ok (.invokestatic 96, 3) := by decide +kernel
theorem dX2_putActions_29 : decode cX2_putActions 29 = .ok (.return_, 1) := by decide +kernel
theorem dX2_putActions_30 : decode cX2_putActions 30 = .ok (.iload_n 2, 1) := by decide +kernel
theorem dX2_putActions_31 : decode cX2_putActions 31 = .ok (.iconst 4, 1) := by decide +kernel
theorem dX2_putActions_32 : decode cX2_putActions 32 = .ok (.if_icmp .ne 15, 3) := by decide +kernel
theorem dX2_putActions_35 : decode cX2_putActions 35 = .ok (.lconst 1, 1) := by decide +kernel
theorem dX2_putActions_36 : decode cX2_putActions 36 = .ok (.iload_n 3, 1) := by decide +kernel
theorem dX2_putActions_37 : decode cX2_putActions 37 = .ok (.bipush 6, 2) := by decide +kernel
theorem dX2_putActions_39 : decode cX2_putActions 39 = .ok (.imul, 1) := by decide +kernel
theorem dX2_putActions_40 : decode cX2_putActions 40 = .ok (.iload 4, 2) := by decide +kernel
theorem dX2_putActions_42 : decode cX2_putActions 42 = .ok (.iadd, 1) := by decide +kernel
theorem dX2_putActions_43 : decode cX2_putActions 43 = .ok (.lshl, 1) := by decide +kernel
theorem dX2_putActions_44 : decode cX2_putActions 44 = .ok (.goto 4, 3) := by decide +kernel
theorem dX2_putActions_47 : decode cX2_putActions 47 = .ok (.lconst 0, 1) := by decide +kernel
theorem dX2_putActions_48 : decode cX2_putActions 48 = .ok (.lstore 7, 2) := by decide +kernel
theorem dX2_putActions_50 : decode cX2_putActions 50 = .ok (.aload_n 0, 1) := by decide +kernel
theorem dX2_putActions_51 : decode cX2_putActions 51 = .ok (.iload 5, 2) := by decide +kernel
theorem dX2_putActions_53 : decode cX2_putActions 53 = .ok (.iload_n 1, 1) := by decide +kernel
theorem dX2_putActions_54 : decode cX2_putActions 54 = .ok (.iconst 0, 1) := by decide +kernel
theorem dX2_putActions_55 : decode cX2_putActions 55 = .ok (.lload 7, 2) := by decide +kernel
theorem dX2_putActions_57 : decode cX2_putActions 57 = .ok (.invokevirtual 99, 3) := by decide +kernel
theorem dX2_putActions_60 : decode cX2_putActions 60 = .ok (.aload_n 0, 1) := by decide +kernel
theorem dX2_putActions_61 : decode cX2_putActions 61 = .ok (.iload 6, 2) := by decide +kernel
theorem dX2_putActions_63 : decode cX2_putActions 63 = .ok (.iload_n 1, 1) := by decide +kernel
theorem dX2_putActions_64 : decode cX2_putActions 64 = .ok (.aload_n 0, 1) := by decide +kernel
theorem dX2_putActions_65 : decode cX2_putActions 65 = .ok (.getfield 30, 3) := by decide +kernel
theorem dX2_putActions_68 : decode cX2_putActions 68 = .ok (.iload 5, 2) := by decide +kernel
theorem dX2_putActions_70 : decode cX2_putActions 70 = .ok (.invokestatic 68, 3) := by decide +kernel
theorem dX2_putActions_73 : decode cX2_putActions 73 = .ok (.lload 7, 2) := by decide +kernel
theorem dX2_putActions_75 : decode cX2_putActions 75 = .ok (.invokevirtual 99, 3) := by decide +kernel
theorem dX2_putActions_78 : decode cX2_putActions 78 = .ok (.return_, 1) := by decide +kernel
theorem dX2_copyActions_0 : decode cX2_copyActions 0 = .ok (.iconst 0, 1) := by decide +kernel
theorem dX2_copyActions_1 : decode cX2_copyActions 1 = .ok (.istore 6, 2) := by decide +kernel
theorem dX2_copyActions_3 : decode cX2_copyActions 3 = .ok (.iload 6, 2) := by decide +kernel
theorem dX2_copyActions_5 : decode cX2_copyActions 5 = .ok (.aload_n 0, 1) := by decide +kernel
theorem dX2_copyActions_6 : decode cX2_copyActions 6 = .ok (.getfield 30, 3) := by decide +kernel
theorem dX2_copyActions_9 : decode cX2_copyActions 9 = .ok (.iload_n 1, 1) := by decide +kernel
theorem dX2_copyActions_10 : decode cX2_copyActions 10 = .ok (.invokestatic 68, 3) := by decide +kernel
theorem dX2_copyActions_13 : decode cX2_copyActions 13 = .ok (.if_icmp .ge 66, 3) := by decide +kernel
theorem dX2_copyActions_16 : decode cX2_copyActions 16 = .ok (.iload_n 1, 1) := by decide +kernel
theorem dX2_copyActions_17 : decode cX2_copyActions 17 = .ok (.iconst 3, 1) := by decide +kernel
theorem dX2_copyActions_18 : decode cX2_copyActions 18 = .ok (.imul, 1) := by decide +kernel
theorem dX2_copyActions_19 : decode cX2_copyActions 19 = .ok (.iload 6, 2) := by decide +kernel
theorem dX2_copyActions_21 : decode cX2_copyActions 21 = .ok (.iadd, 1) := by decide +kernel
theorem dX2_copyActions_22 : decode cX2_copyActions 22 = .ok (.istore 7, 2) := by decide +kernel
theorem dX2_copyActions_24 : decode cX2_copyActions 24 = .ok (.iload_n 2, 1) := by decide +kernel
theorem dX2_copyActions_25 : decode cX2_copyActions 25 = .ok (.iconst 3, 1) := by decide +kernel
theorem dX2_copyActions_26 : decode cX2_copyActions 26 = .ok (.imul, 1) := by decide +kernel
theorem dX2_copyActions_27 : decode cX2_copyActions 27 = .ok (.iload_n 3, 1) := by decide +kernel
theorem dX2_copyActions_28 : decode cX2_copyActions 28 = .ok (.iadd, 1) := by decide +kernel
theorem dX2_copyActions_29 : decode cX2_copyActions 29 = .ok (.iload 6, 2) := by decide +kernel
theorem dX2_copyActions_31 : decode cX2_copyActions 31 = .ok (.iadd, 1) := by decide +kernel
theorem dX2_copyActions_32 : decode cX2_copyActions 32 = .ok (.istore 8, 2) := by decide +kernel
theorem dX2_copyActions_34 : decode cX2_copyActions 34 = .ok (.aload_n 0, 1) := by decide +kernel
theorem dX2_copyActions_35 : decode cX2_copyActions 35 = .ok (.getfield 43, 3) := by decide +kernel
theorem dX2_copyActions_38 : decode cX2_copyActions 38 = .ok (.iload 8, 2) := by decide +kernel
theorem dX2_copyActions_40 : decode cX2_copyActions 40 = .ok (.aload_n 0, 1) := by decide +kernel
theorem dX2_copyActions_41 : decode cX2_copyActions 41 = .ok (.getfield 43, 3) := by decide +kernel
theorem dX2_copyActions_44 : decode cX2_copyActions 44 = .ok (.iload 7, 2) := by decide +kernel
theorem dX2_copyActions_46 : decode cX2_copyActions 46 = .ok (.invokestatic 68, 3) := by decide +kernel
theorem dX2_copyActions_49 : decode cX2_copyActions 49 = .ok (.invokestatic 64, 3) := by decide +kernel
theorem dX2_copyActions_52 : decode cX2_copyActions 52 = .ok (.aload_n 0, 1) := by decide +kernel
theorem dX2_copyActions_53 : decode cX2_copyActions 53 = .ok (.getfield 46, 3) := by decide +kernel
theorem dX2_copyActions_56 : decode cX2_copyActions 56 = .ok (.iload 8, 2) := by decide +kernel
theorem dX2_copyActions_58 : decode cX2_copyActions 58 = .ok (.aload_n 0, 1) := by decide +kernel
theorem dX2_copyActions_59 : decode cX2_copyActions 59 = .ok (.getfield 46, 3) := by decide +kernel
theorem dX2_copyActions_62 : decode cX2_copyActions 62 = .ok (.iload 7, 2) := by decide +kernel
theorem dX2_copyActions_64 : decode cX2_copyActions 64 = .ok (.invokestatic 103, 3) := by decide +kernel
theorem dX2_copyActions_67 : decode cX2_copyActions 67 = .ok (.lload 4, 2) := by decide +kernel
theorem dX2_copyActions_69 : decode cX2_copyActions 69 = .ok (.lor, 1) := by decide +kernel
theorem dX2_copyActions_70 : decode cX2_copyActions 70 = .ok (.invokestatic 96, 3) := by decide +kernel
theorem dX2_copyActions_73 : decode cX2_copyActions 73 = .ok (.iinc 6 1, 3) := by decide +kernel
theorem dX2_copyActions_76 : decode cX2_copyActions 76 = .ok (.goto (-73), 3) := by decide +kernel
theorem dX2_copyActions_79 : decode cX2_copyActions 79 = .ok (.return_, 1) := by decide +kernel
theorem dX2_isOpen_0 : decode cX2_isOpen 0 = .ok (.lload_n 0, 1) := by decide +kernel
theorem dX2_isOpen_1 : decode cX2_isOpen 1 = .ok (.lconst 0, 1) := by decide +kernel
theorem dX2_isOpen_2 : decode cX2_isOpen 2 = .ok (.lcmp, 1) := by decide +kernel
theorem dX2_isOpen_3 : decode cX2_isOpen 3 = .ok (.ifCond .ne 5, 3) := by decide +kernel
theorem dX2_isOpen_6 : decode cX2_isOpen 6 = .ok (.iconst 1, 1) := by decide +kernel
theorem dX2_isOpen_7 : decode cX2_isOpen 7 = .ok (.ireturn, 1) := by decide +kernel
theorem dX2_isOpen_8 : decode cX2_isOpen 8 = .ok (.iconst 0, 1) := by decide +kernel
theorem dX2_isOpen_9 : decode cX2_isOpen 9 = .ok (.istore_n 3, 1) := by decide +kernel
theorem dX2_isOpen_10 : decode cX2_isOpen 10 = .ok (.iload_n 3, 1) := by decide +kernel
theorem dX2_isOpen_11 : decode cX2_isOpen 11 = .ok (.bipush 36, 2) := by decide +kernel
theorem dX2_isOpen_13 : decode cX2_isOpen 13 = .ok (.if_icmp .ge 44, 3) := by decide +kernel
theorem dX2_isOpen_16 : decode cX2_isOpen 16 = .ok (.iload_n 3, 1) := by decide +kernel
theorem dX2_isOpen_17 : decode cX2_isOpen 17 = .ok (.bipush 6, 2) := by decide +kernel
theorem dX2_isOpen_19 : decode cX2_isOpen 19 = .ok (.idiv, 1) := by decide +kernel
theorem dX2_isOpen_20 : decode cX2_isOpen 20 = .ok (.istore 4, 2) := by decide +kernel
theorem dX2_isOpen_22 : decode cX2_isOpen 22 = .ok (.iload_n 3, 1) := by decide +kernel
theorem dX2_isOpen_23 : decode cX2_isOpen 23 = .ok (.bipush 6, 2) := by decide +kernel
theorem dX2_isOpen_25 : decode cX2_isOpen 25 = .ok (.irem, 1) := by decide +kernel
theorem dX2_isOpen_26 : decode cX2_isOpen 26 = .ok (.istore 5, 2) := by decide +kernel
theorem dX2_isOpen_28 : decode cX2_isOpen 28 = .ok (.lload_n 0, 1) := by decide +kernel
theorem dX2_isOpen_29 : decode cX2_isOpen 29 = .ok (.iload_n 3, 1) := by decide +kernel
theorem dX2_isOpen_30 : decode cX2_isOpen 30 = .ok (.lushr, 1) := by decide +kernel
theorem dX2_isOpen_31 : decode cX2_isOpen 31 = .ok (.lconst 1, 1) := by decide +kernel
theorem dX2_isOpen_32 : decode cX2_isOpen 32 = .ok (.land, 1) := by decide +kernel
theorem dX2_isOpen_33 : decode cX2_isOpen 33 = .ok (.lconst 0, 1) := by decide +kernel
theorem dX2_isOpen_34 : decode cX2_isOpen 34 = .ok (.lcmp, 1) := by decide +kernel
theorem dX2_isOpen_35 : decode cX2_isOpen 35 = .ok (.ifCond .eq 16, 3) := by decide +kernel
theorem dX2_isOpen_38 : decode cX2_isOpen 38 = .ok (.iload 4, 2) := by decide +kernel
theorem dX2_isOpen_40 : decode cX2_isOpen 40 = .ok (.iload 5, 2) := by decide +kernel
theorem dX2_isOpen_42 : decode cX2_isOpen 42 = .ok (.iload_n 2, 1) := by decide +kernel
theorem dX2_isOpen_43 : decode cX2_isOpen 43 = .ok (.invokestatic 106, 3) := by decide +kernel
theorem dX2_isOpen_46 : decode cX2_isOpen 46 = .ok (.ifCond .ne 5, 3) := by decide +kernel
theorem dX2_isOpen_49 : decode cX2_isOpen 49 = .ok (.iconst 0, 1) := by decide +kernel
theorem dX2_isOpen_50 : decode cX2_isOpen 50 = .ok (.ireturn, 1) := by decide +kernel
theorem dX2_isOpen_51 : decode cX2_isOpen 51 = .ok (.iinc 3 1, 3) := by decide +kernel
theorem dX2_isOpen_54 : decode cX2_isOpen 54 = .ok (.goto (-44), 3) := by decide +kernel
theorem dX2_isOpen_57 : decode cX2_isOpen 57 = .ok (.iconst 1, 1) := by decide +kernel
theorem dX2_isOpen_58 : decode cX2_isOpen 58 = .ok (.ireturn, 1) := by decide +kernel
theorem dX2_actionIn_0 : decode cX2_actionIn 0 = .ok (.iload_n 2, 1) := by decide +kernel
theorem dX2_actionIn_1 : decode cX2_actionIn 1 = .ok (.ifCond .lt 15, 3) := by decide +kernel
theorem dX2_actionIn_4 : decode cX2_actionIn 4 = .ok (.iload_n 2, 1) := by decide +kernel
theorem dX2_actionIn_5 : decode cX2_actionIn 5 = .ok (.aload_n 0, 1) := by decide +kernel
theorem dX2_actionIn_6 : decode cX2_actionIn 6 = .ok (.getfield 30, 3) := by decide +kernel
theorem dX2_actionIn_9 : decode cX2_actionIn 9 = .ok (.iload_n 1, 1) := by decide +kernel
theorem dX2_actionIn_10 : decode cX2_actionIn 10 = .ok (.invokestatic 68, 3) := by decide +kernel
theorem dX2_actionIn_13 : decode cX2_actionIn 13 = .ok (.if_icmp .lt 6, 3) := by decide +kernel
theorem dX2_actionIn_16 : decode cX2_actionIn 16 = .ok (.bipush (-4), 2) := by decide +kernel
theorem dX2_actionIn_18 : decode cX2_actionIn 18 = .ok (.ireturn, 1) := by decide +kernel
theorem dX2_actionIn_19 : decode cX2_actionIn 19 = .ok (.iload_n 1, 1) := by decide +kernel
theorem dX2_actionIn_20 : decode cX2_actionIn 20 = .ok (.iconst 3, 1) := by decide +kernel
theorem dX2_actionIn_21 : decode cX2_actionIn 21 = .ok (.imul, 1) := by decide +kernel
theorem dX2_actionIn_22 : decode cX2_actionIn 22 = .ok (.iload_n 2, 1) := by decide +kernel
theorem dX2_actionIn_23 : decode cX2_actionIn 23 = .ok (.iadd, 1) := by decide +kernel
theorem dX2_actionIn_24 : decode cX2_actionIn 24 = .ok (.istore 4, 2) := by decide +kernel
theorem dX2_actionIn_26 : decode cX2_actionIn 26 = .ok (.aload_n 0, 1) := by decide +kernel
theorem dX2_actionIn_27 : decode cX2_actionIn 27 = .ok (.getfield 46, 3) := by decide +kernel
theorem dX2_actionIn_30 : decode cX2_actionIn 30 = .ok (.iload 4, 2) := by decide +kernel
theorem dX2_actionIn_32 : decode cX2_actionIn 32 = .ok (.invokestatic 103, 3) := by decide +kernel
theorem dX2_actionIn_35 : decode cX2_actionIn 35 = .ok (.iload_n 3, 1) := by decide +kernel
theorem dX2_actionIn_36 : decode cX2_actionIn 36 = .ok (.invokestatic 110, 3) := by decide +kernel
theorem dX2_actionIn_39 : decode cX2_actionIn 39 = .ok (.ifCond .eq 15, 3) := by decide +kernel
theorem dX2_actionIn_42 : decode cX2_actionIn 42 = .ok (.aload_n 0, 1) := by decide +kernel
theorem dX2_actionIn_43 : decode cX2_actionIn 43 = .ok (.getfield 43, 3) := by decide +kernel
theorem dX2_actionIn_46 : decode cX2_actionIn 46 = .ok (.iload 4, 2) := by decide +kernel
theorem dX2_actionIn_48 : decode cX2_actionIn 48 = .ok (.invokestatic 68, 3) := by decide +kernel
theorem dX2_actionIn_51 : decode cX2_actionIn 51 = .ok (.goto 5, 3) := by decide +kernel
theorem dX2_actionIn_54 : decode cX2_actionIn 54 = .ok (.bipush (-4), 2) := by decide +kernel
theorem dX2_actionIn_56 : decode cX2_actionIn 56 = .ok (.ireturn, 1) := by decide +kernel
theorem dX2_movesOf_0 : decode cX2_movesOf 0 = .ok (.iconst 0, 1) := by decide +kernel
theorem dX2_movesOf_1 : decode cX2_movesOf 1 = .ok (.istore_n 2, 1) := by decide +kernel
theorem dX2_movesOf_2 : decode cX2_movesOf 2 = .ok (.iconst 0, 1) := by decide +kernel
theorem dX2_movesOf_3 : decode cX2_movesOf 3 = .ok (.istore_n 3, 1) := by decide +kernel
theorem dX2_movesOf_4 : decode cX2_movesOf 4 = .ok (.iload_n 3, 1) := by decide +kernel
theorem dX2_movesOf_5 : decode cX2_movesOf 5 = .ok (.aload_n 0, 1) := by decide +kernel
theorem dX2_movesOf_6 : decode cX2_movesOf 6 = .ok (.getfield 30, 3) := by decide +kernel
theorem dX2_movesOf_9 : decode cX2_movesOf 9 = .ok (.iload_n 1, 1) := by decide +kernel
theorem dX2_movesOf_10 : decode cX2_movesOf 10 = .ok (.invokestatic 68, 3) := by decide +kernel
theorem dX2_movesOf_13 : decode cX2_movesOf 13 = .ok (.if_icmp .ge 24, 3) := by decide +kernel
theorem dX2_movesOf_16 : decode cX2_movesOf 16 = .ok (.aload_n 0, 1) := by decide +kernel
theorem dX2_movesOf_17 : decode cX2_movesOf 17 = .ok (.iload_n 1, 1) := by decide +kernel
theorem dX2_movesOf_18 : decode cX2_movesOf 18 = .ok (.iload_n 3, 1) := by decide +kernel
theorem dX2_movesOf_19 : decode cX2_movesOf 19 = .ok (.iconst 1, 1) := by decide +kernel
theorem dX2_movesOf_20 : decode cX2_movesOf 20 = .ok (.invokevirtual 114, 3) := by decide +kernel
theorem dX2_movesOf_23 : decode cX2_movesOf 23 = .ok (.bipush (-4), 2) := by decide +kernel
theorem dX2_movesOf_25 : decode cX2_movesOf 25 = .ok (.if_icmp .eq 6, 3) := by decide +kernel
theorem dX2_movesOf_28 : decode cX2_movesOf 28 = .ok (.iinc 2 1, 3) := by decide +kernel
theorem dX2_movesOf_31 : decode cX2_movesOf 31 = .ok (.iinc 3 1, 3) := by decide +kernel
theorem dX2_movesOf_34 : decode cX2_movesOf 34 = .ok (.goto (-30), 3) := by decide +kernel
theorem dX2_movesOf_37 : decode cX2_movesOf 37 = .ok (.iload_n 2, 1) := by decide +kernel
theorem dX2_movesOf_38 : decode cX2_movesOf 38 = .ok (.ireturn, 1) := by decide +kernel
theorem dX2_actionOf_0 : decode cX2_actionOf 0 = .ok (.iconst 0, 1) := by decide +kernel
theorem dX2_actionOf_1 : decode cX2_actionOf 1 = .ok (.istore_n 3, 1) := by decide +kernel
theorem dX2_actionOf_2 : decode cX2_actionOf 2 = .ok (.iconst 0, 1) := by decide +kernel
theorem dX2_actionOf_3 : decode cX2_actionOf 3 = .ok (.istore 4, 2) := by decide +kernel
theorem dX2_actionOf_5 : decode cX2_actionOf 5 = .ok (.iload 4, 2) := by decide +kernel
theorem dX2_actionOf_7 : decode cX2_actionOf 7 = .ok (.aload_n 0, 1) := by decide +kernel
theorem dX2_actionOf_8 : decode cX2_actionOf 8 = .ok (.getfield 30, 3) := by decide +kernel
theorem dX2_actionOf_11 : decode cX2_actionOf 11 = .ok (.iload_n 1, 1) := by decide +kernel
theorem dX2_actionOf_12 : decode cX2_actionOf 12 = .ok (.invokestatic 68, 3) := by decide +kernel
theorem dX2_actionOf_15 : decode cX2_actionOf 15 = .ok (.if_icmp .ge 37, 3) := by decide +kernel
theorem dX2_actionOf_18 : decode cX2_actionOf 18 = .ok (.aload_n 0, 1) := by decide +kernel
theorem dX2_actionOf_19 : decode cX2_actionOf 19 = .ok (.iload_n 1, 1) := by decide +kernel
theorem dX2_actionOf_20 : decode cX2_actionOf 20 = .ok (.iload 4, 2) := by decide +kernel
theorem dX2_actionOf_22 : decode cX2_actionOf 22 = .ok (.iconst 1, 1) := by decide +kernel
theorem dX2_actionOf_23 : decode cX2_actionOf 23 = .ok (.invokevirtual 114, 3) := by decide +kernel
theorem dX2_actionOf_26 : decode cX2_actionOf 26 = .ok (.istore 5, 2) := by decide +kernel
theorem dX2_actionOf_28 : decode cX2_actionOf 28 = .ok (.iload 5, 2) := by decide +kernel
theorem dX2_actionOf_30 : decode cX2_actionOf 30 = .ok (.bipush (-4), 2) := by decide +kernel
theorem dX2_actionOf_32 : decode cX2_actionOf 32 = .ok (.if_icmp .eq 14, 3) := by decide +kernel
theorem dX2_actionOf_35 : decode cX2_actionOf 35 = .ok (.iload_n 3, 1) := by decide +kernel
theorem dX2_actionOf_36 : decode cX2_actionOf 36 = .ok (.iload_n 2, 1) := by decide +kernel
theorem dX2_actionOf_37 : decode cX2_actionOf 37 = .ok (.if_icmp .ne 6, 3) := by decide +kernel
theorem dX2_actionOf_40 : decode cX2_actionOf 40 = .ok (.iload 5, 2) := by decide +kernel
theorem dX2_actionOf_42 : decode cX2_actionOf 42 = .ok (.ireturn, 1) := by decide +kernel
theorem dX2_actionOf_43 : decode cX2_actionOf 43 = .ok (.iinc 3 1, 3) := by decide +kernel
theorem dX2_actionOf_46 : decode cX2_actionOf 46 = .ok (.iinc 4 1, 3) := by decide +kernel
theorem dX2_actionOf_49 : decode cX2_actionOf 49 = .ok (.goto (-44), 3) := by decide +kernel
theorem dX2_actionOf_52 : decode cX2_actionOf 52 = .ok (.bipush (-4), 2) := by decide +kernel
theorem dX2_actionOf_54 : decode cX2_actionOf 54 = .ok (.ireturn, 1) := by decide +kernel
theorem dX2_headOf_0 : decode cX2_headOf 0 = .ok (.iload_n 0, 1) := by decide +kernel
theorem dX2_headOf_1 : decode cX2_headOf 1 = .ok (.tableswitch 50 1 5 #[35, 38, 41, 44, 47], 35) := by decide +kernel
theorem dX2_headOf_36 : decode cX2_headOf 36 = .ok (.ldc 117, 2) := by decide +kernel
theorem dX2_headOf_38 : decode cX2_headOf 38 = .ok (.areturn, 1) := by decide +kernel
theorem dX2_headOf_39 : decode cX2_headOf 39 = .ok (.ldc 119, 2) := by decide +kernel
theorem dX2_headOf_41 : decode cX2_headOf 41 = .ok (.areturn, 1) := by decide +kernel
theorem dX2_headOf_42 : decode cX2_headOf 42 = .ok (.ldc 121, 2) := by decide +kernel
theorem dX2_headOf_44 : decode cX2_headOf 44 = .ok (.areturn, 1) := by decide +kernel
theorem dX2_headOf_45 : decode cX2_headOf 45 = .ok (.ldc 123, 2) := by decide +kernel
theorem dX2_headOf_47 : decode cX2_headOf 47 = .ok (.areturn, 1) := by decide +kernel
theorem dX2_headOf_48 : decode cX2_headOf 48 = .ok (.ldc 125, 2) := by decide +kernel
theorem dX2_headOf_50 : decode cX2_headOf 50 = .ok (.areturn, 1) := by decide +kernel
theorem dX2_headOf_51 : decode cX2_headOf 51 = .ok (.ldc 127, 2) := by decide +kernel
theorem dX2_headOf_53 : decode cX2_headOf 53 = .ok (.areturn, 1) := by decide +kernel
theorem dX2_characterOf_0 : decode cX2_characterOf 0 = .ok (.iload_n 1, 1) := by decide +kernel
theorem dX2_characterOf_1 : decode cX2_characterOf 1 = .ok (.istore_n 3, 1) := by decide +kernel
theorem dX2_characterOf_2 : decode cX2_characterOf 2 = .ok (.iload_n 2, 1) := by decide +kernel
theorem dX2_characterOf_3 : decode cX2_characterOf 3 = .ok (.istore 4, 2) := by decide +kernel
theorem dX2_characterOf_5 : decode cX2_characterOf 5 = .ok (.iconst 0, 1) := by decide +kernel
theorem dX2_characterOf_6 : decode cX2_characterOf 6 = .ok (.istore 5, 2) := by decide +kernel
theorem dX2_characterOf_8 : decode cX2_characterOf 8 = .ok (.iload 5, 2) := by decide +kernel
theorem dX2_characterOf_10 : decode cX2_characterOf 10 = .ok (.bipush 24, 2) := by decide +kernel
theorem dX2_characterOf_12 : decode cX2_characterOf 12 = .ok (.if_icmp .ge 132, 3) := by decide +kernel
theorem dX2_characterOf_15 : decode cX2_characterOf 15 = .ok (.aload_n 0, 1) := by decide +kernel
theorem dX2_characterOf_16 : decode cX2_characterOf 16 = .ok (.getfield 9, 3) := by decide +kernel
theorem dX2_characterOf_19 : decode cX2_characterOf 19 = .ok (.iload_n 3, 1) := by decide +kernel
theorem dX2_characterOf_20 : decode cX2_characterOf 20 = .ok (.invokestatic 68, 3) := by decide +kernel
theorem dX2_characterOf_23 : decode cX2_characterOf 23 = .ok (.istore 6, 2) := by decide +kernel
theorem dX2_characterOf_25 : decode cX2_characterOf 25 = .ok (.iload 6, 2) := by decide +kernel
theorem dX2_characterOf_27 : decode cX2_characterOf 27 = .ok (.invokestatic 54, 3) := by decide +kernel
theorem dX2_characterOf_30 : decode cX2_characterOf 30 = .ok (.invokevirtual 58, 3) := by decide +kernel
theorem dX2_characterOf_33 : decode cX2_characterOf 33 = .ok (.istore 7, 2) := by decide +kernel
theorem dX2_characterOf_35 : decode cX2_characterOf 35 = .ok (.iload 4, 2) := by decide +kernel
theorem dX2_characterOf_37 : decode cX2_characterOf 37 = .ok (.iload 7, 2) := by decide +kernel
theorem dX2_characterOf_39 : decode cX2_characterOf 39 = .ok (.if_icmp .ge 11, 3) := by decide +kernel
theorem dX2_characterOf_42 : decode cX2_characterOf 42 = .ok (.aload_n 0, 1) := by decide +kernel
theorem dX2_characterOf_43 : decode cX2_characterOf 43 = .ok (.iload_n 3, 1) := by decide +kernel
theorem dX2_characterOf_44 : decode cX2_characterOf 44 = .ok (.iload 4, 2) := by decide +kernel
theorem dX2_characterOf_46 : decode cX2_characterOf 46 = .ok (.invokevirtual 129, 3) := by decide +kernel
theorem dX2_characterOf_49 : decode cX2_characterOf 49 = .ok (.ireturn, 1) := by decide +kernel
theorem dX2_characterOf_50 : decode cX2_characterOf 50 = .ok (.iload 4, 2) := by decide +kernel
theorem dX2_characterOf_52 : decode cX2_characterOf 52 = .ok (.iload 7, 2) := by decide +kernel
theorem dX2_characterOf_54 : decode cX2_characterOf 54 = .ok (.isub, 1) := by decide +kernel
theorem dX2_characterOf_55 : decode cX2_characterOf 55 = .ok (.istore 4, 2) := by decide +kernel
theorem dX2_characterOf_57 : decode cX2_characterOf 57 = .ok (.aload_n 0, 1) := by decide +kernel
theorem dX2_characterOf_58 : decode cX2_characterOf 58 = .ok (.getfield 21, 3) := by decide +kernel
theorem dX2_characterOf_61 : decode cX2_characterOf 61 = .ok (.iload_n 3, 1) := by decide +kernel
theorem dX2_characterOf_62 : decode cX2_characterOf 62 = .ok (.invokestatic 68, 3) := by decide +kernel
theorem dX2_characterOf_65 : decode cX2_characterOf 65 = .ok (.istore 8, 2) := by decide +kernel
theorem dX2_characterOf_67 : decode cX2_characterOf 67 = .ok (.aload_n 0, 1) := by decide +kernel
theorem dX2_characterOf_68 : decode cX2_characterOf 68 = .ok (.getfield 40, 3) := by decide +kernel
theorem dX2_characterOf_71 : decode cX2_characterOf 71 = .ok (.iload 8, 2) := by decide +kernel
theorem dX2_characterOf_73 : decode cX2_characterOf 73 = .ok (.invokestatic 68, 3) := by decide +kernel
theorem dX2_characterOf_76 : decode cX2_characterOf 76 = .ok (.istore 9, 2) := by decide +kernel
theorem dX2_characterOf_78 : decode cX2_characterOf 78 = .ok (.iload 4, 2) := by decide +kernel
theorem dX2_characterOf_80 : decode cX2_characterOf 80 = .ok (.iload 9, 2) := by decide +kernel
theorem dX2_characterOf_82 : decode cX2_characterOf 82 = .ok (.if_icmp .ge 9, 3) := by decide +kernel
theorem dX2_characterOf_85 : decode cX2_characterOf 85 = .ok (.iload 8, 2) := by decide +kernel
theorem dX2_characterOf_87 : decode cX2_characterOf 87 = .ok (.istore_n 3, 1) := by decide +kernel
theorem dX2_characterOf_88 : decode cX2_characterOf 88 = .ok (.goto 50, 3) := by decide +kernel
theorem dX2_characterOf_91 : decode cX2_characterOf 91 = .ok (.aload_n 0, 1) := by decide +kernel
theorem dX2_characterOf_92 : decode cX2_characterOf 92 = .ok (.getfield 24, 3) := by decide +kernel
theorem dX2_characterOf_95 : decode cX2_characterOf 95 = .ok (.iload_n 3, 1) := by decide +kernel
theorem dX2_characterOf_96 : decode cX2_characterOf 96 = .ok (.invokestatic 68, 3) := by decide +kernel
theorem dX2_characterOf_99 : decode cX2_characterOf 99 = .ok (.istore 10, 2) := by decide +kernel
theorem dX2_characterOf_101 : decode cX2_characterOf 101 = .ok (.iload 4, 2) := by decide +kernel
theorem dX2_characterOf_103 : decode cX2_characterOf 103 = .ok (.iload 9, 2) := by decide +kernel
theorem dX2_characterOf_105 : decode cX2_characterOf 105 = .ok (.iconst 1, 1) := by decide +kernel
theorem dX2_characterOf_106 : decode cX2_characterOf 106 = .ok (.iadd, 1) := by decide +kernel
theorem dX2_characterOf_107 : decode cX2_characterOf 107 = .ok (.isub, 1) := by decide +kernel
theorem dX2_characterOf_108 : decode cX2_characterOf 108 = .ok (.istore 4, 2) := by decide +kernel
theorem dX2_characterOf_110 : decode cX2_characterOf 110 = .ok (.iload 4, 2) := by decide +kernel
theorem dX2_characterOf_112 : decode cX2_characterOf 112 = .ok (.ifCond .ge 6, 3) := by decide +kernel
theorem dX2_characterOf_115 : decode cX2_characterOf 115 = .ok (.bipush 43, 2) := by decide +kernel
theorem dX2_characterOf_117 : decode cX2_characterOf 117 = .ok (.ireturn, 1) := by decide +kernel
theorem dX2_characterOf_118 : decode cX2_characterOf 118 = .ok (.iload 4, 2) := by decide +kernel
theorem dX2_characterOf_120 : decode cX2_characterOf 120 = .ok (.aload_n 0, 1) := by decide +kernel
theorem dX2_characterOf_121 : decode cX2_characterOf 121 = .ok (.getfield 40, 3) := by decide +kernel
theorem dX2_characterOf_124 : decode cX2_characterOf 124 = .ok (.iload 10, 2) := by decide +kernel
theorem dX2_characterOf_126 : decode cX2_characterOf 126 = .ok (.invokestatic 68, 3) := by decide +kernel
theorem dX2_characterOf_129 : decode cX2_characterOf 129 = .ok (.if_icmp .lt 6, 3) := by decide +kernel
theorem dX2_characterOf_132 : decode cX2_characterOf 132 = .ok (.bipush 41, 2) := by decide +kernel
theorem dX2_characterOf_134 : decode cX2_characterOf 134 = .ok (.ireturn, 1) := by decide +kernel
theorem dX2_characterOf_135 : decode cX2_characterOf 135 = .ok (.iload 10, 2) := by decide +kernel
theorem dX2_characterOf_137 : decode cX2_characterOf 137 = .ok (.istore_n 3, 1) := by decide +kernel
theorem dX2_characterOf_138 : decode cX2_characterOf 138 = .ok (.iinc 5 1, 3) := by decide +kernel
theorem dX2_characterOf_141 : decode cX2_characterOf 141 = .ok (.goto (-133), 3) := by decide +kernel
theorem dX2_characterOf_144 : decode cX2_characterOf 144 = .ok (.bipush (-4), 2) := by decide +kernel
theorem dX2_characterOf_146 : decode cX2_characterOf 146 = .ok (.ireturn, 1) := by decide +kernel
theorem dX2_headCharacter_0 : decode cX2_headCharacter 0 = .ok (.aload_n 0, 1) := by decide +kernel
theorem dX2_headCharacter_1 : decode cX2_headCharacter 1 = .ok (.getfield 9, 3) := by decide +kernel
theorem dX2_headCharacter_4 : decode cX2_headCharacter 4 = .ok (.iload_n 1, 1) := by decide +kernel
theorem dX2_headCharacter_5 : decode cX2_headCharacter 5 = .ok (.invokestatic 68, 3) := by decide +kernel
theorem dX2_headCharacter_8 : decode cX2_headCharacter 8 = .ok (.invokestatic 54, 3) := by decide +kernel
theorem dX2_headCharacter_11 : decode cX2_headCharacter 11 = .ok (.astore_n 3, 1) := by decide +kernel
theorem dX2_headCharacter_12 : decode cX2_headCharacter 12 = .ok (.iload_n 2, 1) := by decide +kernel
theorem dX2_headCharacter_13 : decode cX2_headCharacter 13 = .ok (.ifCond .lt 11, 3) := by decide +kernel
theorem dX2_headCharacter_16 : decode cX2_headCharacter 16 = .ok (.iload_n 2, 1) := by decide +kernel
theorem dX2_headCharacter_17 : decode cX2_headCharacter 17 = .ok (.aload_n 3, 1) := by decide +kernel
theorem dX2_headCharacter_18 : decode cX2_headCharacter 18 = .ok (.invokevirtual 58, 3) := by decide +kernel
theorem dX2_headCharacter_21 : decode cX2_headCharacter 21 = .ok (.if_icmp .lt 6, 3) := by decide +kernel
theorem dX2_headCharacter_24 : decode cX2_headCharacter 24 = .ok (.bipush (-4), 2) := by decide +kernel
theorem dX2_headCharacter_26 : decode cX2_headCharacter 26 = .ok (.ireturn, 1) := by decide +kernel
theorem dX2_headCharacter_27 : decode cX2_headCharacter 27 = .ok (.aload_n 3, 1) := by decide +kernel
theorem dX2_headCharacter_28 : decode cX2_headCharacter 28 = .ok (.iload_n 2, 1) := by decide +kernel
theorem dX2_headCharacter_29 : decode cX2_headCharacter 29 = .ok (.invokevirtual 132, 3) := by decide +kernel
theorem dX2_headCharacter_32 : decode cX2_headCharacter 32 = .ok (.istore 4, 2) := by decide +kernel
theorem dX2_headCharacter_34 : decode cX2_headCharacter 34 = .ok (.iload 4, 2) := by decide +kernel
theorem dX2_headCharacter_36 : decode cX2_headCharacter 36 = .ok (.bipush 120, 2) := by decide +kernel
theorem dX2_headCharacter_38 : decode cX2_headCharacter 38 = .ok (.if_icmp .ne 15, 3) := by decide +kernel
theorem dX2_headCharacter_41 : decode cX2_headCharacter 41 = .ok (.aload_n 0, 1) := by decide +kernel
theorem dX2_headCharacter_42 : decode cX2_headCharacter 42 = .ok (.getfield 15, 3) := by decide +kernel
theorem dX2_headCharacter_45 : decode cX2_headCharacter 45 = .ok (.iload_n 1, 1) := by decide +kernel
theorem dX2_headCharacter_46 : decode cX2_headCharacter 46 = .ok (.invokestatic 68, 3) := by decide +kernel
theorem dX2_headCharacter_49 : decode cX2_headCharacter 49 = .ok (.invokestatic 136, 3) := by decide +kernel
theorem dX2_headCharacter_52 : decode cX2_headCharacter 52 = .ok (.ireturn, 1) := by decide +kernel
theorem dX2_headCharacter_53 : decode cX2_headCharacter 53 = .ok (.iload 4, 2) := by decide +kernel
theorem dX2_headCharacter_55 : decode cX2_headCharacter 55 = .ok (.bipush 121, 2) := by decide +kernel
theorem dX2_headCharacter_57 : decode cX2_headCharacter 57 = .ok (.if_icmp .ne 17, 3) := by decide +kernel
theorem dX2_headCharacter_60 : decode cX2_headCharacter 60 = .ok (.aload_n 0, 1) := by decide +kernel
theorem dX2_headCharacter_61 : decode cX2_headCharacter 61 = .ok (.getfield 18, 3) := by decide +kernel
theorem dX2_headCharacter_64 : decode cX2_headCharacter 64 = .ok (.iload_n 1, 1) := by decide +kernel
theorem dX2_headCharacter_65 : decode cX2_headCharacter 65 = .ok (.invokestatic 68, 3) := by decide +kernel
theorem dX2_headCharacter_68 : decode cX2_headCharacter 68 = .ok (.invokestatic 136, 3) := by decide +kernel
theorem dX2_headCharacter_71 : decode cX2_headCharacter 71 = .ok (.goto 5, 3) := by decide +kernel
theorem dX2_headCharacter_74 : decode cX2_headCharacter 74 = .ok (.iload 4, 2) := by decide +kernel
theorem dX2_headCharacter_76 : decode cX2_headCharacter 76 = .ok (.ireturn, 1) := by decide +kernel
theorem dX2_letterOf_0 : decode cX2_letterOf 0 = .ok (.iload_n 0, 1) := by decide +kernel
theorem dX2_letterOf_1 : decode cX2_letterOf 1 = .ok (.iconst 3, 1) := by decide +kernel
theorem dX2_letterOf_2 : decode cX2_letterOf 2 = .ok (.if_icmp .ge 8, 3) := by decide +kernel
theorem dX2_letterOf_5 : decode cX2_letterOf 5 = .ok (.bipush 97, 2) := by decide +kernel
theorem dX2_letterOf_7 : decode cX2_letterOf 7 = .ok (.iload_n 0, 1) := by decide +kernel
theorem dX2_letterOf_8 : decode cX2_letterOf 8 = .ok (.iadd, 1) := by decide +kernel
theorem dX2_letterOf_9 : decode cX2_letterOf 9 = .ok (.ireturn, 1) := by decide +kernel
theorem dX2_letterOf_10 : decode cX2_letterOf 10 = .ok (.bipush 48, 2) := by decide +kernel
theorem dX2_letterOf_12 : decode cX2_letterOf 12 = .ok (.iload_n 0, 1) := by decide +kernel
theorem dX2_letterOf_13 : decode cX2_letterOf 13 = .ok (.iconst 3, 1) := by decide +kernel
theorem dX2_letterOf_14 : decode cX2_letterOf 14 = .ok (.isub, 1) := by decide +kernel
theorem dX2_letterOf_15 : decode cX2_letterOf 15 = .ok (.iadd, 1) := by decide +kernel
theorem dX2_letterOf_16 : decode cX2_letterOf 16 = .ok (.ireturn, 1) := by decide +kernel
theorem dX3_init_0 : decode cX3_init 0 = .ok (.aload_n 0, 1) := by decide +kernel
theorem dX3_init_1 : decode cX3_init 1 = .ok (.invokespecial 1, 3) := by decide +kernel
theorem dX3_init_4 : decode cX3_init 4 = .ok (.aload_n 0, 1) := by decide +kernel
theorem dX3_init_5 : decode cX3_init 5 = .ok (.new 7, 3) := by decide +kernel
theorem dX3_init_8 : decode cX3_init 8 = .ok (.dup, 1) := by decide +kernel
theorem dX3_init_9 : decode cX3_init 9 = .ok (.invokespecial 9, 3) := by decide +kernel
theorem dX3_init_12 : decode cX3_init 12 = .ok (.putfield 10, 3) := by decide +kernel
theorem dX3_init_15 : decode cX3_init 15 = .ok (.aload_n 0, 1) := by decide +kernel
theorem dX3_init_16 : decode cX3_init 16 = .ok (.new 16, 3) := by decide +kernel
theorem dX3_init_19 : decode cX3_init 19 = .ok (.dup, 1) := by decide +kernel
theorem dX3_init_20 : decode cX3_init 20 = .ok (.aload_n 0, 1) := by decide +kernel
theorem dX3_init_21 : decode cX3_init 21 = .ok (.getfield 10, 3) := by decide +kernel
theorem dX3_init_24 : decode cX3_init 24 = .ok (.invokespecial 18, 3) := by decide +kernel
theorem dX3_init_27 : decode cX3_init 27 = .ok (.putfield 21, 3) := by decide +kernel
theorem dX3_init_30 : decode cX3_init 30 = .ok (.return_, 1) := by decide +kernel
theorem dX3_tau_0 : decode cX3_tau 0 = .ok (.aload_n 0, 1) := by decide +kernel
theorem dX3_tau_1 : decode cX3_tau 1 = .ok (.getfield 10, 3) := by decide +kernel
theorem dX3_tau_4 : decode cX3_tau 4 = .ok (.iload_n 1, 1) := by decide +kernel
theorem dX3_tau_5 : decode cX3_tau 5 = .ok (.invokevirtual 25, 3) := by decide +kernel
theorem dX3_tau_8 : decode cX3_tau 8 = .ok (.ifCond .ne 5, 3) := by decide +kernel
theorem dX3_tau_11 : decode cX3_tau 11 = .ok (.iconst (-1), 1) := by decide +kernel
theorem dX3_tau_12 : decode cX3_tau 12 = .ok (.ireturn, 1) := by decide +kernel
theorem dX3_tau_13 : decode cX3_tau 13 = .ok (.aload_n 0, 1) := by decide +kernel
theorem dX3_tau_14 : decode cX3_tau 14 = .ok (.getfield 10, 3) := by decide +kernel
theorem dX3_tau_17 : decode cX3_tau 17 = .ok (.iconst 1, 1) := by decide +kernel
theorem dX3_tau_18 : decode cX3_tau 18 = .ok (.iconst 0, 1) := by decide +kernel
theorem dX3_tau_19 : decode cX3_tau 19 = .ok (.iconst 0, 1) := by decide +kernel
theorem dX3_tau_20 : decode cX3_tau 20 = .ok (.iload_n 1, 1) := by decide +kernel
theorem dX3_tau_21 : decode cX3_tau 21 = .ok (.iconst 0, 1) := by decide +kernel
theorem dX3_tau_22 : decode cX3_tau 22 = .ok (.invokevirtual 29, 3) := by decide +kernel
theorem dX3_tau_25 : decode cX3_tau 25 = .ok (.ireturn, 1) := by decide +kernel
theorem dX3_output_0 : decode cX3_output 0 = .ok (.iload_n 1, 1) := by decide +kernel
theorem dX3_output_1 : decode cX3_output 1 = .ok (.invokestatic 33, 3) := by decide +kernel
theorem dX3_output_4 : decode cX3_output 4 = .ok (.ifCond .eq 21, 3) := by decide +kernel
theorem dX3_output_7 : decode cX3_output 7 = .ok (.iload_n 2, 1) := by decide +kernel
theorem dX3_output_8 : decode cX3_output 8 = .ok (.invokestatic 33, 3) := by decide +kernel
theorem dX3_output_11 : decode cX3_output 11 = .ok (.ifCond .eq 14, 3) := by decide +kernel
theorem dX3_output_14 : decode cX3_output 14 = .ok (.aload_n 0, 1) := by decide +kernel
theorem dX3_output_15 : decode cX3_output 15 = .ok (.getfield 10, 3) := by decide +kernel
theorem dX3_output_18 : decode cX3_output 18 = .ok (.iload_n 3, 1) := by decide +kernel
theorem dX3_output_19 : decode cX3_output 19 = .ok (.invokevirtual 25, 3) := by decide +kernel
theorem dX3_output_22 : decode cX3_output 22 = .ok (.ifCond .ne 5, 3) := by decide +kernel
theorem dX3_output_25 : decode cX3_output 25 = .ok (.iconst (-1), 1) := by decide +kernel
theorem dX3_output_26 : decode cX3_output 26 = .ok (.ireturn, 1) := by decide +kernel
theorem dX3_output_27 : decode cX3_output 27 = .ok (.aload_n 0, 1) := by decide +kernel
theorem dX3_output_28 : decode cX3_output 28 = .ok (.getfield 10, 3) := by decide +kernel
theorem dX3_output_31 : decode cX3_output 31 = .ok (.iconst 2, 1) := by decide +kernel
theorem dX3_output_32 : decode cX3_output 32 = .ok (.iload_n 1, 1) := by decide +kernel
theorem dX3_output_33 : decode cX3_output 33 = .ok (.iload_n 2, 1) := by decide +kernel
theorem dX3_output_34 : decode cX3_output 34 = .ok (.iload_n 3, 1) := by decide +kernel
theorem dX3_output_35 : decode cX3_output 35 = .ok (.iconst 0, 1) := by decide +kernel
theorem dX3_output_36 : decode cX3_output 36 = .ok (.invokevirtual 29, 3) := by decide +kernel
theorem dX3_output_39 : decode cX3_output 39 = .ok (.ireturn, 1) := by decide +kernel
theorem dX3_input_0 : decode cX3_input 0 = .ok (.iload_n 1, 1) := by decide +kernel
theorem dX3_input_1 : decode cX3_input 1 = .ok (.invokestatic 33, 3) := by decide +kernel
theorem dX3_input_4 : decode cX3_input 4 = .ok (.ifCond .eq 14, 3) := by decide +kernel
theorem dX3_input_7 : decode cX3_input 7 = .ok (.aload_n 0, 1) := by decide +kernel
theorem dX3_input_8 : decode cX3_input 8 = .ok (.getfield 10, 3) := by decide +kernel
theorem dX3_input_11 : decode cX3_input 11 = .ok (.iload_n 2, 1) := by decide +kernel
theorem dX3_input_12 : decode cX3_input 12 = .ok (.invokevirtual 25, 3) := by decide +kernel
theorem dX3_input_15 : decode cX3_input 15 = .ok (.ifCond .ne 5, 3) := by decide +kernel
theorem dX3_input_18 : decode cX3_input 18 = .ok (.iconst (-1), 1) := by decide +kernel
theorem dX3_input_19 : decode cX3_input 19 = .ok (.ireturn, 1) := by decide +kernel
theorem dX3_input_20 : decode cX3_input 20 = .ok (.aload_n 0, 1) := by decide +kernel
theorem dX3_input_21 : decode cX3_input 21 = .ok (.getfield 10, 3) := by decide +kernel
theorem dX3_input_24 : decode cX3_input 24 = .ok (.iconst 3, 1) := by decide +kernel
theorem dX3_input_25 : decode cX3_input 25 = .ok (.iload_n 1, 1) := by decide +kernel
theorem dX3_input_26 : decode cX3_input 26 = .ok (.iconst 0, 1) := by decide +kernel
theorem dX3_input_27 : decode cX3_input 27 = .ok (.iload_n 2, 1) := by decide +kernel
theorem dX3_input_28 : decode cX3_input 28 = .ok (.iconst 0, 1) := by decide +kernel
theorem dX3_input_29 : decode cX3_input 29 = .ok (.invokevirtual 29, 3) := by decide +kernel
theorem dX3_input_32 : decode cX3_input 32 = .ok (.ireturn, 1) := by decide +kernel
theorem dX3_match_0 : decode cX3_match 0 = .ok (.iload_n 1, 1) := by decide +kernel
theorem dX3_match_1 : decode cX3_match 1 = .ok (.invokestatic 33, 3) := by decide +kernel
theorem dX3_match_4 : decode cX3_match 4 = .ok (.ifCond .eq 21, 3) := by decide +kernel
theorem dX3_match_7 : decode cX3_match 7 = .ok (.iload_n 2, 1) := by decide +kernel
theorem dX3_match_8 : decode cX3_match 8 = .ok (.invokestatic 33, 3) := by decide +kernel
theorem dX3_match_11 : decode cX3_match 11 = .ok (.ifCond .eq 14, 3) := by decide +kernel
theorem dX3_match_14 : decode cX3_match 14 = .ok (.aload_n 0, 1) := by decide +kernel
theorem dX3_match_15 : decode cX3_match 15 = .ok (.getfield 10, 3) := by decide +kernel
theorem dX3_match_18 : decode cX3_match 18 = .ok (.iload_n 3, 1) := by decide +kernel
theorem dX3_match_19 : decode cX3_match 19 = .ok (.invokevirtual 25, 3) := by decide +kernel
theorem dX3_match_22 : decode cX3_match 22 = .ok (.ifCond .ne 5, 3) := by decide +kernel
theorem dX3_match_25 : decode cX3_match 25 = .ok (.iconst (-1), 1) := by decide +kernel
theorem dX3_match_26 : decode cX3_match 26 = .ok (.ireturn, 1) := by decide +kernel
theorem dX3_match_27 : decode cX3_match 27 = .ok (.aload_n 0, 1) := by decide +kernel
theorem dX3_match_28 : decode cX3_match 28 = .ok (.getfield 10, 3) := by decide +kernel
theorem dX3_match_31 : decode cX3_match 31 = .ok (.iconst 4, 1) := by decide +kernel
theorem dX3_match_32 : decode cX3_match 32 = .ok (.iload_n 1, 1) := by decide +kernel
theorem dX3_match_33 : decode cX3_match 33 = .ok (.iload_n 2, 1) := by decide +kernel
theorem dX3_match_34 : decode cX3_match 34 = .ok (.iload_n 3, 1) := by decide +kernel
theorem dX3_match_35 : decode cX3_match 35 = .ok (.iconst 0, 1) := by decide +kernel
theorem dX3_match_36 : decode cX3_match 36 = .ok (.invokevirtual 29, 3) := by decide +kernel
theorem dX3_match_39 : decode cX3_match 39 = .ok (.ireturn, 1) := by decide +kernel
theorem dX3_sum_0 : decode cX3_sum 0 = .ok (.aload_n 0, 1) := by decide +kernel
theorem dX3_sum_1 : decode cX3_sum 1 = .ok (.getfield 10, 3) := by decide +kernel
theorem dX3_sum_4 : decode cX3_sum 4 = .ok (.iload_n 1, 1) := by decide +kernel
theorem dX3_sum_5 : decode cX3_sum 5 = .ok (.invokevirtual 25, 3) := by decide +kernel
theorem dX3_sum_8 : decode cX3_sum 8 = .ok (.ifCond .eq 14, 3) := by decide +kernel
theorem dX3_sum_11 : decode cX3_sum 11 = .ok (.aload_n 0, 1) := by decide +kernel
theorem dX3_sum_12 : decode cX3_sum 12 = .ok (.getfield 10, 3) := by decide +kernel
theorem dX3_sum_15 : decode cX3_sum 15 = .ok (.iload_n 2, 1) := by decide +kernel
theorem dX3_sum_16 : decode cX3_sum 16 = .ok (.invokevirtual 25, 3) := by decide +kernel
theorem dX3_sum_19 : decode cX3_sum 19 = .ok (.ifCond .ne 5, 3) := by decide +kernel
theorem dX3_sum_22 : decode cX3_sum 22 = .ok (.iconst (-1), 1) := by decide +kernel
theorem dX3_sum_23 : decode cX3_sum 23 = .ok (.ireturn, 1) := by decide +kernel
theorem dX3_sum_24 : decode cX3_sum 24 = .ok (.aload_n 0, 1) := by decide +kernel
theorem dX3_sum_25 : decode cX3_sum 25 = .ok (.getfield 10, 3) := by decide +kernel
theorem dX3_sum_28 : decode cX3_sum 28 = .ok (.iconst 5, 1) := by decide +kernel
theorem dX3_sum_29 : decode cX3_sum 29 = .ok (.iconst 0, 1) := by decide +kernel
theorem dX3_sum_30 : decode cX3_sum 30 = .ok (.iconst 0, 1) := by decide +kernel
theorem dX3_sum_31 : decode cX3_sum 31 = .ok (.iload_n 1, 1) := by decide +kernel
theorem dX3_sum_32 : decode cX3_sum 32 = .ok (.iload_n 2, 1) := by decide +kernel
theorem dX3_sum_33 : decode cX3_sum 33 = .ok (.invokevirtual 29, 3) := by decide +kernel
theorem dX3_sum_36 : decode cX3_sum 36 = .ok (.ireturn, 1) := by decide +kernel
theorem dX3_removeLast_0 : decode cX3_removeLast 0 = .ok (.aload_n 0, 1) := by decide +kernel
theorem dX3_removeLast_1 : decode cX3_removeLast 1 = .ok (.getfield 10, 3) := by decide +kernel
theorem dX3_removeLast_4 : decode cX3_removeLast 4 = .ok (.getfield 36, 3) := by decide +kernel
theorem dX3_removeLast_7 : decode cX3_removeLast 7 = .ok (.iconst 1, 1) := by decide +kernel
theorem dX3_removeLast_8 : decode cX3_removeLast 8 = .ok (.isub, 1) := by decide +kernel
theorem dX3_removeLast_9 : decode cX3_removeLast 9 = .ok (.istore_n 1, 1) := by decide +kernel
theorem dX3_removeLast_10 : decode cX3_removeLast 10 = .ok (.iload_n 1, 1) := by decide +kernel
theorem dX3_removeLast_11 : decode cX3_removeLast 11 = .ok (.iconst 1, 1) := by decide +kernel
theorem dX3_removeLast_12 : decode cX3_removeLast 12 = .ok (.if_icmp .ge 6, 3) := by decide +kernel
theorem dX3_removeLast_15 : decode cX3_removeLast 15 = .ok (.bipush (-4), 2) := by decide +kernel
theorem dX3_removeLast_17 : decode cX3_removeLast 17 = .ok (.ireturn, 1) := by decide +kernel
theorem dX3_removeLast_18 : decode cX3_removeLast 18 = .ok (.aload_n 0, 1) := by decide +kernel
theorem dX3_removeLast_19 : decode cX3_removeLast 19 = .ok (.getfield 10, 3) := by decide +kernel
theorem dX3_removeLast_22 : decode cX3_removeLast 22 = .ok (.iload_n 1, 1) := by decide +kernel
theorem dX3_removeLast_23 : decode cX3_removeLast 23 = .ok (.putfield 36, 3) := by decide +kernel
theorem dX3_removeLast_26 : decode cX3_removeLast 26 = .ok (.aload_n 0, 1) := by decide +kernel
theorem dX3_removeLast_27 : decode cX3_removeLast 27 = .ok (.getfield 21, 3) := by decide +kernel
theorem dX3_removeLast_30 : decode cX3_removeLast 30 = .ok (.iload_n 1, 1) := by decide +kernel
theorem dX3_removeLast_31 : decode cX3_removeLast 31 = .ok (.invokevirtual 40, 3) := by decide +kernel
theorem dX3_removeLast_34 : decode cX3_removeLast 34 = .ok (.iload_n 1, 1) := by decide +kernel
theorem dX3_removeLast_35 : decode cX3_removeLast 35 = .ok (.ireturn, 1) := by decide +kernel
theorem dX3_processCount_0 : decode cX3_processCount 0 = .ok (.aload_n 0, 1) := by decide +kernel
theorem dX3_processCount_1 : decode cX3_processCount 1 = .ok (.getfield 10, 3) := by decide +kernel
theorem dX3_processCount_4 : decode cX3_processCount 4 = .ok (.getfield 36, 3) := by decide +kernel
theorem dX3_processCount_7 : decode cX3_processCount 7 = .ok (.ireturn, 1) := by decide +kernel
theorem dX3_kindOf_0 : decode cX3_kindOf 0 = .ok (.aload_n 0, 1) := by decide +kernel
theorem dX3_kindOf_1 : decode cX3_kindOf 1 = .ok (.getfield 10, 3) := by decide +kernel
theorem dX3_kindOf_4 : decode cX3_kindOf 4 = .ok (.iload_n 1, 1) := by decide +kernel
theorem dX3_kindOf_5 : decode cX3_kindOf 5 = .ok (.invokevirtual 25, 3) := by decide +kernel
theorem dX3_kindOf_8 : decode cX3_kindOf 8 = .ok (.ifCond .eq 17, 3) := by decide +kernel
theorem dX3_kindOf_11 : decode cX3_kindOf 11 = .ok (.aload_n 0, 1) := by decide +kernel
theorem dX3_kindOf_12 : decode cX3_kindOf 12 = .ok (.getfield 10, 3) := by decide +kernel
theorem dX3_kindOf_15 : decode cX3_kindOf 15 = .ok (.getfield 44, 3) := by decide +kernel
theorem dX3_kindOf_18 : decode cX3_kindOf 18 = .ok (.iload_n 1, 1) := by decide +kernel
theorem dX3_kindOf_19 : decode cX3_kindOf 19 = .ok (.invokestatic 48, 3) := by decide +kernel
theorem dX3_kindOf_22 : decode cX3_kindOf 22 = .ok (.goto 4, 3) := by decide +kernel
theorem dX3_kindOf_25 : decode cX3_kindOf 25 = .ok (.iconst (-1), 1) := by decide +kernel
theorem dX3_kindOf_26 : decode cX3_kindOf 26 = .ok (.ireturn, 1) := by decide +kernel
theorem dX3_partOf_0 : decode cX3_partOf 0 = .ok (.aload_n 0, 1) := by decide +kernel
theorem dX3_partOf_1 : decode cX3_partOf 1 = .ok (.getfield 10, 3) := by decide +kernel
theorem dX3_partOf_4 : decode cX3_partOf 4 = .ok (.iload_n 1, 1) := by decide +kernel
theorem dX3_partOf_5 : decode cX3_partOf 5 = .ok (.invokevirtual 25, 3) := by decide +kernel
theorem dX3_partOf_8 : decode cX3_partOf 8 = .ok (.ifCond .eq 12, 3) := by decide +kernel
theorem dX3_partOf_11 : decode cX3_partOf 11 = .ok (.iload_n 2, 1) := by decide +kernel
theorem dX3_partOf_12 : decode cX3_partOf 12 = .ok (.ifCond .lt 8, 3) := by decide +kernel
theorem dX3_partOf_15 : decode cX3_partOf 15 = .ok (.iload_n 2, 1) := by decide +kernel
theorem dX3_partOf_16 : decode cX3_partOf 16 = .ok (.iconst 1, 1) := by decide +kernel
theorem dX3_partOf_17 : decode cX3_partOf 17 = .ok (.if_icmp .le 5, 3) := by decide +kernel
theorem dX3_partOf_20 : decode cX3_partOf 20 = .ok (.iconst (-1), 1) := by decide +kernel
theorem dX3_partOf_21 : decode cX3_partOf 21 = .ok (.ireturn, 1) := by decide +kernel
theorem dX3_partOf_22 : decode cX3_partOf 22 = .ok (.iload_n 2, 1) := by decide +kernel
theorem dX3_partOf_23 : decode cX3_partOf 23 = .ok (.aload_n 0, 1) := by decide +kernel
theorem dX3_partOf_24 : decode cX3_partOf 24 = .ok (.getfield 10, 3) := by decide +kernel
theorem dX3_partOf_27 : decode cX3_partOf 27 = .ok (.getfield 44, 3) := by decide +kernel
theorem dX3_partOf_30 : decode cX3_partOf 30 = .ok (.iload_n 1, 1) := by decide +kernel
theorem dX3_partOf_31 : decode cX3_partOf 31 = .ok (.invokestatic 48, 3) := by decide +kernel
theorem dX3_partOf_34 : decode cX3_partOf 34 = .ok (.invokestatic 52, 3) := by decide +kernel
theorem dX3_partOf_37 : decode cX3_partOf 37 = .ok (.if_icmp .lt 6, 3) := by decide +kernel
theorem dX3_partOf_40 : decode cX3_partOf 40 = .ok (.bipush (-4), 2) := by decide +kernel
theorem dX3_partOf_42 : decode cX3_partOf 42 = .ok (.ireturn, 1) := by decide +kernel
theorem dX3_partOf_43 : decode cX3_partOf 43 = .ok (.iload_n 2, 1) := by decide +kernel
theorem dX3_partOf_44 : decode cX3_partOf 44 = .ok (.ifCond .ne 13, 3) := by decide +kernel
theorem dX3_partOf_47 : decode cX3_partOf 47 = .ok (.aload_n 0, 1) := by decide +kernel
theorem dX3_partOf_48 : decode cX3_partOf 48 = .ok (.getfield 10, 3) := by decide +kernel
theorem dX3_partOf_51 : decode cX3_partOf 51 = .ok (.getfield 56, 3) := by decide +kernel
theorem dX3_partOf_54 : decode cX3_partOf 54 = .ok (.goto 10, 3) := by decide +kernel
theorem dX3_partOf_57 : decode cX3_partOf 57 = .ok (.aload_n 0, 1) := by decide +kernel
theorem dX3_partOf_58 : decode cX3_partOf 58 = .ok (.getfield 10, 3) := by decide +kernel
theorem dX3_partOf_61 : decode cX3_partOf 61 = .ok (.getfield 59, 3) := by decide +kernel
theorem dX3_partOf_64 : decode cX3_partOf 64 = .ok (.iload_n 1, 1) := by decide +kernel
theorem dX3_partOf_65 : decode cX3_partOf 65 = .ok (.invokestatic 48, 3) := by decide +kernel
theorem dX3_partOf_68 : decode cX3_partOf 68 = .ok (.ireturn, 1) := by decide +kernel
theorem dX3_depthOf_0 : decode cX3_depthOf 0 = .ok (.aload_n 0, 1) := by decide +kernel
theorem dX3_depthOf_1 : decode cX3_depthOf 1 = .ok (.getfield 10, 3) := by decide +kernel
theorem dX3_depthOf_4 : decode cX3_depthOf 4 = .ok (.iload_n 1, 1) := by decide +kernel
theorem dX3_depthOf_5 : decode cX3_depthOf 5 = .ok (.invokevirtual 25, 3) := by decide +kernel
theorem dX3_depthOf_8 : decode cX3_depthOf 8 = .ok (.ifCond .eq 17, 3) := by decide +kernel
theorem dX3_depthOf_11 : decode cX3_depthOf 11 = .ok (.aload_n 0, 1) := by decide +kernel
theorem dX3_depthOf_12 : decode cX3_depthOf 12 = .ok (.getfield 10, 3) := by decide +kernel
theorem dX3_depthOf_15 : decode cX3_depthOf 15 = .ok (.getfield 62, 3) := by decide +kernel
theorem dX3_depthOf_18 : decode cX3_depthOf 18 = .ok (.iload_n 1, 1) := by decide +kernel
theorem dX3_depthOf_19 : decode cX3_depthOf 19 = .ok (.invokestatic 48, 3) := by decide +kernel
theorem dX3_depthOf_22 : decode cX3_depthOf 22 = .ok (.goto 4, 3) := by decide +kernel
theorem dX3_depthOf_25 : decode cX3_depthOf 25 = .ok (.iconst (-1), 1) := by decide +kernel
theorem dX3_depthOf_26 : decode cX3_depthOf 26 = .ok (.ireturn, 1) := by decide +kernel
theorem dX3_needOf_0 : decode cX3_needOf 0 = .ok (.aload_n 0, 1) := by decide +kernel
theorem dX3_needOf_1 : decode cX3_needOf 1 = .ok (.getfield 10, 3) := by decide +kernel
theorem dX3_needOf_4 : decode cX3_needOf 4 = .ok (.iload_n 1, 1) := by decide +kernel
theorem dX3_needOf_5 : decode cX3_needOf 5 = .ok (.invokevirtual 25, 3) := by decide +kernel
theorem dX3_needOf_8 : decode cX3_needOf 8 = .ok (.ifCond .eq 17, 3) := by decide +kernel
theorem dX3_needOf_11 : decode cX3_needOf 11 = .ok (.aload_n 0, 1) := by decide +kernel
theorem dX3_needOf_12 : decode cX3_needOf 12 = .ok (.getfield 10, 3) := by decide +kernel
theorem dX3_needOf_15 : decode cX3_needOf 15 = .ok (.getfield 65, 3) := by decide +kernel
theorem dX3_needOf_18 : decode cX3_needOf 18 = .ok (.iload_n 1, 1) := by decide +kernel
theorem dX3_needOf_19 : decode cX3_needOf 19 = .ok (.invokestatic 48, 3) := by decide +kernel
theorem dX3_needOf_22 : decode cX3_needOf 22 = .ok (.goto 4, 3) := by decide +kernel
theorem dX3_needOf_25 : decode cX3_needOf 25 = .ok (.iconst (-1), 1) := by decide +kernel
theorem dX3_needOf_26 : decode cX3_needOf 26 = .ok (.ireturn, 1) := by decide +kernel
theorem dX3_textLength_0 : decode cX3_textLength 0 = .ok (.aload_n 0, 1) := by decide +kernel
theorem dX3_textLength_1 : decode cX3_textLength 1 = .ok (.getfield 10, 3) := by decide +kernel
theorem dX3_textLength_4 : decode cX3_textLength 4 = .ok (.iload_n 1, 1) := by decide +kernel
theorem dX3_textLength_5 : decode cX3_textLength 5 = .ok (.invokevirtual 25, 3) := by decide +kernel
theorem dX3_textLength_8 : decode cX3_textLength 8 = .ok (.ifCond .eq 17, 3) := by decide +kernel
theorem dX3_textLength_11 : decode cX3_textLength 11 = .ok (.aload_n 0, 1) := by decide +kernel
theorem dX3_textLength_12 : decode cX3_textLength 12 = .ok (.getfield 10, 3) := by decide +kernel
theorem dX3_textLength_15 : decode cX3_textLength 15 = .ok (.getfield 68, 3) := by decide +kernel
theorem dX3_textLength_18 : decode cX3_textLength 18 = .ok (.iload_n 1, 1) := by decide +kernel
theorem dX3_textLength_19 : decode cX3_textLength 19 = .ok (.invokestatic 48, 3) := by decide +kernel
theorem dX3_textLength_22 : decode cX3_textLength 22 = .ok (.goto 4, 3) := by decide +kernel
theorem dX3_textLength_25 : decode cX3_textLength 25 = .ok (.iconst (-1), 1) := by decide +kernel
theorem dX3_textLength_26 : decode cX3_textLength 26 = .ok (.ireturn, 1) := by decide +kernel
theorem dX3_textAt_0 : decode cX3_textAt 0 = .ok (.aload_n 0, 1) := by decide +kernel
theorem dX3_textAt_1 : decode cX3_textAt 1 = .ok (.getfield 10, 3) := by decide +kernel
theorem dX3_textAt_4 : decode cX3_textAt 4 = .ok (.iload_n 1, 1) := by decide +kernel
theorem dX3_textAt_5 : decode cX3_textAt 5 = .ok (.invokevirtual 25, 3) := by decide +kernel
theorem dX3_textAt_8 : decode cX3_textAt 8 = .ok (.ifCond .eq 7, 3) := by decide +kernel
theorem dX3_textAt_11 : decode cX3_textAt 11 = .ok (.iload_n 2, 1) := by decide +kernel
theorem dX3_textAt_12 : decode cX3_textAt 12 = .ok (.ifCond .ge 5, 3) := by decide +kernel
theorem dX3_textAt_15 : decode cX3_textAt 15 = .ok (.iconst (-1), 1) := by decide +kernel
theorem dX3_textAt_16 : decode cX3_textAt 16 = .ok (.ireturn, 1) := by decide +kernel
theorem dX3_textAt_17 : decode cX3_textAt 17 = .ok (.iload_n 2, 1) := by decide +kernel
theorem dX3_textAt_18 : decode cX3_textAt 18 = .ok (.aload_n 0, 1) := by decide +kernel
theorem dX3_textAt_19 : decode cX3_textAt 19 = .ok (.getfield 10, 3) := by decide +kernel
theorem dX3_textAt_22 : decode cX3_textAt 22 = .ok (.getfield 68, 3) := by decide +kernel
theorem dX3_textAt_25 : decode cX3_textAt 25 = .ok (.iload_n 1, 1) := by decide +kernel
theorem dX3_textAt_26 : decode cX3_textAt 26 = .ok (.invokestatic 48, 3) := by decide +kernel
theorem dX3_textAt_29 : decode cX3_textAt 29 = .ok (.if_icmp .lt 6, 3) := by decide +kernel
theorem dX3_textAt_32 : decode cX3_textAt 32 = .ok (.bipush (-4), 2) := by decide +kernel
theorem dX3_textAt_34 : decode cX3_textAt 34 = .ok (.ireturn, 1) := by decide +kernel
theorem dX3_textAt_35 : decode cX3_textAt 35 = .ok (.aload_n 0, 1) := by decide +kernel
theorem dX3_textAt_36 : decode cX3_textAt 36 = .ok (.getfield 10, 3) := by decide +kernel
theorem dX3_textAt_39 : decode cX3_textAt 39 = .ok (.iload_n 1, 1) := by decide +kernel
theorem dX3_textAt_40 : decode cX3_textAt 40 = .ok (.iload_n 2, 1) := by decide +kernel
theorem dX3_textAt_41 : decode cX3_textAt 41 = .ok (.invokevirtual 71, 3) := by decide +kernel
theorem dX3_textAt_44 : decode cX3_textAt 44 = .ok (.ireturn, 1) := by decide +kernel
theorem dX3_moveCount_0 : decode cX3_moveCount 0 = .ok (.aload_n 0, 1) := by decide +kernel
theorem dX3_moveCount_1 : decode cX3_moveCount 1 = .ok (.getfield 10, 3) := by decide +kernel
theorem dX3_moveCount_4 : decode cX3_moveCount 4 = .ok (.iload_n 1, 1) := by decide +kernel
theorem dX3_moveCount_5 : decode cX3_moveCount 5 = .ok (.invokevirtual 25, 3) := by decide +kernel
theorem dX3_moveCount_8 : decode cX3_moveCount 8 = .ok (.ifCond .ne 5, 3) := by decide +kernel
theorem dX3_moveCount_11 : decode cX3_moveCount 11 = .ok (.iconst (-1), 1) := by decide +kernel
theorem dX3_moveCount_12 : decode cX3_moveCount 12 = .ok (.ireturn, 1) := by decide +kernel
theorem dX3_moveCount_13 : decode cX3_moveCount 13 = .ok (.aload_n 0, 1) := by decide +kernel
theorem dX3_moveCount_14 : decode cX3_moveCount 14 = .ok (.getfield 10, 3) := by decide +kernel
theorem dX3_moveCount_17 : decode cX3_moveCount 17 = .ok (.iload_n 1, 1) := by decide +kernel
theorem dX3_moveCount_18 : decode cX3_moveCount 18 = .ok (.invokevirtual 75, 3) := by decide +kernel
theorem dX3_moveCount_21 : decode cX3_moveCount 21 = .ok (.ifCond .eq 14, 3) := by decide +kernel
theorem dX3_moveCount_24 : decode cX3_moveCount 24 = .ok (.aload_n 0, 1) := by decide +kernel
theorem dX3_moveCount_25 : decode cX3_moveCount 25 = .ok (.getfield 10, 3) := by decide +kernel
theorem dX3_moveCount_28 : decode cX3_moveCount 28 = .ok (.iload_n 1, 1) := by decide +kernel
theorem dX3_moveCount_29 : decode cX3_moveCount 29 = .ok (.invokevirtual 78, 3) := by decide +kernel
theorem dX3_moveCount_32 : decode cX3_moveCount 32 = .ok (.goto 5, 3) := by decide +kernel
theorem dX3_moveCount_35 : decode cX3_moveCount 35 = .ok (.bipush (-2), 2) := by decide +kernel
theorem dX3_moveCount_37 : decode cX3_moveCount 37 = .ok (.ireturn, 1) := by decide +kernel
theorem dX3_moveKind_0 : decode cX3_moveKind 0 = .ok (.aload_n 0, 1) := by decide +kernel
theorem dX3_moveKind_1 : decode cX3_moveKind 1 = .ok (.iload_n 1, 1) := by decide +kernel
theorem dX3_moveKind_2 : decode cX3_moveKind 2 = .ok (.iload_n 2, 1) := by decide +kernel
theorem dX3_moveKind_3 : decode cX3_moveKind 3 = .ok (.invokevirtual 81, 3) := by decide +kernel
theorem dX3_moveKind_6 : decode cX3_moveKind 6 = .ok (.istore_n 3, 1) := by decide +kernel
theorem dX3_moveKind_7 : decode cX3_moveKind 7 = .ok (.iload_n 3, 1) := by decide +kernel
theorem dX3_moveKind_8 : decode cX3_moveKind 8 = .ok (.ifCond .ge 7, 3) := by decide +kernel
theorem dX3_moveKind_11 : decode cX3_moveKind 11 = .ok (.iload_n 3, 1) := by decide +kernel
theorem dX3_moveKind_12 : decode cX3_moveKind 12 = .ok (.goto 14, 3) := by decide +kernel
theorem dX3_moveKind_15 : decode cX3_moveKind 15 = .ok (.aload_n 0, 1) := by decide +kernel
theorem dX3_moveKind_16 : decode cX3_moveKind 16 = .ok (.getfield 10, 3) := by decide +kernel
theorem dX3_moveKind_19 : decode cX3_moveKind 19 = .ok (.getfield 44, 3) := by decide +kernel
theorem dX3_moveKind_22 : decode cX3_moveKind 22 = .ok (.iload_n 3, 1) := by decide +kernel
theorem dX3_moveKind_23 : decode cX3_moveKind 23 = .ok (.invokestatic 48, 3) := by decide +kernel
theorem dX3_moveKind_26 : decode cX3_moveKind 26 = .ok (.ireturn, 1) := by decide +kernel
theorem dX3_moveNames_0 : decode cX3_moveNames 0 = .ok (.aload_n 0, 1) := by decide +kernel
theorem dX3_moveNames_1 : decode cX3_moveNames 1 = .ok (.iload_n 1, 1) := by decide +kernel
theorem dX3_moveNames_2 : decode cX3_moveNames 2 = .ok (.iload_n 2, 1) := by decide +kernel
theorem dX3_moveNames_3 : decode cX3_moveNames 3 = .ok (.invokevirtual 81, 3) := by decide +kernel
theorem dX3_moveNames_6 : decode cX3_moveNames 6 = .ok (.istore_n 3, 1) := by decide +kernel
theorem dX3_moveNames_7 : decode cX3_moveNames 7 = .ok (.iload_n 3, 1) := by decide +kernel
theorem dX3_moveNames_8 : decode cX3_moveNames 8 = .ok (.ifCond .ge 5, 3) := by decide +kernel
theorem dX3_moveNames_11 : decode cX3_moveNames 11 = .ok (.iload_n 3, 1) := by decide +kernel
theorem dX3_moveNames_12 : decode cX3_moveNames 12 = .ok (.ireturn, 1) := by decide +kernel
theorem dX3_moveNames_13 : decode cX3_moveNames 13 = .ok (.aload_n 0, 1) := by decide +kernel
theorem dX3_moveNames_14 : decode cX3_moveNames 14 = .ok (.getfield 10, 3) := by decide +kernel
theorem dX3_moveNames_17 : decode cX3_moveNames 17 = .ok (.getfield 44, 3) := by decide +kernel
theorem dX3_moveNames_20 : decode cX3_moveNames 20 = .ok (.iload_n 3, 1) := by decide +kernel
theorem dX3_moveNames_21 : decode cX3_moveNames 21 = .ok (.invokestatic 48, 3) := by decide +kernel
theorem dX3_moveNames_24 : decode cX3_moveNames 24 = .ok (.istore 4, 2) := by decide +kernel
theorem dX3_moveNames_26 : decode cX3_moveNames 26 = .ok (.iload 4, 2) := by decide +kernel
theorem dX3_moveNames_28 : decode cX3_moveNames 28 = .ok (.iconst 1, 1) := by decide +kernel
theorem dX3_moveNames_29 : decode cX3_moveNames 29 = .ok (.if_icmp .ne 8, 3) := by decide +kernel
theorem dX3_moveNames_32 : decode cX3_moveNames 32 = .ok (.bipush 9, 2) := by decide +kernel
theorem dX3_moveNames_34 : decode cX3_moveNames 34 = .ok (.goto 14, 3) := by decide +kernel
theorem dX3_moveNames_37 : decode cX3_moveNames 37 = .ok (.aload_n 0, 1) := by decide +kernel
theorem dX3_moveNames_38 : decode cX3_moveNames 38 = .ok (.getfield 10, 3) := by decide +kernel
theorem dX3_moveNames_41 : decode cX3_moveNames 41 = .ok (.getfield 84, 3) := by decide +kernel
theorem dX3_moveNames_44 : decode cX3_moveNames 44 = .ok (.iload_n 3, 1) := by decide +kernel
theorem dX3_moveNames_45 : decode cX3_moveNames 45 = .ok (.invokestatic 48, 3) := by decide +kernel
theorem dX3_moveNames_48 : decode cX3_moveNames 48 = .ok (.istore 5, 2) := by decide +kernel
theorem dX3_moveNames_50 : decode cX3_moveNames 50 = .ok (.iload 4, 2) := by decide +kernel
theorem dX3_moveNames_52 : decode cX3_moveNames 52 = .ok (.iconst 2, 1) := by decide +kernel
theorem dX3_moveNames_53 : decode cX3_moveNames 53 = .ok (.if_icmp .ne 17, 3) := by decide +kernel
theorem dX3_moveNames_56 : decode cX3_moveNames 56 = .ok (.aload_n 0, 1) := by decide +kernel
theorem dX3_moveNames_57 : decode cX3_moveNames 57 = .ok (.getfield 10, 3) := by decide +kernel
theorem dX3_moveNames_60 : decode cX3_moveNames 60 = .ok (.getfield 87, 3) := by decide +kernel
theorem dX3_moveNames_63 : decode cX3_moveNames 63 = .ok (.iload_n 3, 1) := by decide +kernel
theorem dX3_moveNames_64 : decode cX3_moveNames 64 = .ok (.invokestatic 48, 3) := by decide +kernel
theorem dX3_moveNames_67 : decode cX3_moveNames 67 = .ok (.goto 5, 3) := by decide +kernel
theorem dX3_moveNames_70 : decode cX3_moveNames 70 = .ok (.bipush 9, 2) := by decide +kernel
theorem dX3_moveNames_72 : decode cX3_moveNames 72 = .ok (.istore 6, 2) := by decide +kernel
theorem dX3_moveNames_74 : decode cX3_moveNames 74 = .ok (.bipush 10, 2) := by decide +kernel
theorem dX3_moveNames_76 : decode cX3_moveNames 76 = .ok (.iload 5, 2) := by decide +kernel
theorem dX3_moveNames_78 : decode cX3_moveNames 78 = .ok (.imul, 1) := by decide +kernel
theorem dX3_moveNames_79 : decode cX3_moveNames 79 = .ok (.iload 6, 2) := by decide +kernel
theorem dX3_moveNames_81 : decode cX3_moveNames 81 = .ok (.iadd, 1) := by decide +kernel
theorem dX3_moveNames_82 : decode cX3_moveNames 82 = .ok (.ireturn, 1) := by decide +kernel
theorem dX3_moveTarget_0 : decode cX3_moveTarget 0 = .ok (.aload_n 0, 1) := by decide +kernel
theorem dX3_moveTarget_1 : decode cX3_moveTarget 1 = .ok (.iload_n 1, 1) := by decide +kernel
theorem dX3_moveTarget_2 : decode cX3_moveTarget 2 = .ok (.iload_n 2, 1) := by decide +kernel
theorem dX3_moveTarget_3 : decode cX3_moveTarget 3 = .ok (.invokevirtual 81, 3) := by decide +kernel
theorem dX3_moveTarget_6 : decode cX3_moveTarget 6 = .ok (.istore_n 3, 1) := by decide +kernel
theorem dX3_moveTarget_7 : decode cX3_moveTarget 7 = .ok (.iload_n 3, 1) := by decide +kernel
theorem dX3_moveTarget_8 : decode cX3_moveTarget 8 = .ok (.ifCond .ge 7, 3) := by decide +kernel
theorem dX3_moveTarget_11 : decode cX3_moveTarget 11 = .ok (.iload_n 3, 1) := by decide +kernel
theorem dX3_moveTarget_12 : decode cX3_moveTarget 12 = .ok (.goto 14, 3) := by decide +kernel
theorem dX3_moveTarget_15 : decode cX3_moveTarget 15 = .ok (.aload_n 0, 1) := by decide +kernel
theorem dX3_moveTarget_16 : decode cX3_moveTarget 16 = .ok (.getfield 10, 3) := by decide +kernel
theorem dX3_moveTarget_19 : decode cX3_moveTarget 19 = .ok (.getfield 56, 3) := by decide +kernel
theorem dX3_moveTarget_22 : decode cX3_moveTarget 22 = .ok (.iload_n 3, 1) := by decide +kernel
theorem dX3_moveTarget_23 : decode cX3_moveTarget 23 = .ok (.invokestatic 48, 3) := by decide +kernel
theorem dX3_moveTarget_26 : decode cX3_moveTarget 26 = .ok (.ireturn, 1) := by decide +kernel
theorem dX3_areRelated_0 : decode cX3_areRelated 0 = .ok (.aload_n 0, 1) := by decide +kernel
theorem dX3_areRelated_1 : decode cX3_areRelated 1 = .ok (.iload_n 1, 1) := by decide +kernel
theorem dX3_areRelated_2 : decode cX3_areRelated 2 = .ok (.iload_n 2, 1) := by decide +kernel
theorem dX3_areRelated_3 : decode cX3_areRelated 3 = .ok (.iload_n 3, 1) := by decide +kernel
theorem dX3_areRelated_4 : decode cX3_areRelated 4 = .ok (.invokevirtual 90, 3) := by decide +kernel
theorem dX3_areRelated_7 : decode cX3_areRelated 7 = .ok (.istore 4, 2) := by decide +kernel
theorem dX3_areRelated_9 : decode cX3_areRelated 9 = .ok (.iload 4, 2) := by decide +kernel
theorem dX3_areRelated_11 : decode cX3_areRelated 11 = .ok (.ifCond .ge 6, 3) := by decide +kernel
theorem dX3_areRelated_14 : decode cX3_areRelated 14 = .ok (.iload 4, 2) := by decide +kernel
theorem dX3_areRelated_16 : decode cX3_areRelated 16 = .ok (.ireturn, 1) := by decide +kernel
theorem dX3_areRelated_17 : decode cX3_areRelated 17 = .ok (.aload_n 0, 1) := by decide +kernel
theorem dX3_areRelated_18 : decode cX3_areRelated 18 = .ok (.getfield 21, 3) := by decide +kernel
theorem dX3_areRelated_21 : decode cX3_areRelated 21 = .ok (.iload_n 1, 1) := by decide +kernel
theorem dX3_areRelated_22 : decode cX3_areRelated 22 = .ok (.iload_n 2, 1) := by decide +kernel
theorem dX3_areRelated_23 : decode cX3_areRelated 23 = .ok (.iload_n 3, 1) := by decide +kernel
theorem dX3_areRelated_24 : decode cX3_areRelated 24 = .ok (.invokevirtual 94, 3) := by decide +kernel
theorem dX3_areRelated_27 : decode cX3_areRelated 27 = .ok (.bipush (-4), 2) := by decide +kernel
theorem dX3_areRelated_29 : decode cX3_areRelated 29 = .ok (.if_icmp .ne 7, 3) := by decide +kernel
theorem dX3_areRelated_32 : decode cX3_areRelated 32 = .ok (.iconst 1, 1) := by decide +kernel
theorem dX3_areRelated_33 : decode cX3_areRelated 33 = .ok (.goto 4, 3) := by decide +kernel
theorem dX3_areRelated_36 : decode cX3_areRelated 36 = .ok (.iconst 0, 1) := by decide +kernel
theorem dX3_areRelated_37 : decode cX3_areRelated 37 = .ok (.ireturn, 1) := by decide +kernel
theorem dX3_rounds_0 : decode cX3_rounds 0 = .ok (.aload_n 0, 1) := by decide +kernel
theorem dX3_rounds_1 : decode cX3_rounds 1 = .ok (.iload_n 1, 1) := by decide +kernel
theorem dX3_rounds_2 : decode cX3_rounds 2 = .ok (.iload_n 2, 1) := by decide +kernel
theorem dX3_rounds_3 : decode cX3_rounds 3 = .ok (.iload_n 3, 1) := by decide +kernel
theorem dX3_rounds_4 : decode cX3_rounds 4 = .ok (.invokevirtual 90, 3) := by decide +kernel
theorem dX3_rounds_7 : decode cX3_rounds 7 = .ok (.istore 4, 2) := by decide +kernel
theorem dX3_rounds_9 : decode cX3_rounds 9 = .ok (.iload 4, 2) := by decide +kernel
theorem dX3_rounds_11 : decode cX3_rounds 11 = .ok (.ifCond .ge 8, 3) := by decide +kernel
theorem dX3_rounds_14 : decode cX3_rounds 14 = .ok (.iload 4, 2) := by decide +kernel
theorem dX3_rounds_16 : decode cX3_rounds 16 = .ok (.goto 13, 3) := by decide +kernel
theorem dX3_rounds_19 : decode cX3_rounds 19 = .ok (.aload_n 0, 1) := by decide +kernel
theorem dX3_rounds_20 : decode cX3_rounds 20 = .ok (.getfield 21, 3) := by decide +kernel
theorem dX3_rounds_23 : decode cX3_rounds 23 = .ok (.iload_n 1, 1) := by decide +kernel
theorem dX3_rounds_24 : decode cX3_rounds 24 = .ok (.iload_n 2, 1) := by decide +kernel
theorem dX3_rounds_25 : decode cX3_rounds 25 = .ok (.iload_n 3, 1) := by decide +kernel
theorem dX3_rounds_26 : decode cX3_rounds 26 = .ok (.invokevirtual 94, 3) := by decide +kernel
theorem dX3_rounds_29 : decode cX3_rounds 29 = .ok (.ireturn, 1) := by decide +kernel
theorem dX3_firstAttack_0 : decode cX3_firstAttack 0 = .ok (.aload_n 0, 1) := by decide +kernel
theorem dX3_firstAttack_1 : decode cX3_firstAttack 1 = .ok (.iload_n 1, 1) := by decide +kernel
theorem dX3_firstAttack_2 : decode cX3_firstAttack 2 = .ok (.iload_n 2, 1) := by decide +kernel
theorem dX3_firstAttack_3 : decode cX3_firstAttack 3 = .ok (.iload_n 3, 1) := by decide +kernel
theorem dX3_firstAttack_4 : decode cX3_firstAttack 4 = .ok (.invokevirtual 90, 3) := by decide +kernel
theorem dX3_firstAttack_7 : decode cX3_firstAttack 7 = .ok (.istore 4, 2) := by decide +kernel
theorem dX3_firstAttack_9 : decode cX3_firstAttack 9 = .ok (.iload 4, 2) := by decide +kernel
theorem dX3_firstAttack_11 : decode cX3_firstAttack 11 = .ok (.ifCond .ge 8, 3) := by decide +kernel
theorem dX3_firstAttack_14 : decode cX3_firstAttack 14 = .ok (.iload 4, 2) := by decide +kernel
theorem dX3_firstAttack_16 : decode cX3_firstAttack 16 = .ok (.goto 13, 3) := by decide +kernel
theorem dX3_firstAttack_19 : decode cX3_firstAttack 19 = .ok (.aload_n 0, 1) := by decide +kernel
theorem dX3_firstAttack_20 : decode cX3_firstAttack 20 = .ok (.getfield 21, 3) := by decide +kernel
theorem dX3_firstAttack_23 : decode cX3_firstAttack 23 = .ok (.iload_n 1, 1) := by decide +kernel
theorem dX3_firstAttack_24 : decode cX3_firstAttack 24 = .ok (.iload_n 2, 1) := by decide +kernel
theorem dX3_firstAttack_25 : decode cX3_firstAttack 25 = .ok (.iload_n 3, 1) := by decide +kernel
theorem dX3_firstAttack_26 : decode cX3_firstAttack 26 = .ok (.invokevirtual 97, 3) := by decide +kernel
theorem dX3_firstAttack_29 : decode cX3_firstAttack 29 = .ok (.ireturn, 1) := by decide +kernel
theorem dX3_representative_0 : decode cX3_representative 0 = .ok (.aload_n 0, 1) := by decide +kernel
theorem dX3_representative_1 : decode cX3_representative 1 = .ok (.iload_n 1, 1) := by decide +kernel
theorem dX3_representative_2 : decode cX3_representative 2 = .ok (.iload_n 1, 1) := by decide +kernel
theorem dX3_representative_3 : decode cX3_representative 3 = .ok (.iload_n 2, 1) := by decide +kernel
theorem dX3_representative_4 : decode cX3_representative 4 = .ok (.invokevirtual 90, 3) := by decide +kernel
theorem dX3_representative_7 : decode cX3_representative 7 = .ok (.istore_n 3, 1) := by decide +kernel
theorem dX3_representative_8 : decode cX3_representative 8 = .ok (.iload_n 3, 1) := by decide +kernel
theorem dX3_representative_9 : decode cX3_representative 9 = .ok (.ifCond .ge 7, 3) := by decide +kernel
theorem dX3_representative_12 : decode cX3_representative 12 = .ok (.iload_n 3, 1) := by decide +kernel
theorem dX3_representative_13 : decode cX3_representative 13 = .ok (.goto 9, 3) := by decide +kernel
theorem dX3_representative_16 : decode cX3_representative 16 = .ok (.aload_n 0, 1) := by decide +kernel
theorem dX3_representative_17 : decode cX3_representative 17 = .ok (.iload_n 1, 1) := by decide +kernel
theorem dX3_representative_18 : decode cX3_representative 18 = .ok (.iload_n 2, 1) := by decide +kernel
theorem dX3_representative_19 : decode cX3_representative 19 = .ok (.invokevirtual 100, 3) := by decide +kernel
theorem dX3_representative_22 : decode cX3_representative 22 = .ok (.ireturn, 1) := by decide +kernel
theorem dX3_classCount_0 : decode cX3_classCount 0 = .ok (.iload_n 1, 1) := by decide +kernel
theorem dX3_classCount_1 : decode cX3_classCount 1 = .ok (.invokestatic 103, 3) := by decide +kernel
theorem dX3_classCount_4 : decode cX3_classCount 4 = .ok (.ifCond .ne 5, 3) := by decide +kernel
theorem dX3_classCount_7 : decode cX3_classCount 7 = .ok (.iconst (-1), 1) := by decide +kernel
theorem dX3_classCount_8 : decode cX3_classCount 8 = .ok (.ireturn, 1) := by decide +kernel
theorem dX3_classCount_9 : decode cX3_classCount 9 = .ok (.iconst 0, 1) := by decide +kernel
theorem dX3_classCount_10 : decode cX3_classCount 10 = .ok (.istore_n 2, 1) := by decide +kernel
theorem dX3_classCount_11 : decode cX3_classCount 11 = .ok (.iconst 0, 1) := by decide +kernel
theorem dX3_classCount_12 : decode cX3_classCount 12 = .ok (.istore_n 3, 1) := by decide +kernel
theorem dX3_classCount_13 : decode cX3_classCount 13 = .ok (.iload_n 3, 1) := by decide +kernel
theorem dX3_classCount_14 : decode cX3_classCount 14 = .ok (.aload_n 0, 1) := by decide +kernel
theorem dX3_classCount_15 : decode cX3_classCount 15 = .ok (.getfield 10, 3) := by decide +kernel
theorem dX3_classCount_18 : decode cX3_classCount 18 = .ok (.getfield 36, 3) := by decide +kernel
theorem dX3_classCount_21 : decode cX3_classCount 21 = .ok (.if_icmp .ge 33, 3) := by decide +kernel
theorem dX3_classCount_24 : decode cX3_classCount 24 = .ok (.aload_n 0, 1) := by decide +kernel
theorem dX3_classCount_25 : decode cX3_classCount 25 = .ok (.getfield 10, 3) := by decide +kernel
theorem dX3_classCount_28 : decode cX3_classCount 28 = .ok (.iload_n 3, 1) := by decide +kernel
theorem dX3_classCount_29 : decode cX3_classCount 29 = .ok (.invokevirtual 75, 3) := by decide +kernel
theorem dX3_classCount_32 : decode cX3_classCount 32 = .ok (.ifCond .eq 16, 3) := by decide +kernel
theorem dX3_classCount_35 : decode cX3_classCount 35 = .ok (.aload_n 0, 1) := by decide +kernel
theorem dX3_classCount_36 : decode cX3_classCount 36 = .ok (.iload_n 3, 1) := by decide +kernel
theorem dX3_classCount_37 : decode cX3_classCount 37 = .ok (.iload_n 1, 1) := by decide +kernel
theorem dX3_classCount_38 : decode cX3_classCount 38 = .ok (.invokevirtual 100, 3) := by decide +kernel
theorem dX3_classCount_41 : decode cX3_classCount 41 = .ok (.iload_n 3, 1) := by decide +kernel
theorem dX3_classCount_42 : decode cX3_classCount 42 = .ok (.if_icmp .ne 6, 3) := by decide +kernel
theorem dX3_classCount_45 : decode cX3_classCount 45 = .ok (.iinc 2 1, 3) := by decide +kernel
theorem dX3_classCount_48 : decode cX3_classCount 48 = .ok (.iinc 3 1, 3) := by decide +kernel
theorem dX3_classCount_51 : decode cX3_classCount 51 = .ok (.goto (-38), 3) := by decide +kernel
theorem dX3_classCount_54 : decode cX3_classCount 54 = .ok (.iload_n 2, 1) := by decide +kernel
theorem dX3_classCount_55 : decode cX3_classCount 55 = .ok (.ireturn, 1) := by decide +kernel
theorem dX3_lowestRelated_0 : decode cX3_lowestRelated 0 = .ok (.iconst 0, 1) := by decide +kernel
theorem dX3_lowestRelated_1 : decode cX3_lowestRelated 1 = .ok (.istore_n 3, 1) := by decide +kernel
theorem dX3_lowestRelated_2 : decode cX3_lowestRelated 2 = .ok (.iload_n 3, 1) := by decide +kernel
theorem dX3_lowestRelated_3 : decode cX3_lowestRelated 3 = .ok (.iload_n 1, 1) := by decide +kernel
theorem dX3_lowestRelated_4 : decode cX3_lowestRelated 4 = .ok (.if_icmp .ge 37, 3) := by decide +kernel
theorem dX3_lowestRelated_7 : decode cX3_lowestRelated 7 = .ok (.aload_n 0, 1) := by decide +kernel
theorem dX3_lowestRelated_8 : decode cX3_lowestRelated 8 = .ok (.getfield 10, 3) := by decide +kernel
theorem dX3_lowestRelated_11 : decode cX3_lowestRelated 11 = .ok (.iload_n 3, 1) := by decide +kernel
theorem dX3_lowestRelated_12 : decode cX3_lowestRelated 12 = .ok (.invokevirtual 75, 3) := by decide +kernel
theorem dX3_lowestRelated_15 : decode cX3_lowestRelated 15 = .ok (.ifCond .eq 20, 3) := by decide +kernel
theorem dX3_lowestRelated_18 : decode cX3_lowestRelated 18 = .ok (.aload_n 0, 1) := by decide +kernel
theorem dX3_lowestRelated_19 : decode cX3_lowestRelated 19 = .ok (.getfield 21, 3) := by decide +kernel
theorem dX3_lowestRelated_22 : decode cX3_lowestRelated 22 = .ok (.iload_n 1, 1) := by decide +kernel
theorem dX3_lowestRelated_23 : decode cX3_lowestRelated 23 = .ok (.iload_n 3, 1) := by decide +kernel
theorem dX3_lowestRelated_24 : decode cX3_lowestRelated 24 = .ok (.iload_n 2, 1) := by decide +kernel
theorem dX3_lowestRelated_25 : decode cX3_lowestRelated 25 = .ok (.invokevirtual 94, 3) := by decide +kernel
theorem dX3_lowestRelated_28 : decode cX3_lowestRelated 28 = .ok (.bipush (-4), 2) := by decide +kernel
theorem dX3_lowestRelated_30 : decode cX3_lowestRelated 30 = .ok (.if_icmp .ne 5, 3) := by decide +kernel
theorem dX3_lowestRelated_33 : decode cX3_lowestRelated 33 = .ok (.iload_n 3, 1) := by decide +kernel
theorem dX3_lowestRelated_34 : decode cX3_lowestRelated 34 = .ok (.ireturn, 1) := by decide +kernel
theorem dX3_lowestRelated_35 : decode cX3_lowestRelated 35 = .ok (.iinc 3 1, 3) := by decide +kernel
theorem dX3_lowestRelated_38 : decode cX3_lowestRelated 38 = .ok (.goto (-36), 3) := by decide +kernel
theorem dX3_lowestRelated_41 : decode cX3_lowestRelated 41 = .ok (.iload_n 1, 1) := by decide +kernel
theorem dX3_lowestRelated_42 : decode cX3_lowestRelated 42 = .ok (.ireturn, 1) := by decide +kernel
theorem dX3_actionOrError_0 : decode cX3_actionOrError 0 = .ok (.aload_n 0, 1) := by decide +kernel
theorem dX3_actionOrError_1 : decode cX3_actionOrError 1 = .ok (.getfield 10, 3) := by decide +kernel
theorem dX3_actionOrError_4 : decode cX3_actionOrError 4 = .ok (.iload_n 1, 1) := by decide +kernel
theorem dX3_actionOrError_5 : decode cX3_actionOrError 5 = .ok (.invokevirtual 25, 3) := by decide +kernel
theorem dX3_actionOrError_8 : decode cX3_actionOrError 8 = .ok (.ifCond .eq 7, 3) := by decide +kernel
theorem dX3_actionOrError_11 : decode cX3_actionOrError 11 = .ok (.iload_n 2, 1) := by decide +kernel
theorem dX3_actionOrError_12 : decode cX3_actionOrError 12 = .ok (.ifCond .ge 5, 3) := by decide +kernel
theorem dX3_actionOrError_15 : decode cX3_actionOrError 15 = .ok (.iconst (-1), 1) := by decide +kernel
theorem dX3_actionOrError_16 : decode cX3_actionOrError 16 = .ok (.ireturn, 1) := by decide +kernel
theorem dX3_actionOrError_17 : decode cX3_actionOrError 17 = .ok (.aload_n 0, 1) := by decide +kernel
theorem dX3_actionOrError_18 : decode cX3_actionOrError 18 = .ok (.getfield 10, 3) := by decide +kernel
theorem dX3_actionOrError_21 : decode cX3_actionOrError 21 = .ok (.iload_n 1, 1) := by decide +kernel
theorem dX3_actionOrError_22 : decode cX3_actionOrError 22 = .ok (.invokevirtual 75, 3) := by decide +kernel
theorem dX3_actionOrError_25 : decode cX3_actionOrError 25 = .ok (.ifCond .eq 15, 3) := by decide +kernel
theorem dX3_actionOrError_28 : decode cX3_actionOrError 28 = .ok (.aload_n 0, 1) := by decide +kernel
theorem dX3_actionOrError_29 : decode cX3_actionOrError 29 = .ok (.getfield 10, 3) := by decide +kernel
theorem dX3_actionOrError_32 : decode cX3_actionOrError 32 = .ok (.iload_n 1, 1) := by decide +kernel
theorem dX3_actionOrError_33 : decode cX3_actionOrError 33 = .ok (.iload_n 2, 1) := by decide +kernel
theorem dX3_actionOrError_34 : decode cX3_actionOrError 34 = .ok (.invokevirtual 106, 3) := by decide +kernel
theorem dX3_actionOrError_37 : decode cX3_actionOrError 37 = .ok (.goto 5, 3) := by decide +kernel
theorem dX3_actionOrError_40 : decode cX3_actionOrError 40 = .ok (.bipush (-2), 2) := by decide +kernel
theorem dX3_actionOrError_42 : decode cX3_actionOrError 42 = .ok (.ireturn, 1) := by decide +kernel
theorem dX3_errorOfPair_0 : decode cX3_errorOfPair 0 = .ok (.aload_n 0, 1) := by decide +kernel
theorem dX3_errorOfPair_1 : decode cX3_errorOfPair 1 = .ok (.getfield 10, 3) := by decide +kernel
theorem dX3_errorOfPair_4 : decode cX3_errorOfPair 4 = .ok (.iload_n 1, 1) := by decide +kernel
theorem dX3_errorOfPair_5 : decode cX3_errorOfPair 5 = .ok (.invokevirtual 25, 3) := by decide +kernel
theorem dX3_errorOfPair_8 : decode cX3_errorOfPair 8 = .ok (.ifCond .eq 21, 3) := by decide +kernel
theorem dX3_errorOfPair_11 : decode cX3_errorOfPair 11 = .ok (.aload_n 0, 1) := by decide +kernel
theorem dX3_errorOfPair_12 : decode cX3_errorOfPair 12 = .ok (.getfield 10, 3) := by decide +kernel
theorem dX3_errorOfPair_15 : decode cX3_errorOfPair 15 = .ok (.iload_n 2, 1) := by decide +kernel
theorem dX3_errorOfPair_16 : decode cX3_errorOfPair 16 = .ok (.invokevirtual 25, 3) := by decide +kernel
theorem dX3_errorOfPair_19 : decode cX3_errorOfPair 19 = .ok (.ifCond .eq 10, 3) := by decide +kernel
theorem dX3_errorOfPair_22 : decode cX3_errorOfPair 22 = .ok (.iload_n 3, 1) := by decide +kernel
theorem dX3_errorOfPair_23 : decode cX3_errorOfPair 23 = .ok (.invokestatic 103, 3) := by decide +kernel
theorem dX3_errorOfPair_26 : decode cX3_errorOfPair 26 = .ok (.ifCond .ne 5, 3) := by decide +kernel
theorem dX3_errorOfPair_29 : decode cX3_errorOfPair 29 = .ok (.iconst (-1), 1) := by decide +kernel
theorem dX3_errorOfPair_30 : decode cX3_errorOfPair 30 = .ok (.ireturn, 1) := by decide +kernel
theorem dX3_errorOfPair_31 : decode cX3_errorOfPair 31 = .ok (.aload_n 0, 1) := by decide +kernel
theorem dX3_errorOfPair_32 : decode cX3_errorOfPair 32 = .ok (.getfield 10, 3) := by decide +kernel
theorem dX3_errorOfPair_35 : decode cX3_errorOfPair 35 = .ok (.iload_n 1, 1) := by decide +kernel
theorem dX3_errorOfPair_36 : decode cX3_errorOfPair 36 = .ok (.invokevirtual 75, 3) := by decide +kernel
theorem dX3_errorOfPair_39 : decode cX3_errorOfPair 39 = .ok (.ifCond .eq 18, 3) := by decide +kernel
theorem dX3_errorOfPair_42 : decode cX3_errorOfPair 42 = .ok (.aload_n 0, 1) := by decide +kernel
theorem dX3_errorOfPair_43 : decode cX3_errorOfPair 43 = .ok (.getfield 10, 3) := by decide +kernel
theorem dX3_errorOfPair_46 : decode cX3_errorOfPair 46 = .ok (.iload_n 2, 1) := by decide +kernel
theorem dX3_errorOfPair_47 : decode cX3_errorOfPair 47 = .ok (.invokevirtual 75, 3) := by decide +kernel
theorem dX3_errorOfPair_50 : decode cX3_errorOfPair 50 = .ok (.ifCond .eq 7, 3) := by decide +kernel
theorem dX3_errorOfPair_53 : decode cX3_errorOfPair 53 = .ok (.iconst 0, 1) := by decide +kernel
theorem dX3_errorOfPair_54 : decode cX3_errorOfPair 54 = .ok (.goto 5, 3) := by decide +kernel
theorem dX3_errorOfPair_57 : decode cX3_errorOfPair 57 = .ok (.bipush (-2), 2) := by decide +kernel
theorem dX3_errorOfPair_59 : decode cX3_errorOfPair 59 = .ok (.ireturn, 1) := by decide +kernel
theorem dX3_isName_0 : decode cX3_isName 0 = .ok (.iload_n 0, 1) := by decide +kernel
theorem dX3_isName_1 : decode cX3_isName 1 = .ok (.ifCond .lt 13, 3) := by decide +kernel
theorem dX3_isName_4 : decode cX3_isName 4 = .ok (.iload_n 0, 1) := by decide +kernel
theorem dX3_isName_5 : decode cX3_isName 5 = .ok (.bipush 6, 2) := by decide +kernel
theorem dX3_isName_7 : decode cX3_isName 7 = .ok (.if_icmp .ge 7, 3) := by decide +kernel
theorem dX3_isName_10 : decode cX3_isName 10 = .ok (.iconst 1, 1) := by decide +kernel
theorem dX3_isName_11 : decode cX3_isName 11 = .ok (.goto 4, 3) := by decide +kernel
theorem dX3_isName_14 : decode cX3_isName 14 = .ok (.iconst 0, 1) := by decide +kernel
theorem dX3_isName_15 : decode cX3_isName 15 = .ok (.ireturn, 1) := by decide +kernel
theorem dX3_isRelation_0 : decode cX3_isRelation 0 = .ok (.iload_n 0, 1) := by decide +kernel
theorem dX3_isRelation_1 : decode cX3_isRelation 1 = .ok (.ifCond .lt 12, 3) := by decide +kernel
theorem dX3_isRelation_4 : decode cX3_isRelation 4 = .ok (.iload_n 0, 1) := by decide +kernel
theorem dX3_isRelation_5 : decode cX3_isRelation 5 = .ok (.iconst 3, 1) := by decide +kernel
theorem dX3_isRelation_6 : decode cX3_isRelation 6 = .ok (.if_icmp .ge 7, 3) := by decide +kernel
theorem dX3_isRelation_9 : decode cX3_isRelation 9 = .ok (.iconst 1, 1) := by decide +kernel
theorem dX3_isRelation_10 : decode cX3_isRelation 10 = .ok (.goto 4, 3) := by decide +kernel
theorem dX3_isRelation_13 : decode cX3_isRelation 13 = .ok (.iconst 0, 1) := by decide +kernel
theorem dX3_isRelation_14 : decode cX3_isRelation 14 = .ok (.ireturn, 1) := by decide +kernel
theorem dX3_at_0 : decode cX3_at 0 = .ok (.aload_n 0, 1) := by decide +kernel
theorem dX3_at_1 : decode cX3_at 1 = .ok (.ifnull 19, 3) := by decide +kernel
theorem dX3_at_4 : decode cX3_at 4 = .ok (.iload_n 1, 1) := by decide +kernel
theorem dX3_at_5 : decode cX3_at 5 = .ok (.ifCond .lt 15, 3) := by decide +kernel
theorem dX3_at_8 : decode cX3_at 8 = .ok (.iload_n 1, 1) := by decide +kernel
theorem dX3_at_9 : decode cX3_at 9 = .ok (.aload_n 0, 1) := by decide +kernel
theorem dX3_at_10 : decode cX3_at 10 = .ok (.arraylength, 1) := by decide +kernel
theorem dX3_at_11 : decode cX3_at 11 = .ok (.if_icmp .ge 9, 3) := by decide +kernel
theorem dX3_at_14 : decode cX3_at 14 = .ok (.aload_n 0, 1) := by decide +kernel
theorem dX3_at_15 : decode cX3_at 15 = .ok (.iload_n 1, 1) := by decide +kernel
theorem dX3_at_16 : decode cX3_at 16 = .ok (.iaload, 1) := by decide +kernel
theorem dX3_at_17 : decode cX3_at 17 = .ok (.goto 4, 3) := by decide +kernel
theorem dX3_at_20 : decode cX3_at 20 = .ok (.iconst 0, 1) := by decide +kernel
theorem dX3_at_21 : decode cX3_at 21 = .ok (.ireturn, 1) := by decide +kernel
theorem dX3_at__0 : decode cX3_at_ 0 = .ok (.aload_n 0, 1) := by decide +kernel
theorem dX3_at__1 : decode cX3_at_ 1 = .ok (.ifnull 19, 3) := by decide +kernel
theorem dX3_at__4 : decode cX3_at_ 4 = .ok (.iload_n 1, 1) := by decide +kernel
theorem dX3_at__5 : decode cX3_at_ 5 = .ok (.ifCond .lt 15, 3) := by decide +kernel
theorem dX3_at__8 : decode cX3_at_ 8 = .ok (.iload_n 1, 1) := by decide +kernel
theorem dX3_at__9 : decode cX3_at_ 9 = .ok (.aload_n 0, 1) := by decide +kernel
theorem dX3_at__10 : decode cX3_at_ 10 = .ok (.arraylength, 1) := by decide +kernel
theorem dX3_at__11 : decode cX3_at_ 11 = .ok (.if_icmp .ge 9, 3) := by decide +kernel
theorem dX3_at__14 : decode cX3_at_ 14 = .ok (.aload_n 0, 1) := by decide +kernel
theorem dX3_at__15 : decode cX3_at_ 15 = .ok (.iload_n 1, 1) := by decide +kernel
theorem dX3_at__16 : decode cX3_at_ 16 = .ok (.laload, 1) := by decide +kernel
theorem dX3_at__17 : decode cX3_at_ 17 = .ok (.goto 4, 3) := by decide +kernel
theorem dX3_at__20 : decode cX3_at_ 20 = .ok (.lconst 0, 1) := by decide +kernel
theorem dX3_at__21 : decode cX3_at_ 21 = .ok (.lreturn, 1) := by decide +kernel
theorem dX3_put_0 : decode cX3_put 0 = .ok (.aload_n 0, 1) := by decide +kernel
theorem dX3_put_1 : decode cX3_put 1 = .ok (.ifnull 17, 3) := by decide +kernel
theorem dX3_put_4 : decode cX3_put 4 = .ok (.iload_n 1, 1) := by decide +kernel
theorem dX3_put_5 : decode cX3_put 5 = .ok (.ifCond .lt 13, 3) := by decide +kernel
theorem dX3_put_8 : decode cX3_put 8 = .ok (.iload_n 1, 1) := by decide +kernel
theorem dX3_put_9 : decode cX3_put 9 = .ok (.aload_n 0, 1) := by decide +kernel
theorem dX3_put_10 : decode cX3_put 10 = .ok (.arraylength, 1) := by decide +kernel
theorem dX3_put_11 : decode cX3_put 11 = .ok (.if_icmp .ge 7, 3) := by decide +kernel
theorem dX3_put_14 : decode cX3_put 14 = .ok (.aload_n 0, 1) := by decide +kernel
theorem dX3_put_15 : decode cX3_put 15 = .ok (.iload_n 1, 1) := by decide +kernel
theorem dX3_put_16 : decode cX3_put 16 = .ok (.iload_n 2, 1) := by decide +kernel
theorem dX3_put_17 : decode cX3_put 17 = .ok (.iastore, 1) := by decide +kernel
theorem dX3_put_18 : decode cX3_put 18 = .ok (.return_, 1) := by decide +kernel
theorem dX3_put__0 : decode cX3_put_ 0 = .ok (.aload_n 0, 1) := by decide +kernel
theorem dX3_put__1 : decode cX3_put_ 1 = .ok (.ifnull 17, 3) := by decide +kernel
theorem dX3_put__4 : decode cX3_put_ 4 = .ok (.iload_n 1, 1) := by decide +kernel
theorem dX3_put__5 : decode cX3_put_ 5 = .ok (.ifCond .lt 13, 3) := by decide +kernel
theorem dX3_put__8 : decode cX3_put_ 8 = .ok (.iload_n 1, 1) := by decide +kernel
theorem dX3_put__9 : decode cX3_put_ 9 = .ok (.aload_n 0, 1) := by decide +kernel
theorem dX3_put__10 : decode cX3_put_ 10 = .ok (.arraylength, 1) := by decide +kernel
theorem dX3_put__11 : decode cX3_put_ 11 = .ok (.if_icmp .ge 7, 3) := by decide +kernel
theorem dX3_put__14 : decode cX3_put_ 14 = .ok (.aload_n 0, 1) := by decide +kernel
theorem dX3_put__15 : decode cX3_put_ 15 = .ok (.iload_n 1, 1) := by decide +kernel
theorem dX3_put__16 : decode cX3_put_ 16 = .ok (.lload_n 2, 1) := by decide +kernel
theorem dX3_put__17 : decode cX3_put_ 17 = .ok (.lastore, 1) := by decide +kernel
theorem dX3_put__18 : decode cX3_put_ 18 = .ok (.return_, 1) := by decide +kernel
theorem dJ9_max_7cf53_0 : decode cJ9_max_7cf53 0 = .ok (.iload_n 0, 1) := by decide +kernel
theorem dJ9_max_7cf53_1 : decode cJ9_max_7cf53 1 = .ok (.iload_n 1, 1) := by decide +kernel
theorem dJ9_max_7cf53_2 : decode cJ9_max_7cf53 2 = .ok (.if_icmp .lt 7, 3) := by decide +kernel
theorem dJ9_max_7cf53_5 : decode cJ9_max_7cf53 5 = .ok (.iload_n 0, 1) := by decide +kernel
theorem dJ9_max_7cf53_6 : decode cJ9_max_7cf53 6 = .ok (.goto 4, 3) := by decide +kernel
theorem dJ9_max_7cf53_9 : decode cJ9_max_7cf53 9 = .ok (.iload_n 1, 1) := by decide +kernel
theorem dJ9_max_7cf53_10 : decode cJ9_max_7cf53 10 = .ok (.ireturn, 1) := by decide +kernel
theorem dJ9_min_7cf53_0 : decode cJ9_min_7cf53 0 = .ok (.iload_n 0, 1) := by decide +kernel
theorem dJ9_min_7cf53_1 : decode cJ9_min_7cf53 1 = .ok (.iload_n 1, 1) := by decide +kernel
theorem dJ9_min_7cf53_2 : decode cJ9_min_7cf53 2 = .ok (.if_icmp .gt 7, 3) := by decide +kernel
theorem dJ9_min_7cf53_5 : decode cJ9_min_7cf53 5 = .ok (.iload_n 0, 1) := by decide +kernel
theorem dJ9_min_7cf53_6 : decode cJ9_min_7cf53 6 = .ok (.goto 4, 3) := by decide +kernel
theorem dJ9_min_7cf53_9 : decode cJ9_min_7cf53 9 = .ok (.iload_n 1, 1) := by decide +kernel
theorem dJ9_min_7cf53_10 : decode cJ9_min_7cf53 10 = .ok (.ireturn, 1) := by decide +kernel
theorem dJ0_length_8abf5_0 : decode cJ0_length_8abf5 0 = .ok (.aload_n 0, 1) := by decide +kernel
theorem dJ0_length_8abf5_1 : decode cJ0_length_8abf5 1 = .ok (.getfield 9, 3) := by decide +kernel
theorem dJ0_length_8abf5_4 : decode cJ0_length_8abf5 4 = .ok (.arraylength, 1) := by decide +kernel
theorem dJ0_length_8abf5_5 : decode cJ0_length_8abf5 5 = .ok (.aload_n 0, 1) := by decide +kernel
theorem dJ0_length_8abf5_6 : decode cJ0_length_8abf5 6 = .ok (.invokevirtual 335, 3) := by decide +kernel
theorem dJ0_length_8abf5_9 : decode cJ0_length_8abf5 9 = .ok (.ishr, 1) := by decide +kernel
theorem dJ0_length_8abf5_10 : decode cJ0_length_8abf5 10 = .ok (.ireturn, 1) := by decide +kernel
theorem dJ0_charAt_5068e_0 : decode cJ0_charAt_5068e 0 = .ok (.aload_n 0, 1) := by decide +kernel
theorem dJ0_charAt_5068e_1 : decode cJ0_charAt_5068e 1 = .ok (.invokevirtual 492, 3) := by decide +kernel
theorem dJ0_charAt_5068e_4 : decode cJ0_charAt_5068e 4 = .ok (.ifCond .eq 12, 3) := by decide +kernel
theorem dJ0_charAt_5068e_7 : decode cJ0_charAt_5068e 7 = .ok (.aload_n 0, 1) := by decide +kernel
theorem dJ0_charAt_5068e_8 : decode cJ0_charAt_5068e 8 = .ok (.getfield 9, 3) := by decide +kernel
theorem dJ0_charAt_5068e_11 : decode cJ0_charAt_5068e 11 = .ok (.iload_n 1, 1) := by decide +kernel
theorem dJ0_charAt_5068e_12 : decode cJ0_charAt_5068e 12 = .ok (.invokestatic 495, 3) := by decide +kernel
theorem dJ0_charAt_5068e_15 : decode cJ0_charAt_5068e 15 = .ok (.ireturn, 1) := by decide +kernel
theorem dJ0_charAt_5068e_16 : decode cJ0_charAt_5068e 16 = .ok (.aload_n 0, 1) := by decide +kernel
theorem dJ0_charAt_5068e_17 : decode cJ0_charAt_5068e 17 = .ok (.getfield 9, 3) := by decide +kernel
theorem dJ0_charAt_5068e_20 : decode cJ0_charAt_5068e 20 = .ok (.iload_n 1, 1) := by decide +kernel
theorem dJ0_charAt_5068e_21 : decode cJ0_charAt_5068e 21 = .ok (.invokestatic 498, 3) := by decide +kernel
theorem dJ0_charAt_5068e_24 : decode cJ0_charAt_5068e 24 = .ok (.ireturn, 1) := by decide +kernel
theorem dJ0_coder_7d493_0 : decode cJ0_coder_7d493 0 = .ok (.getstatic 38, 3) := by decide +kernel
theorem dJ0_coder_7d493_3 : decode cJ0_coder_7d493 3 = .ok (.ifCond .eq 10, 3) := by decide +kernel
theorem dJ0_coder_7d493_6 : decode cJ0_coder_7d493 6 = .ok (.aload_n 0, 1) := by decide +kernel
theorem dJ0_coder_7d493_7 : decode cJ0_coder_7d493 7 = .ok (.getfield 15, 3) := by decide +kernel
theorem dJ0_coder_7d493_10 : decode cJ0_coder_7d493 10 = .ok (.goto 4, 3) := by decide +kernel
theorem dJ0_coder_7d493_13 : decode cJ0_coder_7d493 13 = .ok (.iconst 1, 1) := by decide +kernel
theorem dJ0_coder_7d493_14 : decode cJ0_coder_7d493 14 = .ok (.ireturn, 1) := by decide +kernel
theorem dJ0_isLatin1_aae02_0 : decode cJ0_isLatin1_aae02 0 = .ok (.getstatic 38, 3) := by decide +kernel
theorem dJ0_isLatin1_aae02_3 : decode cJ0_isLatin1_aae02 3 = .ok (.ifCond .eq 14, 3) := by decide +kernel
theorem dJ0_isLatin1_aae02_6 : decode cJ0_isLatin1_aae02 6 = .ok (.aload_n 0, 1) := by decide +kernel
theorem dJ0_isLatin1_aae02_7 : decode cJ0_isLatin1_aae02 7 = .ok (.getfield 15, 3) := by decide +kernel
theorem dJ0_isLatin1_aae02_10 : decode cJ0_isLatin1_aae02 10 = .ok (.ifCond .ne 7, 3) := by decide +kernel
theorem dJ0_isLatin1_aae02_13 : decode cJ0_isLatin1_aae02 13 = .ok (.iconst 1, 1) := by decide +kernel
theorem dJ0_isLatin1_aae02_14 : decode cJ0_isLatin1_aae02 14 = .ok (.goto 4, 3) := by decide +kernel
theorem dJ0_isLatin1_aae02_17 : decode cJ0_isLatin1_aae02 17 = .ok (.iconst 0, 1) := by decide +kernel
theorem dJ0_isLatin1_aae02_18 : decode cJ0_isLatin1_aae02 18 = .ok (.ireturn, 1) := by decide +kernel
theorem dJ0_checkIndex_df160_0 : decode cJ0_checkIndex_df160 0 = .ok (.iload_n 0, 1) := by decide +kernel
theorem dJ0_checkIndex_df160_1 : decode cJ0_checkIndex_df160 1 = .ok (.iload_n 1, 1) := by decide +kernel
theorem dJ0_checkIndex_df160_2 : decode cJ0_checkIndex_df160 2 = .ok (.getstatic 1053, 3) := by decide +kernel
theorem dJ0_checkIndex_df160_5 : decode cJ0_checkIndex_df160 5 = .ok (.invokestatic 1059, 3) := by decide +kernel
theorem dJ0_checkIndex_df160_8 : decode cJ0_checkIndex_df160 8 = .ok (.pop, 1) := by decide +kernel
theorem dJ0_checkIndex_df160_9 : decode cJ0_checkIndex_df160 9 = .ok (.return_, 1) := by decide +kernel
theorem dJ1_charAt_3b067_0 : decode cJ1_charAt_3b067 0 = .ok (.iload_n 1, 1) := by decide +kernel
theorem dJ1_charAt_3b067_1 : decode cJ1_charAt_3b067 1 = .ok (.aload_n 0, 1) := by decide +kernel
theorem dJ1_charAt_3b067_2 : decode cJ1_charAt_3b067 2 = .ok (.arraylength, 1) := by decide +kernel
theorem dJ1_charAt_3b067_3 : decode cJ1_charAt_3b067 3 = .ok (.invokestatic 9, 3) := by decide +kernel
theorem dJ1_charAt_3b067_6 : decode cJ1_charAt_3b067 6 = .ok (.aload_n 0, 1) := by decide +kernel
theorem dJ1_charAt_3b067_7 : decode cJ1_charAt_3b067 7 = .ok (.iload_n 1, 1) := by decide +kernel
theorem dJ1_charAt_3b067_8 : decode cJ1_charAt_3b067 8 = .ok (.baload, 1) := by decide +kernel
theorem dJ1_charAt_3b067_9 : decode cJ1_charAt_3b067 9 = .ok (.sipush 255, 3) := by decide +kernel
theorem dJ1_charAt_3b067_12 : decode cJ1_charAt_3b067 12 = .ok (.iand, 1) := by decide +kernel
theorem dJ1_charAt_3b067_13 : decode cJ1_charAt_3b067 13 = .ok (.i2c, 1) := by decide +kernel
theorem dJ1_charAt_3b067_14 : decode cJ1_charAt_3b067 14 = .ok (.ireturn, 1) := by decide +kernel
theorem dJ2_getChar_3b067_0 : decode cJ2_getChar_3b067 0 = .ok (.getstatic 44, 3) := by decide +kernel
theorem dJ2_getChar_3b067_3 : decode cJ2_getChar_3b067 3 = .ok (.ifCond .ne 25, 3) := by decide +kernel
theorem dJ2_getChar_3b067_6 : decode cJ2_getChar_3b067 6 = .ok (.iload_n 1, 1) := by decide +kernel
theorem dJ2_getChar_3b067_7 : decode cJ2_getChar_3b067 7 = .ok (.ifCond .lt 11, 3) := by decide +kernel
theorem dJ2_getChar_3b067_10 : decode cJ2_getChar_3b067 10 = .ok (.iload_n 1, 1) := by decide +kernel
theorem dJ2_getChar_3b067_11 : decode cJ2_getChar_3b067 11 = .ok (.aload_n 0, 1) := by decide +kernel
theorem dJ2_getChar_3b067_12 : decode cJ2_getChar_3b067 12 = .ok (.invokestatic 48, 3) := by decide +kernel
theorem dJ2_getChar_3b067_15 : decode cJ2_getChar_3b067 15 = .ok (.if_icmp .lt 13, 3) := by decide +kernel
theorem dJ2_getChar_3b067_18 : decode cJ2_getChar_3b067 18 = .ok (.new 52, 3) := by decide +kernel
theorem dJ2_getChar_3b067_21 : decode cJ2_getChar_3b067 21 = .ok (.dup, 1) := by decide +kernel
theorem dJ2_getChar_3b067_22 : decode cJ2_getChar_3b067 22 = .ok (.ldc 54, 2) := by decide +kernel
theorem dJ2_getChar_3b067_24 : decode cJ2_getChar_3b067 24 = .ok (.invokespecial 56, 3) := by decide +kernel
theorem dJ2_getChar_3b067_27 : decode cJ2_getChar_3b067 27 = .ok (.athrow, 1) := by decide +kernel
theorem dJ2_getChar_3b067_28 : decode cJ2_getChar_3b067 28 = .ok (.iload_n 1, 1) := by decide +kernel
theorem dJ2_getChar_3b067_29 : decode cJ2_getChar_3b067 29 = .ok (.iconst 1, 1) := by decide +kernel
theorem dJ2_getChar_3b067_30 : decode cJ2_getChar_3b067 30 = .ok (.ishl, 1) := by decide +kernel
theorem dJ2_getChar_3b067_31 : decode cJ2_getChar_3b067 31 = .ok (.istore_n 1, 1) := by decide +kernel
theorem dJ2_getChar_3b067_32 : decode cJ2_getChar_3b067 32 = .ok (.aload_n 0, 1) := by decide +kernel
theorem dJ2_getChar_3b067_33 : decode cJ2_getChar_3b067 33 = .ok (.iload_n 1, 1) := by decide +kernel
theorem dJ2_getChar_3b067_34 : decode cJ2_getChar_3b067 34 = .ok (.iinc 1 1, 3) := by decide +kernel
theorem dJ2_getChar_3b067_37 : decode cJ2_getChar_3b067 37 = .ok (.baload, 1) := by decide +kernel
theorem dJ2_getChar_3b067_38 : decode cJ2_getChar_3b067 38 = .ok (.sipush 255, 3) := by decide +kernel
theorem dJ2_getChar_3b067_41 : decode cJ2_getChar_3b067 41 = .ok (.iand, 1) := by decide +kernel
theorem dJ2_getChar_3b067_42 : decode cJ2_getChar_3b067 42 = .ok (.getstatic 59, 3) := by decide +kernel
theorem dJ2_getChar_3b067_45 : decode cJ2_getChar_3b067 45 = .ok (.ishl, 1) := by decide +kernel
theorem dJ2_getChar_3b067_46 : decode cJ2_getChar_3b067 46 = .ok (.aload_n 0, 1) := by decide +kernel
theorem dJ2_getChar_3b067_47 : decode cJ2_getChar_3b067 47 = .ok (.iload_n 1, 1) := by decide +kernel
theorem dJ2_getChar_3b067_48 : decode cJ2_getChar_3b067 48 = .ok (.baload, 1) := by decide +kernel
theorem dJ2_getChar_3b067_49 : decode cJ2_getChar_3b067 49 = .ok (.sipush 255, 3) := by decide +kernel
theorem dJ2_getChar_3b067_52 : decode cJ2_getChar_3b067 52 = .ok (.iand, 1) := by decide +kernel
theorem dJ2_getChar_3b067_53 : decode cJ2_getChar_3b067 53 = .ok (.getstatic 63, 3) := by decide +kernel
theorem dJ2_getChar_3b067_56 : decode cJ2_getChar_3b067 56 = .ok (.ishl, 1) := by decide +kernel
theorem dJ2_getChar_3b067_57 : decode cJ2_getChar_3b067 57 = .ok (.ior, 1) := by decide +kernel
theorem dJ2_getChar_3b067_58 : decode cJ2_getChar_3b067 58 = .ok (.i2c, 1) := by decide +kernel
theorem dJ2_getChar_3b067_59 : decode cJ2_getChar_3b067 59 = .ok (.ireturn, 1) := by decide +kernel
theorem dJ2_length_9d52b_0 : decode cJ2_length_9d52b 0 = .ok (.aload_n 0, 1) := by decide +kernel
theorem dJ2_length_9d52b_1 : decode cJ2_length_9d52b 1 = .ok (.arraylength, 1) := by decide +kernel
theorem dJ2_length_9d52b_2 : decode cJ2_length_9d52b 2 = .ok (.iconst 1, 1) := by decide +kernel
theorem dJ2_length_9d52b_3 : decode cJ2_length_9d52b 3 = .ok (.ishr, 1) := by decide +kernel
theorem dJ2_length_9d52b_4 : decode cJ2_length_9d52b 4 = .ok (.ireturn, 1) := by decide +kernel
theorem dJ2_charAt_3b067_0 : decode cJ2_charAt_3b067 0 = .ok (.iload_n 1, 1) := by decide +kernel
theorem dJ2_charAt_3b067_1 : decode cJ2_charAt_3b067 1 = .ok (.aload_n 0, 1) := by decide +kernel
theorem dJ2_charAt_3b067_2 : decode cJ2_charAt_3b067 2 = .ok (.invokestatic 67, 3) := by decide +kernel
theorem dJ2_charAt_3b067_5 : decode cJ2_charAt_3b067 5 = .ok (.aload_n 0, 1) := by decide +kernel
theorem dJ2_charAt_3b067_6 : decode cJ2_charAt_3b067 6 = .ok (.iload_n 1, 1) := by decide +kernel
theorem dJ2_charAt_3b067_7 : decode cJ2_charAt_3b067 7 = .ok (.invokestatic 71, 3) := by decide +kernel
theorem dJ2_charAt_3b067_10 : decode cJ2_charAt_3b067 10 = .ok (.ireturn, 1) := by decide +kernel
theorem dJ2_checkIndex_2214a_0 : decode cJ2_checkIndex_2214a 0 = .ok (.iload_n 0, 1) := by decide +kernel
theorem dJ2_checkIndex_2214a_1 : decode cJ2_checkIndex_2214a 1 = .ok (.aload_n 1, 1) := by decide +kernel
theorem dJ2_checkIndex_2214a_2 : decode cJ2_checkIndex_2214a 2 = .ok (.invokestatic 48, 3) := by decide +kernel
theorem dJ2_checkIndex_2214a_5 : decode cJ2_checkIndex_2214a 5 = .ok (.invokestatic 414, 3) := by decide +kernel
theorem dJ2_checkIndex_2214a_8 : decode cJ2_checkIndex_2214a 8 = .ok (.return_, 1) := by decide +kernel
theorem dJ3_checkIndex_8e157_0 : decode cJ3_checkIndex_8e157 0 = .ok (.iload_n 0, 1) := by decide +kernel
theorem dJ3_checkIndex_8e157_1 : decode cJ3_checkIndex_8e157 1 = .ok (.ifCond .lt 8, 3) := by decide +kernel
theorem dJ3_checkIndex_8e157_4 : decode cJ3_checkIndex_8e157 4 = .ok (.iload_n 0, 1) := by decide +kernel
theorem dJ3_checkIndex_8e157_5 : decode cJ3_checkIndex_8e157 5 = .ok (.iload_n 1, 1) := by decide +kernel
theorem dJ3_checkIndex_8e157_6 : decode cJ3_checkIndex_8e157 6 = .ok (.if_icmp .lt 10, 3) := by decide +kernel
theorem dJ3_checkIndex_8e157_9 : decode cJ3_checkIndex_8e157 9 = .ok (.aload_n 2, 1) := by decide +kernel
theorem dJ3_checkIndex_8e157_10 : decode cJ3_checkIndex_8e157 10 = .ok (.iload_n 0, 1) := by decide +kernel
theorem dJ3_checkIndex_8e157_11 : decode cJ3_checkIndex_8e157 11 = .ok (.iload_n 1, 1) := by decide +kernel
theorem dJ3_checkIndex_8e157_12 : decode cJ3_checkIndex_8e157 12 = .ok (.invokestatic 95, 3) := by decide +kernel
theorem dJ3_checkIndex_8e157_15 : decode cJ3_checkIndex_8e157 15 = .ok (.athrow, 1) := by decide +kernel
theorem dJ3_checkIndex_8e157_16 : decode cJ3_checkIndex_8e157 16 = .ok (.iload_n 0, 1) := by decide +kernel
theorem dJ3_checkIndex_8e157_17 : decode cJ3_checkIndex_8e157 17 = .ok (.ireturn, 1) := by decide +kernel
end
section
theorem dX4_init_0 : decode cX4_init 0 = .ok (.aload_n 0, 1) := by decide +kernel
theorem dX4_init_1 : decode cX4_init 1 = .ok (.invokespecial 1, 3) := by decide +kernel
theorem dX4_init_4 : decode cX4_init 4 = .ok (.aload_n 0, 1) := by decide +kernel
theorem dX4_init_5 : decode cX4_init 5 = .ok (.iconst 1, 1) := by decide +kernel
theorem dX4_init_6 : decode cX4_init 6 = .ok (.putfield 7, 3) := by decide +kernel
theorem dX4_init_9 : decode cX4_init 9 = .ok (.aload_n 0, 1) := by decide +kernel
theorem dX4_init_10 : decode cX4_init 10 = .ok (.bipush 24, 2) := by decide +kernel
theorem dX4_init_12 : decode cX4_init 12 = .ok (.newarray .int, 2) := by decide +kernel
theorem dX4_init_14 : decode cX4_init 14 = .ok (.putfield 13, 3) := by decide +kernel
theorem dX4_init_17 : decode cX4_init 17 = .ok (.aload_n 0, 1) := by decide +kernel
theorem dX4_init_18 : decode cX4_init 18 = .ok (.bipush 24, 2) := by decide +kernel
theorem dX4_init_20 : decode cX4_init 20 = .ok (.newarray .int, 2) := by decide +kernel
theorem dX4_init_22 : decode cX4_init 22 = .ok (.putfield 17, 3) := by decide +kernel
theorem dX4_init_25 : decode cX4_init 25 = .ok (.aload_n 0, 1) := by decide +kernel
theorem dX4_init_26 : decode cX4_init 26 = .ok (.bipush 24, 2) := by decide +kernel
theorem dX4_init_28 : decode cX4_init 28 = .ok (.newarray .int, 2) := by decide +kernel
theorem dX4_init_30 : decode cX4_init 30 = .ok (.putfield 20, 3) := by decide +kernel
theorem dX4_init_33 : decode cX4_init 33 = .ok (.aload_n 0, 1) := by decide +kernel
theorem dX4_init_34 : decode cX4_init 34 = .ok (.bipush 24, 2) := by decide +kernel
theorem dX4_init_36 : decode cX4_init 36 = .ok (.newarray .int, 2) := by decide +kernel
theorem dX4_init_38 : decode cX4_init 38 = .ok (.putfield 23, 3) := by decide +kernel
theorem dX4_init_41 : decode cX4_init 41 = .ok (.aload_n 0, 1) := by decide +kernel
theorem dX4_init_42 : decode cX4_init 42 = .ok (.bipush 24, 2) := by decide +kernel
theorem dX4_init_44 : decode cX4_init 44 = .ok (.newarray .int, 2) := by decide +kernel
theorem dX4_init_46 : decode cX4_init 46 = .ok (.putfield 26, 3) := by decide +kernel
theorem dX4_init_49 : decode cX4_init 49 = .ok (.aload_n 0, 1) := by decide +kernel
theorem dX4_init_50 : decode cX4_init 50 = .ok (.bipush 24, 2) := by decide +kernel
theorem dX4_init_52 : decode cX4_init 52 = .ok (.newarray .int, 2) := by decide +kernel
theorem dX4_init_54 : decode cX4_init 54 = .ok (.putfield 29, 3) := by decide +kernel
theorem dX4_init_57 : decode cX4_init 57 = .ok (.aload_n 0, 1) := by decide +kernel
theorem dX4_init_58 : decode cX4_init 58 = .ok (.bipush 24, 2) := by decide +kernel
theorem dX4_init_60 : decode cX4_init 60 = .ok (.newarray .int, 2) := by decide +kernel
theorem dX4_init_62 : decode cX4_init 62 = .ok (.putfield 32, 3) := by decide +kernel
theorem dX4_init_65 : decode cX4_init 65 = .ok (.aload_n 0, 1) := by decide +kernel
theorem dX4_init_66 : decode cX4_init 66 = .ok (.bipush 24, 2) := by decide +kernel
theorem dX4_init_68 : decode cX4_init 68 = .ok (.newarray .int, 2) := by decide +kernel
theorem dX4_init_70 : decode cX4_init 70 = .ok (.putfield 35, 3) := by decide +kernel
theorem dX4_init_73 : decode cX4_init 73 = .ok (.aload_n 0, 1) := by decide +kernel
theorem dX4_init_74 : decode cX4_init 74 = .ok (.bipush 24, 2) := by decide +kernel
theorem dX4_init_76 : decode cX4_init 76 = .ok (.newarray .int, 2) := by decide +kernel
theorem dX4_init_78 : decode cX4_init 78 = .ok (.putfield 38, 3) := by decide +kernel
theorem dX4_init_81 : decode cX4_init 81 = .ok (.aload_n 0, 1) := by decide +kernel
theorem dX4_init_82 : decode cX4_init 82 = .ok (.bipush 8, 2) := by decide +kernel
theorem dX4_init_84 : decode cX4_init 84 = .ok (.newarray .int, 2) := by decide +kernel
theorem dX4_init_86 : decode cX4_init 86 = .ok (.putfield 41, 3) := by decide +kernel
theorem dX4_init_89 : decode cX4_init 89 = .ok (.aload_n 0, 1) := by decide +kernel
theorem dX4_init_90 : decode cX4_init 90 = .ok (.bipush 24, 2) := by decide +kernel
theorem dX4_init_92 : decode cX4_init 92 = .ok (.newarray .int, 2) := by decide +kernel
theorem dX4_init_94 : decode cX4_init 94 = .ok (.putfield 44, 3) := by decide +kernel
theorem dX4_init_97 : decode cX4_init 97 = .ok (.aload_n 0, 1) := by decide +kernel
theorem dX4_init_98 : decode cX4_init 98 = .ok (.bipush 24, 2) := by decide +kernel
theorem dX4_init_100 : decode cX4_init 100 = .ok (.newarray .int, 2) := by decide +kernel
theorem dX4_init_102 : decode cX4_init 102 = .ok (.putfield 47, 3) := by decide +kernel
theorem dX4_init_105 : decode cX4_init 105 = .ok (.aload_n 0, 1) := by decide +kernel
theorem dX4_init_106 : decode cX4_init 106 = .ok (.bipush 24, 2) := by decide +kernel
theorem dX4_init_108 : decode cX4_init 108 = .ok (.newarray .int, 2) := by decide +kernel
theorem dX4_init_110 : decode cX4_init 110 = .ok (.putfield 50, 3) := by decide +kernel
theorem dX4_init_113 : decode cX4_init 113 = .ok (.aload_n 0, 1) := by decide +kernel
theorem dX4_init_114 : decode cX4_init 114 = .ok (.bipush 24, 2) := by decide +kernel
theorem dX4_init_116 : decode cX4_init 116 = .ok (.newarray .int, 2) := by decide +kernel
theorem dX4_init_118 : decode cX4_init 118 = .ok (.putfield 53, 3) := by decide +kernel
theorem dX4_init_121 : decode cX4_init 121 = .ok (.aload_n 0, 1) := by decide +kernel
theorem dX4_init_122 : decode cX4_init 122 = .ok (.bipush 8, 2) := by decide +kernel
theorem dX4_init_124 : decode cX4_init 124 = .ok (.newarray .int, 2) := by decide +kernel
theorem dX4_init_126 : decode cX4_init 126 = .ok (.putfield 56, 3) := by decide +kernel
theorem dX4_init_129 : decode cX4_init 129 = .ok (.aload_n 0, 1) := by decide +kernel
theorem dX4_init_130 : decode cX4_init 130 = .ok (.iconst 4, 1) := by decide +kernel
theorem dX4_init_131 : decode cX4_init 131 = .ok (.newarray .int, 2) := by decide +kernel
theorem dX4_init_133 : decode cX4_init 133 = .ok (.putfield 59, 3) := by decide +kernel
theorem dX4_init_136 : decode cX4_init 136 = .ok (.aload_n 0, 1) := by decide +kernel
theorem dX4_init_137 : decode cX4_init 137 = .ok (.bipush 48, 2) := by decide +kernel
theorem dX4_init_139 : decode cX4_init 139 = .ok (.newarray .int, 2) := by decide +kernel
theorem dX4_init_141 : decode cX4_init 141 = .ok (.putfield 62, 3) := by decide +kernel
theorem dX4_init_144 : decode cX4_init 144 = .ok (.aload_n 0, 1) := by decide +kernel
theorem dX4_init_145 : decode cX4_init 145 = .ok (.getfield 38, 3) := by decide +kernel
theorem dX4_init_148 : decode cX4_init 148 = .ok (.iconst 0, 1) := by decide +kernel
theorem dX4_init_149 : decode cX4_init 149 = .ok (.iconst 1, 1) := by decide +kernel
theorem dX4_init_150 : decode cX4_init 150 = .ok (.iastore, 1) := by decide +kernel
theorem dX4_init_151 : decode cX4_init 151 = .ok (.return_, 1) := by decide +kernel
theorem dX4_in_0 : decode cX4_in 0 = .ok (.iload_n 0, 1) := by decide +kernel
theorem dX4_in_1 : decode cX4_in 1 = .ok (.iload_n 1, 1) := by decide +kernel
theorem dX4_in_2 : decode cX4_in 2 = .ok (.if_icmp .lt 12, 3) := by decide +kernel
theorem dX4_in_5 : decode cX4_in 5 = .ok (.iload_n 0, 1) := by decide +kernel
theorem dX4_in_6 : decode cX4_in 6 = .ok (.iload_n 2, 1) := by decide +kernel
theorem dX4_in_7 : decode cX4_in 7 = .ok (.if_icmp .gt 7, 3) := by decide +kernel
theorem dX4_in_10 : decode cX4_in 10 = .ok (.iconst 1, 1) := by decide +kernel
theorem dX4_in_11 : decode cX4_in 11 = .ok (.goto 4, 3) := by decide +kernel
theorem dX4_in_14 : decode cX4_in 14 = .ok (.iconst 0, 1) := by decide +kernel
theorem dX4_in_15 : decode cX4_in 15 = .ok (.ireturn, 1) := by decide +kernel
theorem dX4_isProcess_0 : decode cX4_isProcess 0 = .ok (.iload_n 1, 1) := by decide +kernel
theorem dX4_isProcess_1 : decode cX4_isProcess 1 = .ok (.iconst 0, 1) := by decide +kernel
theorem dX4_isProcess_2 : decode cX4_isProcess 2 = .ok (.aload_n 0, 1) := by decide +kernel
theorem dX4_isProcess_3 : decode cX4_isProcess 3 = .ok (.getfield 7, 3) := by decide +kernel
theorem dX4_isProcess_6 : decode cX4_isProcess 6 = .ok (.iconst 1, 1) := by decide +kernel
theorem dX4_isProcess_7 : decode cX4_isProcess 7 = .ok (.isub, 1) := by decide +kernel
theorem dX4_isProcess_8 : decode cX4_isProcess 8 = .ok (.invokestatic 65, 3) := by decide +kernel
theorem dX4_isProcess_11 : decode cX4_isProcess 11 = .ok (.ireturn, 1) := by decide +kernel
theorem dX4_isName_0 : decode cX4_isName 0 = .ok (.iload_n 0, 1) := by decide +kernel
theorem dX4_isName_1 : decode cX4_isName 1 = .ok (.iconst 0, 1) := by decide +kernel
theorem dX4_isName_2 : decode cX4_isName 2 = .ok (.iconst 5, 1) := by decide +kernel
theorem dX4_isName_3 : decode cX4_isName 3 = .ok (.invokestatic 65, 3) := by decide +kernel
theorem dX4_isName_6 : decode cX4_isName 6 = .ok (.ireturn, 1) := by decide +kernel
theorem dX4_needed_0 : decode cX4_needed 0 = .ok (.iload_n 0, 1) := by decide +kernel
theorem dX4_needed_1 : decode cX4_needed 1 = .ok (.iconst 3, 1) := by decide +kernel
theorem dX4_needed_2 : decode cX4_needed 2 = .ok (.if_icmp .ge 7, 3) := by decide +kernel
theorem dX4_needed_5 : decode cX4_needed 5 = .ok (.iconst 0, 1) := by decide +kernel
theorem dX4_needed_6 : decode cX4_needed 6 = .ok (.goto 6, 3) := by decide +kernel
theorem dX4_needed_9 : decode cX4_needed 9 = .ok (.iload_n 0, 1) := by decide +kernel
theorem dX4_needed_10 : decode cX4_needed 10 = .ok (.iconst 2, 1) := by decide +kernel
theorem dX4_needed_11 : decode cX4_needed 11 = .ok (.isub, 1) := by decide +kernel
theorem dX4_needed_12 : decode cX4_needed 12 = .ok (.ireturn, 1) := by decide +kernel
theorem dX4_larger_0 : decode cX4_larger 0 = .ok (.iload_n 0, 1) := by decide +kernel
theorem dX4_larger_1 : decode cX4_larger 1 = .ok (.iload_n 1, 1) := by decide +kernel
theorem dX4_larger_2 : decode cX4_larger 2 = .ok (.if_icmp .ge 7, 3) := by decide +kernel
theorem dX4_larger_5 : decode cX4_larger 5 = .ok (.iload_n 1, 1) := by decide +kernel
theorem dX4_larger_6 : decode cX4_larger 6 = .ok (.goto 4, 3) := by decide +kernel
theorem dX4_larger_9 : decode cX4_larger 9 = .ok (.iload_n 0, 1) := by decide +kernel
theorem dX4_larger_10 : decode cX4_larger 10 = .ok (.ireturn, 1) := by decide +kernel
theorem dX4_builds_0 : decode cX4_builds 0 = .ok (.aload_n 0, 1) := by decide +kernel
theorem dX4_builds_1 : decode cX4_builds 1 = .ok (.getfield 29, 3) := by decide +kernel
theorem dX4_builds_4 : decode cX4_builds 4 = .ok (.iload 4, 2) := by decide +kernel
theorem dX4_builds_6 : decode cX4_builds 6 = .ok (.iaload, 1) := by decide +kernel
theorem dX4_builds_7 : decode cX4_builds 7 = .ok (.iload_n 1, 1) := by decide +kernel
theorem dX4_builds_8 : decode cX4_builds 8 = .ok (.iconst 4, 1) := by decide +kernel
theorem dX4_builds_9 : decode cX4_builds 9 = .ok (.if_icmp .eq 8, 3) := by decide +kernel
theorem dX4_builds_12 : decode cX4_builds 12 = .ok (.iload_n 1, 1) := by decide +kernel
theorem dX4_builds_13 : decode cX4_builds 13 = .ok (.iconst 5, 1) := by decide +kernel
theorem dX4_builds_14 : decode cX4_builds 14 = .ok (.if_icmp .ne 7, 3) := by decide +kernel
theorem dX4_builds_17 : decode cX4_builds 17 = .ok (.iconst 0, 1) := by decide +kernel
theorem dX4_builds_18 : decode cX4_builds 18 = .ok (.goto 4, 3) := by decide +kernel
theorem dX4_builds_21 : decode cX4_builds 21 = .ok (.iconst 1, 1) := by decide +kernel
theorem dX4_builds_22 : decode cX4_builds 22 = .ok (.iadd, 1) := by decide +kernel
theorem dX4_builds_23 : decode cX4_builds 23 = .ok (.istore 6, 2) := by decide +kernel
theorem dX4_builds_25 : decode cX4_builds 25 = .ok (.iload_n 1, 1) := by decide +kernel
theorem dX4_builds_26 : decode cX4_builds 26 = .ok (.iconst 4, 1) := by decide +kernel
theorem dX4_builds_27 : decode cX4_builds 27 = .ok (.if_icmp .ne 13, 3) := by decide +kernel
theorem dX4_builds_30 : decode cX4_builds 30 = .ok (.aload_n 0, 1) := by decide +kernel
theorem dX4_builds_31 : decode cX4_builds 31 = .ok (.getfield 32, 3) := by decide +kernel
theorem dX4_builds_34 : decode cX4_builds 34 = .ok (.iload 4, 2) := by decide +kernel
theorem dX4_builds_36 : decode cX4_builds 36 = .ok (.iaload, 1) := by decide +kernel
theorem dX4_builds_37 : decode cX4_builds 37 = .ok (.goto 4, 3) := by decide +kernel
theorem dX4_builds_40 : decode cX4_builds 40 = .ok (.iconst 1, 1) := by decide +kernel
theorem dX4_builds_41 : decode cX4_builds 41 = .ok (.istore 7, 2) := by decide +kernel
theorem dX4_builds_43 : decode cX4_builds 43 = .ok (.iload_n 1, 1) := by decide +kernel
theorem dX4_builds_44 : decode cX4_builds 44 = .ok (.iconst 5, 1) := by decide +kernel
theorem dX4_builds_45 : decode cX4_builds 45 = .ok (.if_icmp .ne 39, 3) := by decide +kernel
theorem dX4_builds_48 : decode cX4_builds 48 = .ok (.aload_n 0, 1) := by decide +kernel
theorem dX4_builds_49 : decode cX4_builds 49 = .ok (.getfield 29, 3) := by decide +kernel
theorem dX4_builds_52 : decode cX4_builds 52 = .ok (.iload 4, 2) := by decide +kernel
theorem dX4_builds_54 : decode cX4_builds 54 = .ok (.iaload, 1) := by decide +kernel
theorem dX4_builds_55 : decode cX4_builds 55 = .ok (.aload_n 0, 1) := by decide +kernel
theorem dX4_builds_56 : decode cX4_builds 56 = .ok (.getfield 29, 3) := by decide +kernel
theorem dX4_builds_59 : decode cX4_builds 59 = .ok (.iload 5, 2) := by decide +kernel
theorem dX4_builds_61 : decode cX4_builds 61 = .ok (.iaload, 1) := by decide +kernel
theorem dX4_builds_62 : decode cX4_builds 62 = .ok (.invokestatic 69, 3) := by decide +kernel
theorem dX4_builds_65 : decode cX4_builds 65 = .ok (.istore 6, 2) := by decide +kernel
theorem dX4_builds_67 : decode cX4_builds 67 = .ok (.aload_n 0, 1) := by decide +kernel
theorem dX4_builds_68 : decode cX4_builds 68 = .ok (.getfield 32, 3) := by decide +kernel
theorem dX4_builds_71 : decode cX4_builds 71 = .ok (.iload 4, 2) := by decide +kernel
theorem dX4_builds_73 : decode cX4_builds 73 = .ok (.iaload, 1) := by decide +kernel
theorem dX4_builds_74 : decode cX4_builds 74 = .ok (.aload_n 0, 1) := by decide +kernel
theorem dX4_builds_75 : decode cX4_builds 75 = .ok (.getfield 32, 3) := by decide +kernel
theorem dX4_builds_78 : decode cX4_builds 78 = .ok (.iload 5, 2) := by decide +kernel
theorem dX4_builds_80 : decode cX4_builds 80 = .ok (.iaload, 1) := by decide +kernel
theorem dX4_builds_81 : decode cX4_builds 81 = .ok (.iadd, 1) := by decide +kernel
theorem dX4_builds_82 : decode cX4_builds 82 = .ok (.istore 7, 2) := by decide +kernel
theorem dX4_builds_84 : decode cX4_builds 84 = .ok (.aload_n 0, 1) := by decide +kernel
theorem dX4_builds_85 : decode cX4_builds 85 = .ok (.getfield 7, 3) := by decide +kernel
theorem dX4_builds_88 : decode cX4_builds 88 = .ok (.bipush 24, 2) := by decide +kernel
theorem dX4_builds_90 : decode cX4_builds 90 = .ok (.if_icmp .eq 15, 3) := by decide +kernel
theorem dX4_builds_93 : decode cX4_builds 93 = .ok (.iload 6, 2) := by decide +kernel
theorem dX4_builds_95 : decode cX4_builds 95 = .ok (.iconst 3, 1) := by decide +kernel
theorem dX4_builds_96 : decode cX4_builds 96 = .ok (.if_icmp .gt 9, 3) := by decide +kernel
theorem dX4_builds_99 : decode cX4_builds 99 = .ok (.iload 7, 2) := by decide +kernel
theorem dX4_builds_101 : decode cX4_builds 101 = .ok (.iconst 3, 1) := by decide +kernel
theorem dX4_builds_102 : decode cX4_builds 102 = .ok (.if_icmp .le 6, 3) := by decide +kernel
theorem dX4_builds_105 : decode cX4_builds 105 = .ok (.bipush (-3), 2) := by decide +kernel
theorem dX4_builds_107 : decode cX4_builds 107 = .ok (.ireturn, 1) := by decide +kernel
theorem dX4_builds_108 : decode cX4_builds 108 = .ok (.aload_n 0, 1) := by decide +kernel
theorem dX4_builds_109 : decode cX4_builds 109 = .ok (.getfield 7, 3) := by decide +kernel
theorem dX4_builds_112 : decode cX4_builds 112 = .ok (.istore 8, 2) := by decide +kernel
theorem dX4_builds_114 : decode cX4_builds 114 = .ok (.aload_n 0, 1) := by decide +kernel
theorem dX4_builds_115 : decode cX4_builds 115 = .ok (.getfield 13, 3) := by decide +kernel
theorem dX4_builds_118 : decode cX4_builds 118 = .ok (.iload 8, 2) := by decide +kernel
theorem dX4_builds_120 : decode cX4_builds 120 = .ok (.iload_n 1, 1) := by decide +kernel
theorem dX4_builds_121 : decode cX4_builds 121 = .ok (.iastore, 1) := by decide +kernel
theorem dX4_builds_122 : decode cX4_builds 122 = .ok (.aload_n 0, 1) := by decide +kernel
theorem dX4_builds_123 : decode cX4_builds 123 = .ok (.getfield 17, 3) := by decide +kernel
theorem dX4_builds_126 : decode cX4_builds 126 = .ok (.iload 8, 2) := by decide +kernel
theorem dX4_builds_128 : decode cX4_builds 128 = .ok (.iload_n 2, 1) := by decide +kernel
theorem dX4_builds_129 : decode cX4_builds 129 = .ok (.iastore, 1) := by decide +kernel
theorem dX4_builds_130 : decode cX4_builds 130 = .ok (.aload_n 0, 1) := by decide +kernel
theorem dX4_builds_131 : decode cX4_builds 131 = .ok (.getfield 20, 3) := by decide +kernel
theorem dX4_builds_134 : decode cX4_builds 134 = .ok (.iload 8, 2) := by decide +kernel
theorem dX4_builds_136 : decode cX4_builds 136 = .ok (.iload_n 3, 1) := by decide +kernel
theorem dX4_builds_137 : decode cX4_builds 137 = .ok (.iastore, 1) := by decide +kernel
theorem dX4_builds_138 : decode cX4_builds 138 = .ok (.aload_n 0, 1) := by decide +kernel
theorem dX4_builds_139 : decode cX4_builds 139 = .ok (.getfield 23, 3) := by decide +kernel
theorem dX4_builds_142 : decode cX4_builds 142 = .ok (.iload 8, 2) := by decide +kernel
theorem dX4_builds_144 : decode cX4_builds 144 = .ok (.iload 4, 2) := by decide +kernel
theorem dX4_builds_146 : decode cX4_builds 146 = .ok (.iastore, 1) := by decide +kernel
theorem dX4_builds_147 : decode cX4_builds 147 = .ok (.aload_n 0, 1) := by decide +kernel
theorem dX4_builds_148 : decode cX4_builds 148 = .ok (.getfield 26, 3) := by decide +kernel
theorem dX4_builds_151 : decode cX4_builds 151 = .ok (.iload 8, 2) := by decide +kernel
theorem dX4_builds_153 : decode cX4_builds 153 = .ok (.iload 5, 2) := by decide +kernel
theorem dX4_builds_155 : decode cX4_builds 155 = .ok (.iastore, 1) := by decide +kernel
theorem dX4_builds_156 : decode cX4_builds 156 = .ok (.aload_n 0, 1) := by decide +kernel
theorem dX4_builds_157 : decode cX4_builds 157 = .ok (.getfield 29, 3) := by decide +kernel
theorem dX4_builds_160 : decode cX4_builds 160 = .ok (.iload 8, 2) := by decide +kernel
theorem dX4_builds_162 : decode cX4_builds 162 = .ok (.iload 6, 2) := by decide +kernel
theorem dX4_builds_164 : decode cX4_builds 164 = .ok (.iastore, 1) := by decide +kernel
theorem dX4_builds_165 : decode cX4_builds 165 = .ok (.aload_n 0, 1) := by decide +kernel
theorem dX4_builds_166 : decode cX4_builds 166 = .ok (.getfield 32, 3) := by decide +kernel
theorem dX4_builds_169 : decode cX4_builds 169 = .ok (.iload 8, 2) := by decide +kernel
theorem dX4_builds_171 : decode cX4_builds 171 = .ok (.iload 7, 2) := by decide +kernel
theorem dX4_builds_173 : decode cX4_builds 173 = .ok (.iastore, 1) := by decide +kernel
theorem dX4_builds_174 : decode cX4_builds 174 = .ok (.iload_n 1, 1) := by decide +kernel
theorem dX4_builds_175 : decode cX4_builds 175 = .ok (.iconst 3, 1) := by decide +kernel
theorem dX4_builds_176 : decode cX4_builds 176 = .ok (.if_icmp .ne 25, 3) := by decide +kernel
theorem dX4_builds_179 : decode cX4_builds 179 = .ok (.aload_n 0, 1) := by decide +kernel
theorem dX4_builds_180 : decode cX4_builds 180 = .ok (.getfield 35, 3) := by decide +kernel
theorem dX4_builds_183 : decode cX4_builds 183 = .ok (.iload 4, 2) := by decide +kernel
theorem dX4_builds_185 : decode cX4_builds 185 = .ok (.iaload, 1) := by decide +kernel
theorem dX4_builds_186 : decode cX4_builds 186 = .ok (.ifCond .le 15, 3) := by decide +kernel
theorem dX4_builds_189 : decode cX4_builds 189 = .ok (.aload_n 0, 1) := by decide +kernel
theorem dX4_builds_190 : decode cX4_builds 190 = .ok (.getfield 35, 3) := by decide +kernel
theorem dX4_builds_193 : decode cX4_builds 193 = .ok (.iload 4, 2) := by decide +kernel
theorem dX4_builds_195 : decode cX4_builds 195 = .ok (.iaload, 1) := by decide +kernel
theorem dX4_builds_196 : decode cX4_builds 196 = .ok (.iconst 1, 1) := by decide +kernel
theorem dX4_builds_197 : decode cX4_builds 197 = .ok (.isub, 1) := by decide +kernel
theorem dX4_builds_198 : decode cX4_builds 198 = .ok (.goto 10, 3) := by decide +kernel
theorem dX4_builds_201 : decode cX4_builds 201 = .ok (.aload_n 0, 1) := by decide +kernel
theorem dX4_builds_202 : decode cX4_builds 202 = .ok (.getfield 35, 3) := by decide +kernel
theorem dX4_builds_205 : decode cX4_builds 205 = .ok (.iload 4, 2) := by decide +kernel
theorem dX4_builds_207 : decode cX4_builds 207 = .ok (.iaload, 1) := by decide +kernel
theorem dX4_builds_208 : decode cX4_builds 208 = .ok (.istore 9, 2) := by decide +kernel
theorem dX4_builds_210 : decode cX4_builds 210 = .ok (.aload_n 0, 1) := by decide +kernel
theorem dX4_builds_211 : decode cX4_builds 211 = .ok (.getfield 35, 3) := by decide +kernel
theorem dX4_builds_214 : decode cX4_builds 214 = .ok (.iload 8, 2) := by decide +kernel
theorem dX4_builds_216 : decode cX4_builds 216 = .ok (.iload 9, 2) := by decide +kernel
theorem dX4_builds_218 : decode cX4_builds 218 = .ok (.iload_n 2, 1) := by decide +kernel
theorem dX4_builds_219 : decode cX4_builds 219 = .ok (.invokestatic 73, 3) := by decide +kernel
theorem dX4_builds_222 : decode cX4_builds 222 = .ok (.iload_n 3, 1) := by decide +kernel
theorem dX4_builds_223 : decode cX4_builds 223 = .ok (.invokestatic 73, 3) := by decide +kernel
theorem dX4_builds_226 : decode cX4_builds 226 = .ok (.invokestatic 69, 3) := by decide +kernel
theorem dX4_builds_229 : decode cX4_builds 229 = .ok (.invokestatic 69, 3) := by decide +kernel
theorem dX4_builds_232 : decode cX4_builds 232 = .ok (.iastore, 1) := by decide +kernel
theorem dX4_builds_233 : decode cX4_builds 233 = .ok (.aload_n 0, 1) := by decide +kernel
theorem dX4_builds_234 : decode cX4_builds 234 = .ok (.getfield 35, 3) := by decide +kernel
theorem dX4_builds_237 : decode cX4_builds 237 = .ok (.iload 8, 2) := by decide +kernel
theorem dX4_builds_239 : decode cX4_builds 239 = .ok (.iload_n 1, 1) := by decide +kernel
theorem dX4_builds_240 : decode cX4_builds 240 = .ok (.iconst 5, 1) := by decide +kernel
theorem dX4_builds_241 : decode cX4_builds 241 = .ok (.if_icmp .ne 23, 3) := by decide +kernel
theorem dX4_builds_244 : decode cX4_builds 244 = .ok (.aload_n 0, 1) := by decide +kernel
theorem dX4_builds_245 : decode cX4_builds 245 = .ok (.getfield 35, 3) := by decide +kernel
theorem dX4_builds_248 : decode cX4_builds 248 = .ok (.iload 4, 2) := by decide +kernel
theorem dX4_builds_250 : decode cX4_builds 250 = .ok (.iaload, 1) := by decide +kernel
theorem dX4_builds_251 : decode cX4_builds 251 = .ok (.aload_n 0, 1) := by decide +kernel
theorem dX4_builds_252 : decode cX4_builds 252 = .ok (.getfield 35, 3) := by decide +kernel
theorem dX4_builds_255 : decode cX4_builds 255 = .ok (.iload 5, 2) := by decide +kernel
theorem dX4_builds_257 : decode cX4_builds 257 = .ok (.iaload, 1) := by decide +kernel
theorem dX4_builds_258 : decode cX4_builds 258 = .ok (.invokestatic 69, 3) := by decide +kernel
theorem dX4_builds_261 : decode cX4_builds 261 = .ok (.goto 10, 3) := by decide +kernel
theorem dX4_builds_264 : decode cX4_builds 264 = .ok (.aload_n 0, 1) := by decide +kernel
theorem dX4_builds_265 : decode cX4_builds 265 = .ok (.getfield 35, 3) := by decide +kernel
theorem dX4_builds_268 : decode cX4_builds 268 = .ok (.iload 8, 2) := by decide +kernel
theorem dX4_builds_270 : decode cX4_builds 270 = .ok (.iaload, 1) := by decide +kernel
theorem dX4_builds_271 : decode cX4_builds 271 = .ok (.iastore, 1) := by decide +kernel
theorem dX4_builds_272 : decode cX4_builds 272 = .ok (.aload_n 0, 1) := by decide +kernel
theorem dX4_builds_273 : decode cX4_builds 273 = .ok (.getfield 38, 3) := by decide +kernel
theorem dX4_builds_276 : decode cX4_builds 276 = .ok (.iload 8, 2) := by decide +kernel
theorem dX4_builds_278 : decode cX4_builds 278 = .ok (.aload_n 0, 1) := by decide +kernel
theorem dX4_builds_279 : decode cX4_builds 279 = .ok (.getfield 38, 3) := by decide +kernel
theorem dX4_builds_282 : decode cX4_builds 282 = .ok (.iload 4, 2) := by decide +kernel
theorem dX4_builds_284 : decode cX4_builds 284 = .ok (.iaload, 1) := by decide +kernel
theorem dX4_builds_285 : decode cX4_builds 285 = .ok (.iload_n 1, 1) := by decide +kernel
theorem dX4_builds_286 : decode cX4_builds 286 = .ok (.iconst 1, 1) := by decide +kernel
theorem dX4_builds_287 : decode cX4_builds 287 = .ok (.if_icmp .ne 7, 3) := by decide +kernel
theorem dX4_builds_290 : decode cX4_builds 290 = .ok (.iconst 2, 1) := by decide +kernel
theorem dX4_builds_291 : decode cX4_builds 291 = .ok (.goto 39, 3) := by decide +kernel
theorem dX4_builds_294 : decode cX4_builds 294 = .ok (.iload_n 1, 1) := by decide +kernel
theorem dX4_builds_295 : decode cX4_builds 295 = .ok (.iconst 2, 1) := by decide +kernel
theorem dX4_builds_296 : decode cX4_builds 296 = .ok (.if_icmp .ne 7, 3) := by decide +kernel
theorem dX4_builds_299 : decode cX4_builds 299 = .ok (.iconst 4, 1) := by decide +kernel
theorem dX4_builds_300 : decode cX4_builds 300 = .ok (.goto 30, 3) := by decide +kernel
theorem dX4_builds_303 : decode cX4_builds 303 = .ok (.iload_n 1, 1) := by decide +kernel
theorem dX4_builds_304 : decode cX4_builds 304 = .ok (.iconst 3, 1) := by decide +kernel
theorem dX4_builds_305 : decode cX4_builds 305 = .ok (.if_icmp .ne 7, 3) := by decide +kernel
theorem dX4_builds_308 : decode cX4_builds 308 = .ok (.iconst 3, 1) := by decide +kernel
theorem dX4_builds_309 : decode cX4_builds 309 = .ok (.goto 21, 3) := by decide +kernel
theorem dX4_builds_312 : decode cX4_builds 312 = .ok (.iload_n 1, 1) := by decide +kernel
theorem dX4_builds_313 : decode cX4_builds 313 = .ok (.iconst 4, 1) := by decide +kernel
theorem dX4_builds_314 : decode cX4_builds 314 = .ok (.if_icmp .ne 7, 3) := by decide +kernel
theorem dX4_builds_317 : decode cX4_builds 317 = .ok (.iconst 5, 1) := by decide +kernel
theorem dX4_builds_318 : decode cX4_builds 318 = .ok (.goto 12, 3) := by decide +kernel
theorem dX4_builds_321 : decode cX4_builds 321 = .ok (.iconst 3, 1) := by decide +kernel
theorem dX4_builds_322 : decode cX4_builds 322 = .ok (.aload_n 0, 1) := by decide +kernel
theorem dX4_builds_323 : decode cX4_builds 323 = .ok (.getfield 38, 3) := by decide +kernel
theorem dX4_builds_326 : decode cX4_builds 326 = .ok (.iload 5, 2) := by decide +kernel
theorem dX4_builds_328 : decode cX4_builds 328 = .ok (.iaload, 1) := by decide +kernel
theorem dX4_builds_329 : decode cX4_builds 329 = .ok (.iadd, 1) := by decide +kernel
theorem dX4_builds_330 : decode cX4_builds 330 = .ok (.iadd, 1) := by decide +kernel
theorem dX4_builds_331 : decode cX4_builds 331 = .ok (.iastore, 1) := by decide +kernel
theorem dX4_builds_332 : decode cX4_builds 332 = .ok (.aload_n 0, 1) := by decide +kernel
theorem dX4_builds_333 : decode cX4_builds 333 = .ok (.dup, 1) := by decide +kernel
theorem dX4_builds_334 : decode cX4_builds 334 = .ok (.getfield 7, 3) := by decide +kernel
theorem dX4_builds_337 : decode cX4_builds 337 = .ok (.iconst 1, 1) := by decide +kernel
theorem dX4_builds_338 : decode cX4_builds 338 = .ok (.iadd, 1) := by decide +kernel
theorem dX4_builds_339 : decode cX4_builds 339 = .ok (.putfield 7, 3) := by decide +kernel
theorem dX4_builds_342 : decode cX4_builds 342 = .ok (.iload 8, 2) := by decide +kernel
theorem dX4_builds_344 : decode cX4_builds 344 = .ok (.ireturn, 1) := by decide +kernel
theorem dX4_tau_0 : decode cX4_tau 0 = .ok (.aload_n 0, 1) := by decide +kernel
theorem dX4_tau_1 : decode cX4_tau 1 = .ok (.iload_n 1, 1) := by decide +kernel
theorem dX4_tau_2 : decode cX4_tau 2 = .ok (.invokevirtual 77, 3) := by decide +kernel
theorem dX4_tau_5 : decode cX4_tau 5 = .ok (.ifCond .eq 15, 3) := by decide +kernel
theorem dX4_tau_8 : decode cX4_tau 8 = .ok (.aload_n 0, 1) := by decide +kernel
theorem dX4_tau_9 : decode cX4_tau 9 = .ok (.iconst 1, 1) := by decide +kernel
theorem dX4_tau_10 : decode cX4_tau 10 = .ok (.iconst 0, 1) := by decide +kernel
theorem dX4_tau_11 : decode cX4_tau 11 = .ok (.iconst 0, 1) := by decide +kernel
theorem dX4_tau_12 : decode cX4_tau 12 = .ok (.iload_n 1, 1) := by decide +kernel
theorem dX4_tau_13 : decode cX4_tau 13 = .ok (.iconst 0, 1) := by decide +kernel
theorem dX4_tau_14 : decode cX4_tau 14 = .ok (.invokevirtual 81, 3) := by decide +kernel
theorem dX4_tau_17 : decode cX4_tau 17 = .ok (.goto 4, 3) := by decide +kernel
theorem dX4_tau_20 : decode cX4_tau 20 = .ok (.iconst (-1), 1) := by decide +kernel
theorem dX4_tau_21 : decode cX4_tau 21 = .ok (.ireturn, 1) := by decide +kernel
theorem dX4_output_0 : decode cX4_output 0 = .ok (.iload_n 1, 1) := by decide +kernel
theorem dX4_output_1 : decode cX4_output 1 = .ok (.invokestatic 85, 3) := by decide +kernel
theorem dX4_output_4 : decode cX4_output 4 = .ok (.ifCond .eq 30, 3) := by decide +kernel
theorem dX4_output_7 : decode cX4_output 7 = .ok (.iload_n 2, 1) := by decide +kernel
theorem dX4_output_8 : decode cX4_output 8 = .ok (.invokestatic 85, 3) := by decide +kernel
theorem dX4_output_11 : decode cX4_output 11 = .ok (.ifCond .eq 23, 3) := by decide +kernel
theorem dX4_output_14 : decode cX4_output 14 = .ok (.aload_n 0, 1) := by decide +kernel
theorem dX4_output_15 : decode cX4_output 15 = .ok (.iload_n 3, 1) := by decide +kernel
theorem dX4_output_16 : decode cX4_output 16 = .ok (.invokevirtual 77, 3) := by decide +kernel
theorem dX4_output_19 : decode cX4_output 19 = .ok (.ifCond .eq 15, 3) := by decide +kernel
theorem dX4_output_22 : decode cX4_output 22 = .ok (.aload_n 0, 1) := by decide +kernel
theorem dX4_output_23 : decode cX4_output 23 = .ok (.iconst 2, 1) := by decide +kernel
theorem dX4_output_24 : decode cX4_output 24 = .ok (.iload_n 1, 1) := by decide +kernel
theorem dX4_output_25 : decode cX4_output 25 = .ok (.iload_n 2, 1) := by decide +kernel
theorem dX4_output_26 : decode cX4_output 26 = .ok (.iload_n 3, 1) := by decide +kernel
theorem dX4_output_27 : decode cX4_output 27 = .ok (.iconst 0, 1) := by decide +kernel
theorem dX4_output_28 : decode cX4_output 28 = .ok (.invokevirtual 81, 3) := by decide +kernel
theorem dX4_output_31 : decode cX4_output 31 = .ok (.goto 4, 3) := by decide +kernel
theorem dX4_output_34 : decode cX4_output 34 = .ok (.iconst (-1), 1) := by decide +kernel
theorem dX4_output_35 : decode cX4_output 35 = .ok (.ireturn, 1) := by decide +kernel
theorem dX4_input_0 : decode cX4_input 0 = .ok (.iload_n 1, 1) := by decide +kernel
theorem dX4_input_1 : decode cX4_input 1 = .ok (.invokestatic 85, 3) := by decide +kernel
theorem dX4_input_4 : decode cX4_input 4 = .ok (.ifCond .eq 23, 3) := by decide +kernel
theorem dX4_input_7 : decode cX4_input 7 = .ok (.aload_n 0, 1) := by decide +kernel
theorem dX4_input_8 : decode cX4_input 8 = .ok (.iload_n 2, 1) := by decide +kernel
theorem dX4_input_9 : decode cX4_input 9 = .ok (.invokevirtual 77, 3) := by decide +kernel
theorem dX4_input_12 : decode cX4_input 12 = .ok (.ifCond .eq 15, 3) := by decide +kernel
theorem dX4_input_15 : decode cX4_input 15 = .ok (.aload_n 0, 1) := by decide +kernel
theorem dX4_input_16 : decode cX4_input 16 = .ok (.iconst 3, 1) := by decide +kernel
theorem dX4_input_17 : decode cX4_input 17 = .ok (.iload_n 1, 1) := by decide +kernel
theorem dX4_input_18 : decode cX4_input 18 = .ok (.iconst 0, 1) := by decide +kernel
theorem dX4_input_19 : decode cX4_input 19 = .ok (.iload_n 2, 1) := by decide +kernel
theorem dX4_input_20 : decode cX4_input 20 = .ok (.iconst 0, 1) := by decide +kernel
theorem dX4_input_21 : decode cX4_input 21 = .ok (.invokevirtual 81, 3) := by decide +kernel
theorem dX4_input_24 : decode cX4_input 24 = .ok (.goto 4, 3) := by decide +kernel
theorem dX4_input_27 : decode cX4_input 27 = .ok (.iconst (-1), 1) := by decide +kernel
theorem dX4_input_28 : decode cX4_input 28 = .ok (.ireturn, 1) := by decide +kernel
theorem dX4_match_0 : decode cX4_match 0 = .ok (.iload_n 1, 1) := by decide +kernel
theorem dX4_match_1 : decode cX4_match 1 = .ok (.invokestatic 85, 3) := by decide +kernel
theorem dX4_match_4 : decode cX4_match 4 = .ok (.ifCond .eq 30, 3) := by decide +kernel
theorem dX4_match_7 : decode cX4_match 7 = .ok (.iload_n 2, 1) := by decide +kernel
theorem dX4_match_8 : decode cX4_match 8 = .ok (.invokestatic 85, 3) := by decide +kernel
theorem dX4_match_11 : decode cX4_match 11 = .ok (.ifCond .eq 23, 3) := by decide +kernel
theorem dX4_match_14 : decode cX4_match 14 = .ok (.aload_n 0, 1) := by decide +kernel
theorem dX4_match_15 : decode cX4_match 15 = .ok (.iload_n 3, 1) := by decide +kernel
theorem dX4_match_16 : decode cX4_match 16 = .ok (.invokevirtual 77, 3) := by decide +kernel
theorem dX4_match_19 : decode cX4_match 19 = .ok (.ifCond .eq 15, 3) := by decide +kernel
theorem dX4_match_22 : decode cX4_match 22 = .ok (.aload_n 0, 1) := by decide +kernel
theorem dX4_match_23 : decode cX4_match 23 = .ok (.iconst 4, 1) := by decide +kernel
theorem dX4_match_24 : decode cX4_match 24 = .ok (.iload_n 1, 1) := by decide +kernel
theorem dX4_match_25 : decode cX4_match 25 = .ok (.iload_n 2, 1) := by decide +kernel
theorem dX4_match_26 : decode cX4_match 26 = .ok (.iload_n 3, 1) := by decide +kernel
theorem dX4_match_27 : decode cX4_match 27 = .ok (.iconst 0, 1) := by decide +kernel
theorem dX4_match_28 : decode cX4_match 28 = .ok (.invokevirtual 81, 3) := by decide +kernel
theorem dX4_match_31 : decode cX4_match 31 = .ok (.goto 4, 3) := by decide +kernel
theorem dX4_match_34 : decode cX4_match 34 = .ok (.iconst (-1), 1) := by decide +kernel
theorem dX4_match_35 : decode cX4_match 35 = .ok (.ireturn, 1) := by decide +kernel
theorem dX4_sum_0 : decode cX4_sum 0 = .ok (.aload_n 0, 1) := by decide +kernel
theorem dX4_sum_1 : decode cX4_sum 1 = .ok (.iload_n 1, 1) := by decide +kernel
theorem dX4_sum_2 : decode cX4_sum 2 = .ok (.invokevirtual 77, 3) := by decide +kernel
theorem dX4_sum_5 : decode cX4_sum 5 = .ok (.ifCond .eq 23, 3) := by decide +kernel
theorem dX4_sum_8 : decode cX4_sum 8 = .ok (.aload_n 0, 1) := by decide +kernel
theorem dX4_sum_9 : decode cX4_sum 9 = .ok (.iload_n 2, 1) := by decide +kernel
theorem dX4_sum_10 : decode cX4_sum 10 = .ok (.invokevirtual 77, 3) := by decide +kernel
theorem dX4_sum_13 : decode cX4_sum 13 = .ok (.ifCond .eq 15, 3) := by decide +kernel
theorem dX4_sum_16 : decode cX4_sum 16 = .ok (.aload_n 0, 1) := by decide +kernel
theorem dX4_sum_17 : decode cX4_sum 17 = .ok (.iconst 5, 1) := by decide +kernel
theorem dX4_sum_18 : decode cX4_sum 18 = .ok (.iconst 0, 1) := by decide +kernel
theorem dX4_sum_19 : decode cX4_sum 19 = .ok (.iconst 0, 1) := by decide +kernel
theorem dX4_sum_20 : decode cX4_sum 20 = .ok (.iload_n 1, 1) := by decide +kernel
theorem dX4_sum_21 : decode cX4_sum 21 = .ok (.iload_n 2, 1) := by decide +kernel
theorem dX4_sum_22 : decode cX4_sum 22 = .ok (.invokevirtual 81, 3) := by decide +kernel
theorem dX4_sum_25 : decode cX4_sum 25 = .ok (.goto 4, 3) := by decide +kernel
theorem dX4_sum_28 : decode cX4_sum 28 = .ok (.iconst (-1), 1) := by decide +kernel
theorem dX4_sum_29 : decode cX4_sum 29 = .ok (.ireturn, 1) := by decide +kernel
theorem dX4_removeLast_0 : decode cX4_removeLast 0 = .ok (.aload_n 0, 1) := by decide +kernel
theorem dX4_removeLast_1 : decode cX4_removeLast 1 = .ok (.getfield 7, 3) := by decide +kernel
theorem dX4_removeLast_4 : decode cX4_removeLast 4 = .ok (.iconst 1, 1) := by decide +kernel
theorem dX4_removeLast_5 : decode cX4_removeLast 5 = .ok (.if_icmp .ne 6, 3) := by decide +kernel
theorem dX4_removeLast_8 : decode cX4_removeLast 8 = .ok (.bipush (-4), 2) := by decide +kernel
theorem dX4_removeLast_10 : decode cX4_removeLast 10 = .ok (.ireturn, 1) := by decide +kernel
theorem dX4_removeLast_11 : decode cX4_removeLast 11 = .ok (.aload_n 0, 1) := by decide +kernel
theorem dX4_removeLast_12 : decode cX4_removeLast 12 = .ok (.dup, 1) := by decide +kernel
theorem dX4_removeLast_13 : decode cX4_removeLast 13 = .ok (.getfield 7, 3) := by decide +kernel
theorem dX4_removeLast_16 : decode cX4_removeLast 16 = .ok (.iconst 1, 1) := by decide +kernel
theorem dX4_removeLast_17 : decode cX4_removeLast 17 = .ok (.isub, 1) := by decide +kernel
theorem dX4_removeLast_18 : decode cX4_removeLast 18 = .ok (.putfield 7, 3) := by decide +kernel
theorem dX4_removeLast_21 : decode cX4_removeLast 21 = .ok (.aload_n 0, 1) := by decide +kernel
theorem dX4_removeLast_22 : decode cX4_removeLast 22 = .ok (.getfield 7, 3) := by decide +kernel
theorem dX4_removeLast_25 : decode cX4_removeLast 25 = .ok (.ireturn, 1) := by decide +kernel
theorem dX4_processCount_0 : decode cX4_processCount 0 = .ok (.aload_n 0, 1) := by decide +kernel
theorem dX4_processCount_1 : decode cX4_processCount 1 = .ok (.getfield 7, 3) := by decide +kernel
theorem dX4_processCount_4 : decode cX4_processCount 4 = .ok (.ireturn, 1) := by decide +kernel
theorem dX4_kindOf_0 : decode cX4_kindOf 0 = .ok (.aload_n 0, 1) := by decide +kernel
theorem dX4_kindOf_1 : decode cX4_kindOf 1 = .ok (.iload_n 1, 1) := by decide +kernel
theorem dX4_kindOf_2 : decode cX4_kindOf 2 = .ok (.invokevirtual 77, 3) := by decide +kernel
theorem dX4_kindOf_5 : decode cX4_kindOf 5 = .ok (.ifCond .eq 12, 3) := by decide +kernel
theorem dX4_kindOf_8 : decode cX4_kindOf 8 = .ok (.aload_n 0, 1) := by decide +kernel
theorem dX4_kindOf_9 : decode cX4_kindOf 9 = .ok (.getfield 13, 3) := by decide +kernel
theorem dX4_kindOf_12 : decode cX4_kindOf 12 = .ok (.iload_n 1, 1) := by decide +kernel
theorem dX4_kindOf_13 : decode cX4_kindOf 13 = .ok (.iaload, 1) := by decide +kernel
theorem dX4_kindOf_14 : decode cX4_kindOf 14 = .ok (.goto 4, 3) := by decide +kernel
theorem dX4_kindOf_17 : decode cX4_kindOf 17 = .ok (.iconst (-1), 1) := by decide +kernel
theorem dX4_kindOf_18 : decode cX4_kindOf 18 = .ok (.ireturn, 1) := by decide +kernel
theorem dX4_partOf_0 : decode cX4_partOf 0 = .ok (.aload_n 0, 1) := by decide +kernel
theorem dX4_partOf_1 : decode cX4_partOf 1 = .ok (.iload_n 1, 1) := by decide +kernel
theorem dX4_partOf_2 : decode cX4_partOf 2 = .ok (.invokevirtual 77, 3) := by decide +kernel
theorem dX4_partOf_5 : decode cX4_partOf 5 = .ok (.ifCond .eq 12, 3) := by decide +kernel
theorem dX4_partOf_8 : decode cX4_partOf 8 = .ok (.iload_n 2, 1) := by decide +kernel
theorem dX4_partOf_9 : decode cX4_partOf 9 = .ok (.iconst 0, 1) := by decide +kernel
theorem dX4_partOf_10 : decode cX4_partOf 10 = .ok (.iconst 1, 1) := by decide +kernel
theorem dX4_partOf_11 : decode cX4_partOf 11 = .ok (.invokestatic 65, 3) := by decide +kernel
theorem dX4_partOf_14 : decode cX4_partOf 14 = .ok (.ifCond .ne 5, 3) := by decide +kernel
theorem dX4_partOf_17 : decode cX4_partOf 17 = .ok (.iconst (-1), 1) := by decide +kernel
theorem dX4_partOf_18 : decode cX4_partOf 18 = .ok (.ireturn, 1) := by decide +kernel
theorem dX4_partOf_19 : decode cX4_partOf 19 = .ok (.iload_n 2, 1) := by decide +kernel
theorem dX4_partOf_20 : decode cX4_partOf 20 = .ok (.ifCond .ne 20, 3) := by decide +kernel
theorem dX4_partOf_23 : decode cX4_partOf 23 = .ok (.aload_n 0, 1) := by decide +kernel
theorem dX4_partOf_24 : decode cX4_partOf 24 = .ok (.getfield 13, 3) := by decide +kernel
theorem dX4_partOf_27 : decode cX4_partOf 27 = .ok (.iload_n 1, 1) := by decide +kernel
theorem dX4_partOf_28 : decode cX4_partOf 28 = .ok (.iaload, 1) := by decide +kernel
theorem dX4_partOf_29 : decode cX4_partOf 29 = .ok (.ifCond .eq 7, 3) := by decide +kernel
theorem dX4_partOf_32 : decode cX4_partOf 32 = .ok (.iconst 1, 1) := by decide +kernel
theorem dX4_partOf_33 : decode cX4_partOf 33 = .ok (.goto 22, 3) := by decide +kernel
theorem dX4_partOf_36 : decode cX4_partOf 36 = .ok (.iconst 0, 1) := by decide +kernel
theorem dX4_partOf_37 : decode cX4_partOf 37 = .ok (.goto 18, 3) := by decide +kernel
theorem dX4_partOf_40 : decode cX4_partOf 40 = .ok (.aload_n 0, 1) := by decide +kernel
theorem dX4_partOf_41 : decode cX4_partOf 41 = .ok (.getfield 13, 3) := by decide +kernel
theorem dX4_partOf_44 : decode cX4_partOf 44 = .ok (.iload_n 1, 1) := by decide +kernel
theorem dX4_partOf_45 : decode cX4_partOf 45 = .ok (.iaload, 1) := by decide +kernel
theorem dX4_partOf_46 : decode cX4_partOf 46 = .ok (.iconst 5, 1) := by decide +kernel
theorem dX4_partOf_47 : decode cX4_partOf 47 = .ok (.if_icmp .ne 7, 3) := by decide +kernel
theorem dX4_partOf_50 : decode cX4_partOf 50 = .ok (.iconst 1, 1) := by decide +kernel
theorem dX4_partOf_51 : decode cX4_partOf 51 = .ok (.goto 4, 3) := by decide +kernel
theorem dX4_partOf_54 : decode cX4_partOf 54 = .ok (.iconst 0, 1) := by decide +kernel
theorem dX4_partOf_55 : decode cX4_partOf 55 = .ok (.istore_n 3, 1) := by decide +kernel
theorem dX4_partOf_56 : decode cX4_partOf 56 = .ok (.iload_n 3, 1) := by decide +kernel
theorem dX4_partOf_57 : decode cX4_partOf 57 = .ok (.ifCond .ne 8, 3) := by decide +kernel
theorem dX4_partOf_60 : decode cX4_partOf 60 = .ok (.bipush (-4), 2) := by decide +kernel
theorem dX4_partOf_62 : decode cX4_partOf 62 = .ok (.goto 22, 3) := by decide +kernel
theorem dX4_partOf_65 : decode cX4_partOf 65 = .ok (.iload_n 2, 1) := by decide +kernel
theorem dX4_partOf_66 : decode cX4_partOf 66 = .ok (.ifCond .ne 12, 3) := by decide +kernel
theorem dX4_partOf_69 : decode cX4_partOf 69 = .ok (.aload_n 0, 1) := by decide +kernel
theorem dX4_partOf_70 : decode cX4_partOf 70 = .ok (.getfield 23, 3) := by decide +kernel
theorem dX4_partOf_73 : decode cX4_partOf 73 = .ok (.iload_n 1, 1) := by decide +kernel
theorem dX4_partOf_74 : decode cX4_partOf 74 = .ok (.iaload, 1) := by decide +kernel
theorem dX4_partOf_75 : decode cX4_partOf 75 = .ok (.goto 9, 3) := by decide +kernel
theorem dX4_partOf_78 : decode cX4_partOf 78 = .ok (.aload_n 0, 1) := by decide +kernel
theorem dX4_partOf_79 : decode cX4_partOf 79 = .ok (.getfield 26, 3) := by decide +kernel
theorem dX4_partOf_82 : decode cX4_partOf 82 = .ok (.iload_n 1, 1) := by decide +kernel
theorem dX4_partOf_83 : decode cX4_partOf 83 = .ok (.iaload, 1) := by decide +kernel
theorem dX4_partOf_84 : decode cX4_partOf 84 = .ok (.ireturn, 1) := by decide +kernel
theorem dX4_depthOf_0 : decode cX4_depthOf 0 = .ok (.aload_n 0, 1) := by decide +kernel
theorem dX4_depthOf_1 : decode cX4_depthOf 1 = .ok (.iload_n 1, 1) := by decide +kernel
theorem dX4_depthOf_2 : decode cX4_depthOf 2 = .ok (.invokevirtual 77, 3) := by decide +kernel
theorem dX4_depthOf_5 : decode cX4_depthOf 5 = .ok (.ifCond .eq 12, 3) := by decide +kernel
theorem dX4_depthOf_8 : decode cX4_depthOf 8 = .ok (.aload_n 0, 1) := by decide +kernel
theorem dX4_depthOf_9 : decode cX4_depthOf 9 = .ok (.getfield 29, 3) := by decide +kernel
theorem dX4_depthOf_12 : decode cX4_depthOf 12 = .ok (.iload_n 1, 1) := by decide +kernel
theorem dX4_depthOf_13 : decode cX4_depthOf 13 = .ok (.iaload, 1) := by decide +kernel
theorem dX4_depthOf_14 : decode cX4_depthOf 14 = .ok (.goto 4, 3) := by decide +kernel
theorem dX4_depthOf_17 : decode cX4_depthOf 17 = .ok (.iconst (-1), 1) := by decide +kernel
theorem dX4_depthOf_18 : decode cX4_depthOf 18 = .ok (.ireturn, 1) := by decide +kernel
theorem dX4_needOf_0 : decode cX4_needOf 0 = .ok (.aload_n 0, 1) := by decide +kernel
theorem dX4_needOf_1 : decode cX4_needOf 1 = .ok (.iload_n 1, 1) := by decide +kernel
theorem dX4_needOf_2 : decode cX4_needOf 2 = .ok (.invokevirtual 77, 3) := by decide +kernel
theorem dX4_needOf_5 : decode cX4_needOf 5 = .ok (.ifCond .eq 12, 3) := by decide +kernel
theorem dX4_needOf_8 : decode cX4_needOf 8 = .ok (.aload_n 0, 1) := by decide +kernel
theorem dX4_needOf_9 : decode cX4_needOf 9 = .ok (.getfield 35, 3) := by decide +kernel
theorem dX4_needOf_12 : decode cX4_needOf 12 = .ok (.iload_n 1, 1) := by decide +kernel
theorem dX4_needOf_13 : decode cX4_needOf 13 = .ok (.iaload, 1) := by decide +kernel
theorem dX4_needOf_14 : decode cX4_needOf 14 = .ok (.goto 4, 3) := by decide +kernel
theorem dX4_needOf_17 : decode cX4_needOf 17 = .ok (.iconst (-1), 1) := by decide +kernel
theorem dX4_needOf_18 : decode cX4_needOf 18 = .ok (.ireturn, 1) := by decide +kernel
theorem dX4_textLength_0 : decode cX4_textLength 0 = .ok (.aload_n 0, 1) := by decide +kernel
theorem dX4_textLength_1 : decode cX4_textLength 1 = .ok (.iload_n 1, 1) := by decide +kernel
theorem dX4_textLength_2 : decode cX4_textLength 2 = .ok (.invokevirtual 77, 3) := by decide +kernel
theorem dX4_textLength_5 : decode cX4_textLength 5 = .ok (.ifCond .eq 12, 3) := by decide +kernel
theorem dX4_textLength_8 : decode cX4_textLength 8 = .ok (.aload_n 0, 1) := by decide +kernel
theorem dX4_textLength_9 : decode cX4_textLength 9 = .ok (.getfield 38, 3) := by decide +kernel
theorem dX4_textLength_12 : decode cX4_textLength 12 = .ok (.iload_n 1, 1) := by decide +kernel
theorem dX4_textLength_13 : decode cX4_textLength 13 = .ok (.iaload, 1) := by decide +kernel
theorem dX4_textLength_14 : decode cX4_textLength 14 = .ok (.goto 4, 3) := by decide +kernel
theorem dX4_textLength_17 : decode cX4_textLength 17 = .ok (.iconst (-1), 1) := by decide +kernel
theorem dX4_textLength_18 : decode cX4_textLength 18 = .ok (.ireturn, 1) := by decide +kernel
theorem dX4_sign_0 : decode cX4_sign 0 = .ok (.iload_n 0, 1) := by decide +kernel
theorem dX4_sign_1 : decode cX4_sign 1 = .ok (.iconst 3, 1) := by decide +kernel
theorem dX4_sign_2 : decode cX4_sign 2 = .ok (.if_icmp .ge 10, 3) := by decide +kernel
theorem dX4_sign_5 : decode cX4_sign 5 = .ok (.bipush 97, 2) := by decide +kernel
theorem dX4_sign_7 : decode cX4_sign 7 = .ok (.iload_n 0, 1) := by decide +kernel
theorem dX4_sign_8 : decode cX4_sign 8 = .ok (.iadd, 1) := by decide +kernel
theorem dX4_sign_9 : decode cX4_sign 9 = .ok (.goto 9, 3) := by decide +kernel
theorem dX4_sign_12 : decode cX4_sign 12 = .ok (.bipush 48, 2) := by decide +kernel
theorem dX4_sign_14 : decode cX4_sign 14 = .ok (.iload_n 0, 1) := by decide +kernel
theorem dX4_sign_15 : decode cX4_sign 15 = .ok (.iadd, 1) := by decide +kernel
theorem dX4_sign_16 : decode cX4_sign 16 = .ok (.iconst 3, 1) := by decide +kernel
theorem dX4_sign_17 : decode cX4_sign 17 = .ok (.isub, 1) := by decide +kernel
theorem dX4_sign_18 : decode cX4_sign 18 = .ok (.ireturn, 1) := by decide +kernel
theorem dX4_head_0 : decode cX4_head 0 = .ok (.aload_n 0, 1) := by decide +kernel
theorem dX4_head_1 : decode cX4_head 1 = .ok (.getfield 13, 3) := by decide +kernel
theorem dX4_head_4 : decode cX4_head 4 = .ok (.iload_n 1, 1) := by decide +kernel
theorem dX4_head_5 : decode cX4_head 5 = .ok (.iaload, 1) := by decide +kernel
theorem dX4_head_6 : decode cX4_head 6 = .ok (.tableswitch 120 0 3 #[30, 33, 45, 91], 30) := by decide +kernel
theorem dX4_head_36 : decode cX4_head 36 = .ok (.bipush 48, 2) := by decide +kernel
theorem dX4_head_38 : decode cX4_head 38 = .ok (.ireturn, 1) := by decide +kernel
theorem dX4_head_39 : decode cX4_head 39 = .ok (.iload_n 2, 1) := by decide +kernel
theorem dX4_head_40 : decode cX4_head 40 = .ok (.ifCond .ne 8, 3) := by decide +kernel
theorem dX4_head_43 : decode cX4_head 43 = .ok (.bipush 116, 2) := by decide +kernel
theorem dX4_head_45 : decode cX4_head 45 = .ok (.goto 5, 3) := by decide +kernel
theorem dX4_head_48 : decode cX4_head 48 = .ok (.bipush 46, 2) := by decide +kernel
theorem dX4_head_50 : decode cX4_head 50 = .ok (.ireturn, 1) := by decide +kernel
theorem dX4_head_51 : decode cX4_head 51 = .ok (.iload_n 2, 1) := by decide +kernel
theorem dX4_head_52 : decode cX4_head 52 = .ok (.ifCond .ne 15, 3) := by decide +kernel
theorem dX4_head_55 : decode cX4_head 55 = .ok (.aload_n 0, 1) := by decide +kernel
theorem dX4_head_56 : decode cX4_head 56 = .ok (.getfield 17, 3) := by decide +kernel
theorem dX4_head_59 : decode cX4_head 59 = .ok (.iload_n 1, 1) := by decide +kernel
theorem dX4_head_60 : decode cX4_head 60 = .ok (.iaload, 1) := by decide +kernel
theorem dX4_head_61 : decode cX4_head 61 = .ok (.invokestatic 88, 3) := by decide +kernel
theorem dX4_head_64 : decode cX4_head 64 = .ok (.goto 32, 3) := by decide +kernel
theorem dX4_head_67 : decode cX4_head 67 = .ok (.iload_n 2, 1) := by decide +kernel
theorem dX4_head_68 : decode cX4_head 68 = .ok (.iconst 1, 1) := by decide +kernel
theorem dX4_head_69 : decode cX4_head 69 = .ok (.if_icmp .ne 8, 3) := by decide +kernel
theorem dX4_head_72 : decode cX4_head 72 = .ok (.bipush 33, 2) := by decide +kernel
theorem dX4_head_74 : decode cX4_head 74 = .ok (.goto 22, 3) := by decide +kernel
theorem dX4_head_77 : decode cX4_head 77 = .ok (.iload_n 2, 1) := by decide +kernel
theorem dX4_head_78 : decode cX4_head 78 = .ok (.iconst 2, 1) := by decide +kernel
theorem dX4_head_79 : decode cX4_head 79 = .ok (.if_icmp .ne 15, 3) := by decide +kernel
theorem dX4_head_82 : decode cX4_head 82 = .ok (.aload_n 0, 1) := by decide +kernel
theorem dX4_head_83 : decode cX4_head 83 = .ok (.getfield 20, 3) := by decide +kernel
theorem dX4_head_86 : decode cX4_head 86 = .ok (.iload_n 1, 1) := by decide +kernel
theorem dX4_head_87 : decode cX4_head 87 = .ok (.iaload, 1) := by decide +kernel
theorem dX4_head_88 : decode cX4_head 88 = .ok (.invokestatic 88, 3) := by decide +kernel
theorem dX4_head_91 : decode cX4_head 91 = .ok (.goto 5, 3) := by decide +kernel
theorem dX4_head_94 : decode cX4_head 94 = .ok (.bipush 46, 2) := by decide +kernel
theorem dX4_head_96 : decode cX4_head 96 = .ok (.ireturn, 1) := by decide +kernel
theorem dX4_head_97 : decode cX4_head 97 = .ok (.iload_n 2, 1) := by decide +kernel
theorem dX4_head_98 : decode cX4_head 98 = .ok (.ifCond .ne 15, 3) := by decide +kernel
theorem dX4_head_101 : decode cX4_head 101 = .ok (.aload_n 0, 1) := by decide +kernel
theorem dX4_head_102 : decode cX4_head 102 = .ok (.getfield 17, 3) := by decide +kernel
theorem dX4_head_105 : decode cX4_head 105 = .ok (.iload_n 1, 1) := by decide +kernel
theorem dX4_head_106 : decode cX4_head 106 = .ok (.iaload, 1) := by decide +kernel
theorem dX4_head_107 : decode cX4_head 107 = .ok (.invokestatic 88, 3) := by decide +kernel
theorem dX4_head_110 : decode cX4_head 110 = .ok (.goto 15, 3) := by decide +kernel
theorem dX4_head_113 : decode cX4_head 113 = .ok (.iload_n 2, 1) := by decide +kernel
theorem dX4_head_114 : decode cX4_head 114 = .ok (.iconst 1, 1) := by decide +kernel
theorem dX4_head_115 : decode cX4_head 115 = .ok (.if_icmp .ne 8, 3) := by decide +kernel
theorem dX4_head_118 : decode cX4_head 118 = .ok (.bipush 63, 2) := by decide +kernel
theorem dX4_head_120 : decode cX4_head 120 = .ok (.goto 5, 3) := by decide +kernel
theorem dX4_head_123 : decode cX4_head 123 = .ok (.bipush 46, 2) := by decide +kernel
theorem dX4_head_125 : decode cX4_head 125 = .ok (.ireturn, 1) := by decide +kernel
theorem dX4_head_126 : decode cX4_head 126 = .ok (.iload_n 2, 1) := by decide +kernel
theorem dX4_head_127 : decode cX4_head 127 = .ok (.ifCond .ne 8, 3) := by decide +kernel
theorem dX4_head_130 : decode cX4_head 130 = .ok (.bipush 91, 2) := by decide +kernel
theorem dX4_head_132 : decode cX4_head 132 = .ok (.goto 49, 3) := by decide +kernel
theorem dX4_head_135 : decode cX4_head 135 = .ok (.iload_n 2, 1) := by decide +kernel
theorem dX4_head_136 : decode cX4_head 136 = .ok (.iconst 1, 1) := by decide +kernel
theorem dX4_head_137 : decode cX4_head 137 = .ok (.if_icmp .ne 15, 3) := by decide +kernel
theorem dX4_head_140 : decode cX4_head 140 = .ok (.aload_n 0, 1) := by decide +kernel
theorem dX4_head_141 : decode cX4_head 141 = .ok (.getfield 17, 3) := by decide +kernel
theorem dX4_head_144 : decode cX4_head 144 = .ok (.iload_n 1, 1) := by decide +kernel
theorem dX4_head_145 : decode cX4_head 145 = .ok (.iaload, 1) := by decide +kernel
theorem dX4_head_146 : decode cX4_head 146 = .ok (.invokestatic 88, 3) := by decide +kernel
theorem dX4_head_149 : decode cX4_head 149 = .ok (.goto 32, 3) := by decide +kernel
theorem dX4_head_152 : decode cX4_head 152 = .ok (.iload_n 2, 1) := by decide +kernel
theorem dX4_head_153 : decode cX4_head 153 = .ok (.iconst 2, 1) := by decide +kernel
theorem dX4_head_154 : decode cX4_head 154 = .ok (.if_icmp .ne 8, 3) := by decide +kernel
theorem dX4_head_157 : decode cX4_head 157 = .ok (.bipush 61, 2) := by decide +kernel
theorem dX4_head_159 : decode cX4_head 159 = .ok (.goto 22, 3) := by decide +kernel
theorem dX4_head_162 : decode cX4_head 162 = .ok (.iload_n 2, 1) := by decide +kernel
theorem dX4_head_163 : decode cX4_head 163 = .ok (.iconst 3, 1) := by decide +kernel
theorem dX4_head_164 : decode cX4_head 164 = .ok (.if_icmp .ne 15, 3) := by decide +kernel
theorem dX4_head_167 : decode cX4_head 167 = .ok (.aload_n 0, 1) := by decide +kernel
theorem dX4_head_168 : decode cX4_head 168 = .ok (.getfield 20, 3) := by decide +kernel
theorem dX4_head_171 : decode cX4_head 171 = .ok (.iload_n 1, 1) := by decide +kernel
theorem dX4_head_172 : decode cX4_head 172 = .ok (.iaload, 1) := by decide +kernel
theorem dX4_head_173 : decode cX4_head 173 = .ok (.invokestatic 88, 3) := by decide +kernel
theorem dX4_head_176 : decode cX4_head 176 = .ok (.goto 5, 3) := by decide +kernel
theorem dX4_head_179 : decode cX4_head 179 = .ok (.bipush 93, 2) := by decide +kernel
theorem dX4_head_181 : decode cX4_head 181 = .ok (.ireturn, 1) := by decide +kernel
theorem dX4_textAt_0 : decode cX4_textAt 0 = .ok (.aload_n 0, 1) := by decide +kernel
theorem dX4_textAt_1 : decode cX4_textAt 1 = .ok (.iload_n 1, 1) := by decide +kernel
theorem dX4_textAt_2 : decode cX4_textAt 2 = .ok (.invokevirtual 77, 3) := by decide +kernel
theorem dX4_textAt_5 : decode cX4_textAt 5 = .ok (.ifCond .eq 7, 3) := by decide +kernel
theorem dX4_textAt_8 : decode cX4_textAt 8 = .ok (.iload_n 2, 1) := by decide +kernel
theorem dX4_textAt_9 : decode cX4_textAt 9 = .ok (.ifCond .ge 5, 3) := by decide +kernel
theorem dX4_textAt_12 : decode cX4_textAt 12 = .ok (.iconst (-1), 1) := by decide +kernel
theorem dX4_textAt_13 : decode cX4_textAt 13 = .ok (.ireturn, 1) := by decide +kernel
theorem dX4_textAt_14 : decode cX4_textAt 14 = .ok (.iload_n 2, 1) := by decide +kernel
theorem dX4_textAt_15 : decode cX4_textAt 15 = .ok (.aload_n 0, 1) := by decide +kernel
theorem dX4_textAt_16 : decode cX4_textAt 16 = .ok (.getfield 38, 3) := by decide +kernel
theorem dX4_textAt_19 : decode cX4_textAt 19 = .ok (.iload_n 1, 1) := by decide +kernel
theorem dX4_textAt_20 : decode cX4_textAt 20 = .ok (.iaload, 1) := by decide +kernel
theorem dX4_textAt_21 : decode cX4_textAt 21 = .ok (.if_icmp .lt 6, 3) := by decide +kernel
theorem dX4_textAt_24 : decode cX4_textAt 24 = .ok (.bipush (-4), 2) := by decide +kernel
theorem dX4_textAt_26 : decode cX4_textAt 26 = .ok (.ireturn, 1) := by decide +kernel
theorem dX4_textAt_27 : decode cX4_textAt 27 = .ok (.iload_n 1, 1) := by decide +kernel
theorem dX4_textAt_28 : decode cX4_textAt 28 = .ok (.istore_n 3, 1) := by decide +kernel
theorem dX4_textAt_29 : decode cX4_textAt 29 = .ok (.iload_n 2, 1) := by decide +kernel
theorem dX4_textAt_30 : decode cX4_textAt 30 = .ok (.istore 4, 2) := by decide +kernel
theorem dX4_textAt_32 : decode cX4_textAt 32 = .ok (.aload_n 0, 1) := by decide +kernel
theorem dX4_textAt_33 : decode cX4_textAt 33 = .ok (.getfield 13, 3) := by decide +kernel
theorem dX4_textAt_36 : decode cX4_textAt 36 = .ok (.iload_n 3, 1) := by decide +kernel
theorem dX4_textAt_37 : decode cX4_textAt 37 = .ok (.iaload, 1) := by decide +kernel
theorem dX4_textAt_38 : decode cX4_textAt 38 = .ok (.iconst 5, 1) := by decide +kernel
theorem dX4_textAt_39 : decode cX4_textAt 39 = .ok (.if_icmp .ne 120, 3) := by decide +kernel
theorem dX4_textAt_42 : decode cX4_textAt 42 = .ok (.aload_n 0, 1) := by decide +kernel
theorem dX4_textAt_43 : decode cX4_textAt 43 = .ok (.getfield 38, 3) := by decide +kernel
theorem dX4_textAt_46 : decode cX4_textAt 46 = .ok (.aload_n 0, 1) := by decide +kernel
theorem dX4_textAt_47 : decode cX4_textAt 47 = .ok (.getfield 23, 3) := by decide +kernel
theorem dX4_textAt_50 : decode cX4_textAt 50 = .ok (.iload_n 3, 1) := by decide +kernel
theorem dX4_textAt_51 : decode cX4_textAt 51 = .ok (.iaload, 1) := by decide +kernel
theorem dX4_textAt_52 : decode cX4_textAt 52 = .ok (.iaload, 1) := by decide +kernel
theorem dX4_textAt_53 : decode cX4_textAt 53 = .ok (.istore 5, 2) := by decide +kernel
theorem dX4_textAt_55 : decode cX4_textAt 55 = .ok (.iload 4, 2) := by decide +kernel
theorem dX4_textAt_57 : decode cX4_textAt 57 = .ok (.ifCond .eq 25, 3) := by decide +kernel
theorem dX4_textAt_60 : decode cX4_textAt 60 = .ok (.iload 4, 2) := by decide +kernel
theorem dX4_textAt_62 : decode cX4_textAt 62 = .ok (.iload 5, 2) := by decide +kernel
theorem dX4_textAt_64 : decode cX4_textAt 64 = .ok (.iconst 1, 1) := by decide +kernel
theorem dX4_textAt_65 : decode cX4_textAt 65 = .ok (.iadd, 1) := by decide +kernel
theorem dX4_textAt_66 : decode cX4_textAt 66 = .ok (.if_icmp .eq 16, 3) := by decide +kernel
theorem dX4_textAt_69 : decode cX4_textAt 69 = .ok (.iload 4, 2) := by decide +kernel
theorem dX4_textAt_71 : decode cX4_textAt 71 = .ok (.aload_n 0, 1) := by decide +kernel
theorem dX4_textAt_72 : decode cX4_textAt 72 = .ok (.getfield 38, 3) := by decide +kernel
theorem dX4_textAt_75 : decode cX4_textAt 75 = .ok (.iload_n 3, 1) := by decide +kernel
theorem dX4_textAt_76 : decode cX4_textAt 76 = .ok (.iaload, 1) := by decide +kernel
theorem dX4_textAt_77 : decode cX4_textAt 77 = .ok (.iconst 1, 1) := by decide +kernel
theorem dX4_textAt_78 : decode cX4_textAt 78 = .ok (.isub, 1) := by decide +kernel
theorem dX4_textAt_79 : decode cX4_textAt 79 = .ok (.if_icmp .ne 30, 3) := by decide +kernel
theorem dX4_textAt_82 : decode cX4_textAt 82 = .ok (.iload 4, 2) := by decide +kernel
theorem dX4_textAt_84 : decode cX4_textAt 84 = .ok (.ifCond .ne 8, 3) := by decide +kernel
theorem dX4_textAt_87 : decode cX4_textAt 87 = .ok (.bipush 40, 2) := by decide +kernel
theorem dX4_textAt_89 : decode cX4_textAt 89 = .ok (.goto 19, 3) := by decide +kernel
theorem dX4_textAt_92 : decode cX4_textAt 92 = .ok (.iload 4, 2) := by decide +kernel
theorem dX4_textAt_94 : decode cX4_textAt 94 = .ok (.iload 5, 2) := by decide +kernel
theorem dX4_textAt_96 : decode cX4_textAt 96 = .ok (.iconst 1, 1) := by decide +kernel
theorem dX4_textAt_97 : decode cX4_textAt 97 = .ok (.iadd, 1) := by decide +kernel
theorem dX4_textAt_98 : decode cX4_textAt 98 = .ok (.if_icmp .ne 8, 3) := by decide +kernel
theorem dX4_textAt_101 : decode cX4_textAt 101 = .ok (.bipush 43, 2) := by decide +kernel
theorem dX4_textAt_103 : decode cX4_textAt 103 = .ok (.goto 5, 3) := by decide +kernel
theorem dX4_textAt_106 : decode cX4_textAt 106 = .ok (.bipush 41, 2) := by decide +kernel
theorem dX4_textAt_108 : decode cX4_textAt 108 = .ok (.ireturn, 1) := by decide +kernel
theorem dX4_textAt_109 : decode cX4_textAt 109 = .ok (.iload 4, 2) := by decide +kernel
theorem dX4_textAt_111 : decode cX4_textAt 111 = .ok (.iload 5, 2) := by decide +kernel
theorem dX4_textAt_113 : decode cX4_textAt 113 = .ok (.if_icmp .gt 7, 3) := by decide +kernel
theorem dX4_textAt_116 : decode cX4_textAt 116 = .ok (.iconst 1, 1) := by decide +kernel
theorem dX4_textAt_117 : decode cX4_textAt 117 = .ok (.goto 7, 3) := by decide +kernel
theorem dX4_textAt_120 : decode cX4_textAt 120 = .ok (.iload 5, 2) := by decide +kernel
theorem dX4_textAt_122 : decode cX4_textAt 122 = .ok (.iconst 2, 1) := by decide +kernel
theorem dX4_textAt_123 : decode cX4_textAt 123 = .ok (.iadd, 1) := by decide +kernel
theorem dX4_textAt_124 : decode cX4_textAt 124 = .ok (.istore 6, 2) := by decide +kernel
theorem dX4_textAt_126 : decode cX4_textAt 126 = .ok (.iload 4, 2) := by decide +kernel
theorem dX4_textAt_128 : decode cX4_textAt 128 = .ok (.iload 5, 2) := by decide +kernel
theorem dX4_textAt_130 : decode cX4_textAt 130 = .ok (.if_icmp .gt 12, 3) := by decide +kernel
theorem dX4_textAt_133 : decode cX4_textAt 133 = .ok (.aload_n 0, 1) := by decide +kernel
theorem dX4_textAt_134 : decode cX4_textAt 134 = .ok (.getfield 23, 3) := by decide +kernel
theorem dX4_textAt_137 : decode cX4_textAt 137 = .ok (.iload_n 3, 1) := by decide +kernel
theorem dX4_textAt_138 : decode cX4_textAt 138 = .ok (.iaload, 1) := by decide +kernel
theorem dX4_textAt_139 : decode cX4_textAt 139 = .ok (.goto 9, 3) := by decide +kernel
theorem dX4_textAt_142 : decode cX4_textAt 142 = .ok (.aload_n 0, 1) := by decide +kernel
theorem dX4_textAt_143 : decode cX4_textAt 143 = .ok (.getfield 26, 3) := by decide +kernel
theorem dX4_textAt_146 : decode cX4_textAt 146 = .ok (.iload_n 3, 1) := by decide +kernel
theorem dX4_textAt_147 : decode cX4_textAt 147 = .ok (.iaload, 1) := by decide +kernel
theorem dX4_textAt_148 : decode cX4_textAt 148 = .ok (.istore_n 3, 1) := by decide +kernel
theorem dX4_textAt_149 : decode cX4_textAt 149 = .ok (.iload 4, 2) := by decide +kernel
theorem dX4_textAt_151 : decode cX4_textAt 151 = .ok (.iload 6, 2) := by decide +kernel
theorem dX4_textAt_153 : decode cX4_textAt 153 = .ok (.isub, 1) := by decide +kernel
theorem dX4_textAt_154 : decode cX4_textAt 154 = .ok (.istore 4, 2) := by decide +kernel
theorem dX4_textAt_156 : decode cX4_textAt 156 = .ok (.goto (-124), 3) := by decide +kernel
theorem dX4_textAt_159 : decode cX4_textAt 159 = .ok (.aload_n 0, 1) := by decide +kernel
theorem dX4_textAt_160 : decode cX4_textAt 160 = .ok (.getfield 13, 3) := by decide +kernel
theorem dX4_textAt_163 : decode cX4_textAt 163 = .ok (.iload_n 3, 1) := by decide +kernel
theorem dX4_textAt_164 : decode cX4_textAt 164 = .ok (.iaload, 1) := by decide +kernel
theorem dX4_textAt_165 : decode cX4_textAt 165 = .ok (.ifCond .ne 7, 3) := by decide +kernel
theorem dX4_textAt_168 : decode cX4_textAt 168 = .ok (.iconst 1, 1) := by decide +kernel
theorem dX4_textAt_169 : decode cX4_textAt 169 = .ok (.goto 21, 3) := by decide +kernel
theorem dX4_textAt_172 : decode cX4_textAt 172 = .ok (.aload_n 0, 1) := by decide +kernel
theorem dX4_textAt_173 : decode cX4_textAt 173 = .ok (.getfield 38, 3) := by decide +kernel
theorem dX4_textAt_176 : decode cX4_textAt 176 = .ok (.iload_n 3, 1) := by decide +kernel
theorem dX4_textAt_177 : decode cX4_textAt 177 = .ok (.iaload, 1) := by decide +kernel
theorem dX4_textAt_178 : decode cX4_textAt 178 = .ok (.aload_n 0, 1) := by decide +kernel
theorem dX4_textAt_179 : decode cX4_textAt 179 = .ok (.getfield 38, 3) := by decide +kernel
theorem dX4_textAt_182 : decode cX4_textAt 182 = .ok (.aload_n 0, 1) := by decide +kernel
theorem dX4_textAt_183 : decode cX4_textAt 183 = .ok (.getfield 23, 3) := by decide +kernel
theorem dX4_textAt_186 : decode cX4_textAt 186 = .ok (.iload_n 3, 1) := by decide +kernel
theorem dX4_textAt_187 : decode cX4_textAt 187 = .ok (.iaload, 1) := by decide +kernel
theorem dX4_textAt_188 : decode cX4_textAt 188 = .ok (.iaload, 1) := by decide +kernel
theorem dX4_textAt_189 : decode cX4_textAt 189 = .ok (.isub, 1) := by decide +kernel
theorem dX4_textAt_190 : decode cX4_textAt 190 = .ok (.istore 5, 2) := by decide +kernel
theorem dX4_textAt_192 : decode cX4_textAt 192 = .ok (.iload 4, 2) := by decide +kernel
theorem dX4_textAt_194 : decode cX4_textAt 194 = .ok (.iload 5, 2) := by decide +kernel
theorem dX4_textAt_196 : decode cX4_textAt 196 = .ok (.if_icmp .ge 11, 3) := by decide +kernel
theorem dX4_textAt_199 : decode cX4_textAt 199 = .ok (.aload_n 0, 1) := by decide +kernel
theorem dX4_textAt_200 : decode cX4_textAt 200 = .ok (.iload_n 3, 1) := by decide +kernel
theorem dX4_textAt_201 : decode cX4_textAt 201 = .ok (.iload 4, 2) := by decide +kernel
theorem dX4_textAt_203 : decode cX4_textAt 203 = .ok (.invokevirtual 91, 3) := by decide +kernel
theorem dX4_textAt_206 : decode cX4_textAt 206 = .ok (.ireturn, 1) := by decide +kernel
theorem dX4_textAt_207 : decode cX4_textAt 207 = .ok (.iload 4, 2) := by decide +kernel
theorem dX4_textAt_209 : decode cX4_textAt 209 = .ok (.iload 5, 2) := by decide +kernel
theorem dX4_textAt_211 : decode cX4_textAt 211 = .ok (.isub, 1) := by decide +kernel
theorem dX4_textAt_212 : decode cX4_textAt 212 = .ok (.istore 4, 2) := by decide +kernel
theorem dX4_textAt_214 : decode cX4_textAt 214 = .ok (.aload_n 0, 1) := by decide +kernel
theorem dX4_textAt_215 : decode cX4_textAt 215 = .ok (.getfield 23, 3) := by decide +kernel
theorem dX4_textAt_218 : decode cX4_textAt 218 = .ok (.iload_n 3, 1) := by decide +kernel
theorem dX4_textAt_219 : decode cX4_textAt 219 = .ok (.iaload, 1) := by decide +kernel
theorem dX4_textAt_220 : decode cX4_textAt 220 = .ok (.istore_n 3, 1) := by decide +kernel
theorem dX4_textAt_221 : decode cX4_textAt 221 = .ok (.goto (-189), 3) := by decide +kernel
theorem dX4_valueOf_0 : decode cX4_valueOf 0 = .ok (.iload_n 0, 1) := by decide +kernel
theorem dX4_valueOf_1 : decode cX4_valueOf 1 = .ok (.iconst 3, 1) := by decide +kernel
theorem dX4_valueOf_2 : decode cX4_valueOf 2 = .ok (.if_icmp .ge 5, 3) := by decide +kernel
theorem dX4_valueOf_5 : decode cX4_valueOf 5 = .ok (.iload_n 0, 1) := by decide +kernel
theorem dX4_valueOf_6 : decode cX4_valueOf 6 = .ok (.ireturn, 1) := by decide +kernel
theorem dX4_valueOf_7 : decode cX4_valueOf 7 = .ok (.iload_n 1, 1) := by decide +kernel
theorem dX4_valueOf_8 : decode cX4_valueOf 8 = .ok (.istore_n 2, 1) := by decide +kernel
theorem dX4_valueOf_9 : decode cX4_valueOf 9 = .ok (.iconst 3, 1) := by decide +kernel
theorem dX4_valueOf_10 : decode cX4_valueOf 10 = .ok (.istore_n 3, 1) := by decide +kernel
theorem dX4_valueOf_11 : decode cX4_valueOf 11 = .ok (.iload_n 3, 1) := by decide +kernel
theorem dX4_valueOf_12 : decode cX4_valueOf 12 = .ok (.iload_n 0, 1) := by decide +kernel
theorem dX4_valueOf_13 : decode cX4_valueOf 13 = .ok (.if_icmp .ge 14, 3) := by decide +kernel
theorem dX4_valueOf_16 : decode cX4_valueOf 16 = .ok (.iload_n 2, 1) := by decide +kernel
theorem dX4_valueOf_17 : decode cX4_valueOf 17 = .ok (.bipush 6, 2) := by decide +kernel
theorem dX4_valueOf_19 : decode cX4_valueOf 19 = .ok (.idiv, 1) := by decide +kernel
theorem dX4_valueOf_20 : decode cX4_valueOf 20 = .ok (.istore_n 2, 1) := by decide +kernel
theorem dX4_valueOf_21 : decode cX4_valueOf 21 = .ok (.iinc 3 1, 3) := by decide +kernel
theorem dX4_valueOf_24 : decode cX4_valueOf 24 = .ok (.goto (-13), 3) := by decide +kernel
theorem dX4_valueOf_27 : decode cX4_valueOf 27 = .ok (.iload_n 2, 1) := by decide +kernel
theorem dX4_valueOf_28 : decode cX4_valueOf 28 = .ok (.bipush 6, 2) := by decide +kernel
theorem dX4_valueOf_30 : decode cX4_valueOf 30 = .ok (.irem, 1) := by decide +kernel
theorem dX4_valueOf_31 : decode cX4_valueOf 31 = .ok (.ireturn, 1) := by decide +kernel
theorem dX4_lists_0 : decode cX4_lists 0 = .ok (.aload_n 0, 1) := by decide +kernel
theorem dX4_lists_1 : decode cX4_lists 1 = .ok (.getfield 41, 3) := by decide +kernel
theorem dX4_lists_4 : decode cX4_lists 4 = .ok (.iload_n 1, 1) := by decide +kernel
theorem dX4_lists_5 : decode cX4_lists 5 = .ok (.iconst 0, 1) := by decide +kernel
theorem dX4_lists_6 : decode cX4_lists 6 = .ok (.iastore, 1) := by decide +kernel
theorem dX4_lists_7 : decode cX4_lists 7 = .ok (.aload_n 0, 1) := by decide +kernel
theorem dX4_lists_8 : decode cX4_lists 8 = .ok (.getfield 56, 3) := by decide +kernel
theorem dX4_lists_11 : decode cX4_lists 11 = .ok (.iload_n 1, 1) := by decide +kernel
theorem dX4_lists_12 : decode cX4_lists 12 = .ok (.iload_n 3, 1) := by decide +kernel
theorem dX4_lists_13 : decode cX4_lists 13 = .ok (.iastore, 1) := by decide +kernel
theorem dX4_lists_14 : decode cX4_lists 14 = .ok (.iconst 1, 1) := by decide +kernel
theorem dX4_lists_15 : decode cX4_lists 15 = .ok (.istore 4, 2) := by decide +kernel
theorem dX4_lists_17 : decode cX4_lists 17 = .ok (.aload_n 0, 1) := by decide +kernel
theorem dX4_lists_18 : decode cX4_lists 18 = .ok (.getfield 62, 3) := by decide +kernel
theorem dX4_lists_21 : decode cX4_lists 21 = .ok (.iconst 0, 1) := by decide +kernel
theorem dX4_lists_22 : decode cX4_lists 22 = .ok (.iload_n 2, 1) := by decide +kernel
theorem dX4_lists_23 : decode cX4_lists 23 = .ok (.iastore, 1) := by decide +kernel
theorem dX4_lists_24 : decode cX4_lists 24 = .ok (.iload 4, 2) := by decide +kernel
theorem dX4_lists_26 : decode cX4_lists 26 = .ok (.ifCond .le 217, 3) := by decide +kernel
theorem dX4_lists_29 : decode cX4_lists 29 = .ok (.iinc 4 (-1), 3) := by decide +kernel
theorem dX4_lists_32 : decode cX4_lists 32 = .ok (.aload_n 0, 1) := by decide +kernel
theorem dX4_lists_33 : decode cX4_lists 33 = .ok (.getfield 62, 3) := by decide +kernel
theorem dX4_lists_36 : decode cX4_lists 36 = .ok (.iload 4, 2) := by decide +kernel
theorem dX4_lists_38 : decode cX4_lists 38 = .ok (.iaload, 1) := by decide +kernel
theorem dX4_lists_39 : decode cX4_lists 39 = .ok (.istore 5, 2) := by decide +kernel
theorem dX4_lists_41 : decode cX4_lists 41 = .ok (.aload_n 0, 1) := by decide +kernel
theorem dX4_lists_42 : decode cX4_lists 42 = .ok (.getfield 32, 3) := by decide +kernel
theorem dX4_lists_45 : decode cX4_lists 45 = .ok (.iload 5, 2) := by decide +kernel
theorem dX4_lists_47 : decode cX4_lists 47 = .ok (.iaload, 1) := by decide +kernel
theorem dX4_lists_48 : decode cX4_lists 48 = .ok (.ifCond .ne 6, 3) := by decide +kernel
theorem dX4_lists_51 : decode cX4_lists 51 = .ok (.goto (-27), 3) := by decide +kernel
theorem dX4_lists_54 : decode cX4_lists 54 = .ok (.aload_n 0, 1) := by decide +kernel
theorem dX4_lists_55 : decode cX4_lists 55 = .ok (.getfield 17, 3) := by decide +kernel
theorem dX4_lists_58 : decode cX4_lists 58 = .ok (.iload 5, 2) := by decide +kernel
theorem dX4_lists_60 : decode cX4_lists 60 = .ok (.iaload, 1) := by decide +kernel
theorem dX4_lists_61 : decode cX4_lists 61 = .ok (.iload_n 3, 1) := by decide +kernel
theorem dX4_lists_62 : decode cX4_lists 62 = .ok (.invokestatic 94, 3) := by decide +kernel
theorem dX4_lists_65 : decode cX4_lists 65 = .ok (.istore 6, 2) := by decide +kernel
theorem dX4_lists_67 : decode cX4_lists 67 = .ok (.aload_n 0, 1) := by decide +kernel
theorem dX4_lists_68 : decode cX4_lists 68 = .ok (.getfield 20, 3) := by decide +kernel
theorem dX4_lists_71 : decode cX4_lists 71 = .ok (.iload 5, 2) := by decide +kernel
theorem dX4_lists_73 : decode cX4_lists 73 = .ok (.iaload, 1) := by decide +kernel
theorem dX4_lists_74 : decode cX4_lists 74 = .ok (.iload_n 3, 1) := by decide +kernel
theorem dX4_lists_75 : decode cX4_lists 75 = .ok (.invokestatic 94, 3) := by decide +kernel
theorem dX4_lists_78 : decode cX4_lists 78 = .ok (.istore 7, 2) := by decide +kernel
theorem dX4_lists_80 : decode cX4_lists 80 = .ok (.aload_n 0, 1) := by decide +kernel
theorem dX4_lists_81 : decode cX4_lists 81 = .ok (.getfield 13, 3) := by decide +kernel
theorem dX4_lists_84 : decode cX4_lists 84 = .ok (.iload 5, 2) := by decide +kernel
theorem dX4_lists_86 : decode cX4_lists 86 = .ok (.iaload, 1) := by decide +kernel
theorem dX4_lists_87 : decode cX4_lists 87 = .ok (.iconst 5, 1) := by decide +kernel
theorem dX4_lists_88 : decode cX4_lists 88 = .ok (.if_icmp .ne 39, 3) := by decide +kernel
theorem dX4_lists_91 : decode cX4_lists 91 = .ok (.aload_n 0, 1) := by decide +kernel
theorem dX4_lists_92 : decode cX4_lists 92 = .ok (.getfield 62, 3) := by decide +kernel
theorem dX4_lists_95 : decode cX4_lists 95 = .ok (.iload 4, 2) := by decide +kernel
theorem dX4_lists_97 : decode cX4_lists 97 = .ok (.aload_n 0, 1) := by decide +kernel
theorem dX4_lists_98 : decode cX4_lists 98 = .ok (.getfield 26, 3) := by decide +kernel
theorem dX4_lists_101 : decode cX4_lists 101 = .ok (.iload 5, 2) := by decide +kernel
theorem dX4_lists_103 : decode cX4_lists 103 = .ok (.iaload, 1) := by decide +kernel
theorem dX4_lists_104 : decode cX4_lists 104 = .ok (.iastore, 1) := by decide +kernel
theorem dX4_lists_105 : decode cX4_lists 105 = .ok (.aload_n 0, 1) := by decide +kernel
theorem dX4_lists_106 : decode cX4_lists 106 = .ok (.getfield 62, 3) := by decide +kernel
theorem dX4_lists_109 : decode cX4_lists 109 = .ok (.iload 4, 2) := by decide +kernel
theorem dX4_lists_111 : decode cX4_lists 111 = .ok (.iconst 1, 1) := by decide +kernel
theorem dX4_lists_112 : decode cX4_lists 112 = .ok (.iadd, 1) := by decide +kernel
theorem dX4_lists_113 : decode cX4_lists 113 = .ok (.aload_n 0, 1) := by decide +kernel
theorem dX4_lists_114 : decode cX4_lists 114 = .ok (.getfield 23, 3) := by decide +kernel
theorem dX4_lists_117 : decode cX4_lists 117 = .ok (.iload 5, 2) := by decide +kernel
theorem dX4_lists_119 : decode cX4_lists 119 = .ok (.iaload, 1) := by decide +kernel
theorem dX4_lists_120 : decode cX4_lists 120 = .ok (.iastore, 1) := by decide +kernel
theorem dX4_lists_121 : decode cX4_lists 121 = .ok (.iinc 4 2, 3) := by decide +kernel
theorem dX4_lists_124 : decode cX4_lists 124 = .ok (.goto 116, 3) := by decide +kernel
theorem dX4_lists_127 : decode cX4_lists 127 = .ok (.aload_n 0, 1) := by decide +kernel
theorem dX4_lists_128 : decode cX4_lists 128 = .ok (.getfield 13, 3) := by decide +kernel
theorem dX4_lists_131 : decode cX4_lists 131 = .ok (.iload 5, 2) := by decide +kernel
theorem dX4_lists_133 : decode cX4_lists 133 = .ok (.iaload, 1) := by decide +kernel
theorem dX4_lists_134 : decode cX4_lists 134 = .ok (.iconst 4, 1) := by decide +kernel
theorem dX4_lists_135 : decode cX4_lists 135 = .ok (.if_icmp .ne 37, 3) := by decide +kernel
theorem dX4_lists_138 : decode cX4_lists 138 = .ok (.aload_n 0, 1) := by decide +kernel
theorem dX4_lists_139 : decode cX4_lists 139 = .ok (.getfield 62, 3) := by decide +kernel
theorem dX4_lists_142 : decode cX4_lists 142 = .ok (.iload 4, 2) := by decide +kernel
theorem dX4_lists_144 : decode cX4_lists 144 = .ok (.aload_n 0, 1) := by decide +kernel
theorem dX4_lists_145 : decode cX4_lists 145 = .ok (.getfield 23, 3) := by decide +kernel
theorem dX4_lists_148 : decode cX4_lists 148 = .ok (.iload 5, 2) := by decide +kernel
theorem dX4_lists_150 : decode cX4_lists 150 = .ok (.iaload, 1) := by decide +kernel
theorem dX4_lists_151 : decode cX4_lists 151 = .ok (.iastore, 1) := by decide +kernel
theorem dX4_lists_152 : decode cX4_lists 152 = .ok (.iload 4, 2) := by decide +kernel
theorem dX4_lists_154 : decode cX4_lists 154 = .ok (.iload 6, 2) := by decide +kernel
theorem dX4_lists_156 : decode cX4_lists 156 = .ok (.iload 7, 2) := by decide +kernel
theorem dX4_lists_158 : decode cX4_lists 158 = .ok (.if_icmp .ne 7, 3) := by decide +kernel
theorem dX4_lists_161 : decode cX4_lists 161 = .ok (.iconst 1, 1) := by decide +kernel
theorem dX4_lists_162 : decode cX4_lists 162 = .ok (.goto 4, 3) := by decide +kernel
theorem dX4_lists_165 : decode cX4_lists 165 = .ok (.iconst 0, 1) := by decide +kernel
theorem dX4_lists_166 : decode cX4_lists 166 = .ok (.iadd, 1) := by decide +kernel
theorem dX4_lists_167 : decode cX4_lists 167 = .ok (.istore 4, 2) := by decide +kernel
theorem dX4_lists_169 : decode cX4_lists 169 = .ok (.goto 71, 3) := by decide +kernel
theorem dX4_lists_172 : decode cX4_lists 172 = .ok (.iconst 3, 1) := by decide +kernel
theorem dX4_lists_173 : decode cX4_lists 173 = .ok (.iload_n 1, 1) := by decide +kernel
theorem dX4_lists_174 : decode cX4_lists 174 = .ok (.imul, 1) := by decide +kernel
theorem dX4_lists_175 : decode cX4_lists 175 = .ok (.aload_n 0, 1) := by decide +kernel
theorem dX4_lists_176 : decode cX4_lists 176 = .ok (.getfield 41, 3) := by decide +kernel
theorem dX4_lists_179 : decode cX4_lists 179 = .ok (.iload_n 1, 1) := by decide +kernel
theorem dX4_lists_180 : decode cX4_lists 180 = .ok (.iaload, 1) := by decide +kernel
theorem dX4_lists_181 : decode cX4_lists 181 = .ok (.iadd, 1) := by decide +kernel
theorem dX4_lists_182 : decode cX4_lists 182 = .ok (.istore 8, 2) := by decide +kernel
theorem dX4_lists_184 : decode cX4_lists 184 = .ok (.aload_n 0, 1) := by decide +kernel
theorem dX4_lists_185 : decode cX4_lists 185 = .ok (.getfield 44, 3) := by decide +kernel
theorem dX4_lists_188 : decode cX4_lists 188 = .ok (.iload 8, 2) := by decide +kernel
theorem dX4_lists_190 : decode cX4_lists 190 = .ok (.aload_n 0, 1) := by decide +kernel
theorem dX4_lists_191 : decode cX4_lists 191 = .ok (.getfield 13, 3) := by decide +kernel
theorem dX4_lists_194 : decode cX4_lists 194 = .ok (.iload 5, 2) := by decide +kernel
theorem dX4_lists_196 : decode cX4_lists 196 = .ok (.iaload, 1) := by decide +kernel
theorem dX4_lists_197 : decode cX4_lists 197 = .ok (.iastore, 1) := by decide +kernel
theorem dX4_lists_198 : decode cX4_lists 198 = .ok (.aload_n 0, 1) := by decide +kernel
theorem dX4_lists_199 : decode cX4_lists 199 = .ok (.getfield 47, 3) := by decide +kernel
theorem dX4_lists_202 : decode cX4_lists 202 = .ok (.iload 8, 2) := by decide +kernel
theorem dX4_lists_204 : decode cX4_lists 204 = .ok (.iload 6, 2) := by decide +kernel
theorem dX4_lists_206 : decode cX4_lists 206 = .ok (.iastore, 1) := by decide +kernel
theorem dX4_lists_207 : decode cX4_lists 207 = .ok (.aload_n 0, 1) := by decide +kernel
theorem dX4_lists_208 : decode cX4_lists 208 = .ok (.getfield 50, 3) := by decide +kernel
theorem dX4_lists_211 : decode cX4_lists 211 = .ok (.iload 8, 2) := by decide +kernel
theorem dX4_lists_213 : decode cX4_lists 213 = .ok (.iload 7, 2) := by decide +kernel
theorem dX4_lists_215 : decode cX4_lists 215 = .ok (.iastore, 1) := by decide +kernel
theorem dX4_lists_216 : decode cX4_lists 216 = .ok (.aload_n 0, 1) := by decide +kernel
theorem dX4_lists_217 : decode cX4_lists 217 = .ok (.getfield 53, 3) := by decide +kernel
theorem dX4_lists_220 : decode cX4_lists 220 = .ok (.iload 8, 2) := by decide +kernel
theorem dX4_lists_222 : decode cX4_lists 222 = .ok (.aload_n 0, 1) := by decide +kernel
theorem dX4_lists_223 : decode cX4_lists 223 = .ok (.getfield 23, 3) := by decide +kernel
theorem dX4_lists_226 : decode cX4_lists 226 = .ok (.iload 5, 2) := by decide +kernel
theorem dX4_lists_228 : decode cX4_lists 228 = .ok (.iaload, 1) := by decide +kernel
theorem dX4_lists_229 : decode cX4_lists 229 = .ok (.iastore, 1) := by decide +kernel
theorem dX4_lists_230 : decode cX4_lists 230 = .ok (.aload_n 0, 1) := by decide +kernel
theorem dX4_lists_231 : decode cX4_lists 231 = .ok (.getfield 41, 3) := by decide +kernel
theorem dX4_lists_234 : decode cX4_lists 234 = .ok (.iload_n 1, 1) := by decide +kernel
theorem dX4_lists_235 : decode cX4_lists 235 = .ok (.dup2, 1) := by decide +kernel
theorem dX4_lists_236 : decode cX4_lists 236 = .ok (.iaload, 1) := by decide +kernel
theorem dX4_lists_237 : decode cX4_lists 237 = .ok (.iconst 1, 1) := by decide +kernel
theorem dX4_lists_238 : decode cX4_lists 238 = .ok (.iadd, 1) := by decide +kernel
theorem dX4_lists_239 : decode cX4_lists 239 = .ok (.iastore, 1) := by decide +kernel
theorem dX4_lists_240 : decode cX4_lists 240 = .ok (.goto (-216), 3) := by decide +kernel
theorem dX4_lists_243 : decode cX4_lists 243 = .ok (.return_, 1) := by decide +kernel
theorem dX4_errorOf_0 : decode cX4_errorOf 0 = .ok (.aload_n 0, 1) := by decide +kernel
theorem dX4_errorOf_1 : decode cX4_errorOf 1 = .ok (.iload_n 1, 1) := by decide +kernel
theorem dX4_errorOf_2 : decode cX4_errorOf 2 = .ok (.invokevirtual 77, 3) := by decide +kernel
theorem dX4_errorOf_5 : decode cX4_errorOf 5 = .ok (.ifCond .eq 7, 3) := by decide +kernel
theorem dX4_errorOf_8 : decode cX4_errorOf 8 = .ok (.iload_n 2, 1) := by decide +kernel
theorem dX4_errorOf_9 : decode cX4_errorOf 9 = .ok (.ifCond .ge 5, 3) := by decide +kernel
theorem dX4_errorOf_12 : decode cX4_errorOf 12 = .ok (.iconst (-1), 1) := by decide +kernel
theorem dX4_errorOf_13 : decode cX4_errorOf 13 = .ok (.ireturn, 1) := by decide +kernel
theorem dX4_errorOf_14 : decode cX4_errorOf 14 = .ok (.aload_n 0, 1) := by decide +kernel
theorem dX4_errorOf_15 : decode cX4_errorOf 15 = .ok (.getfield 35, 3) := by decide +kernel
theorem dX4_errorOf_18 : decode cX4_errorOf 18 = .ok (.iload_n 1, 1) := by decide +kernel
theorem dX4_errorOf_19 : decode cX4_errorOf 19 = .ok (.iaload, 1) := by decide +kernel
theorem dX4_errorOf_20 : decode cX4_errorOf 20 = .ok (.ifCond .le 8, 3) := by decide +kernel
theorem dX4_errorOf_23 : decode cX4_errorOf 23 = .ok (.bipush (-2), 2) := by decide +kernel
theorem dX4_errorOf_25 : decode cX4_errorOf 25 = .ok (.goto 4, 3) := by decide +kernel
theorem dX4_errorOf_28 : decode cX4_errorOf 28 = .ok (.iconst 0, 1) := by decide +kernel
theorem dX4_errorOf_29 : decode cX4_errorOf 29 = .ok (.ireturn, 1) := by decide +kernel
theorem dX4_moveCount_0 : decode cX4_moveCount 0 = .ok (.aload_n 0, 1) := by decide +kernel
theorem dX4_moveCount_1 : decode cX4_moveCount 1 = .ok (.iload_n 1, 1) := by decide +kernel
theorem dX4_moveCount_2 : decode cX4_moveCount 2 = .ok (.iconst 0, 1) := by decide +kernel
theorem dX4_moveCount_3 : decode cX4_moveCount 3 = .ok (.invokevirtual 97, 3) := by decide +kernel
theorem dX4_moveCount_6 : decode cX4_moveCount 6 = .ok (.istore_n 2, 1) := by decide +kernel
theorem dX4_moveCount_7 : decode cX4_moveCount 7 = .ok (.iload_n 2, 1) := by decide +kernel
theorem dX4_moveCount_8 : decode cX4_moveCount 8 = .ok (.ifCond .ge 5, 3) := by decide +kernel
theorem dX4_moveCount_11 : decode cX4_moveCount 11 = .ok (.iload_n 2, 1) := by decide +kernel
theorem dX4_moveCount_12 : decode cX4_moveCount 12 = .ok (.ireturn, 1) := by decide +kernel
theorem dX4_moveCount_13 : decode cX4_moveCount 13 = .ok (.aload_n 0, 1) := by decide +kernel
theorem dX4_moveCount_14 : decode cX4_moveCount 14 = .ok (.iconst 0, 1) := by decide +kernel
theorem dX4_moveCount_15 : decode cX4_moveCount 15 = .ok (.iload_n 1, 1) := by decide +kernel
theorem dX4_moveCount_16 : decode cX4_moveCount 16 = .ok (.iconst 0, 1) := by decide +kernel
theorem dX4_moveCount_17 : decode cX4_moveCount 17 = .ok (.invokevirtual 100, 3) := by decide +kernel
theorem dX4_moveCount_20 : decode cX4_moveCount 20 = .ok (.aload_n 0, 1) := by decide +kernel
theorem dX4_moveCount_21 : decode cX4_moveCount 21 = .ok (.getfield 41, 3) := by decide +kernel
theorem dX4_moveCount_24 : decode cX4_moveCount 24 = .ok (.iconst 0, 1) := by decide +kernel
theorem dX4_moveCount_25 : decode cX4_moveCount 25 = .ok (.iaload, 1) := by decide +kernel
theorem dX4_moveCount_26 : decode cX4_moveCount 26 = .ok (.ireturn, 1) := by decide +kernel
theorem dX4_moveError_0 : decode cX4_moveError 0 = .ok (.aload_n 0, 1) := by decide +kernel
theorem dX4_moveError_1 : decode cX4_moveError 1 = .ok (.iload_n 1, 1) := by decide +kernel
theorem dX4_moveError_2 : decode cX4_moveError 2 = .ok (.iload_n 2, 1) := by decide +kernel
theorem dX4_moveError_3 : decode cX4_moveError 3 = .ok (.invokevirtual 97, 3) := by decide +kernel
theorem dX4_moveError_6 : decode cX4_moveError 6 = .ok (.istore_n 3, 1) := by decide +kernel
theorem dX4_moveError_7 : decode cX4_moveError 7 = .ok (.iload_n 3, 1) := by decide +kernel
theorem dX4_moveError_8 : decode cX4_moveError 8 = .ok (.ifCond .ge 5, 3) := by decide +kernel
theorem dX4_moveError_11 : decode cX4_moveError 11 = .ok (.iload_n 3, 1) := by decide +kernel
theorem dX4_moveError_12 : decode cX4_moveError 12 = .ok (.ireturn, 1) := by decide +kernel
theorem dX4_moveError_13 : decode cX4_moveError 13 = .ok (.aload_n 0, 1) := by decide +kernel
theorem dX4_moveError_14 : decode cX4_moveError 14 = .ok (.iconst 0, 1) := by decide +kernel
theorem dX4_moveError_15 : decode cX4_moveError 15 = .ok (.iload_n 1, 1) := by decide +kernel
theorem dX4_moveError_16 : decode cX4_moveError 16 = .ok (.iconst 0, 1) := by decide +kernel
theorem dX4_moveError_17 : decode cX4_moveError 17 = .ok (.invokevirtual 100, 3) := by decide +kernel
theorem dX4_moveError_20 : decode cX4_moveError 20 = .ok (.iload_n 2, 1) := by decide +kernel
theorem dX4_moveError_21 : decode cX4_moveError 21 = .ok (.aload_n 0, 1) := by decide +kernel
theorem dX4_moveError_22 : decode cX4_moveError 22 = .ok (.getfield 41, 3) := by decide +kernel
theorem dX4_moveError_25 : decode cX4_moveError 25 = .ok (.iconst 0, 1) := by decide +kernel
theorem dX4_moveError_26 : decode cX4_moveError 26 = .ok (.iaload, 1) := by decide +kernel
theorem dX4_moveError_27 : decode cX4_moveError 27 = .ok (.if_icmp .ge 7, 3) := by decide +kernel
theorem dX4_moveError_30 : decode cX4_moveError 30 = .ok (.iconst 0, 1) := by decide +kernel
theorem dX4_moveError_31 : decode cX4_moveError 31 = .ok (.goto 5, 3) := by decide +kernel
theorem dX4_moveError_34 : decode cX4_moveError 34 = .ok (.bipush (-4), 2) := by decide +kernel
theorem dX4_moveError_36 : decode cX4_moveError 36 = .ok (.ireturn, 1) := by decide +kernel
theorem dX4_moveKind_0 : decode cX4_moveKind 0 = .ok (.aload_n 0, 1) := by decide +kernel
theorem dX4_moveKind_1 : decode cX4_moveKind 1 = .ok (.iload_n 1, 1) := by decide +kernel
theorem dX4_moveKind_2 : decode cX4_moveKind 2 = .ok (.iload_n 2, 1) := by decide +kernel
theorem dX4_moveKind_3 : decode cX4_moveKind 3 = .ok (.invokevirtual 104, 3) := by decide +kernel
theorem dX4_moveKind_6 : decode cX4_moveKind 6 = .ok (.istore_n 3, 1) := by decide +kernel
theorem dX4_moveKind_7 : decode cX4_moveKind 7 = .ok (.iload_n 3, 1) := by decide +kernel
theorem dX4_moveKind_8 : decode cX4_moveKind 8 = .ok (.ifCond .ge 7, 3) := by decide +kernel
theorem dX4_moveKind_11 : decode cX4_moveKind 11 = .ok (.iload_n 3, 1) := by decide +kernel
theorem dX4_moveKind_12 : decode cX4_moveKind 12 = .ok (.goto 9, 3) := by decide +kernel
theorem dX4_moveKind_15 : decode cX4_moveKind 15 = .ok (.aload_n 0, 1) := by decide +kernel
theorem dX4_moveKind_16 : decode cX4_moveKind 16 = .ok (.getfield 44, 3) := by decide +kernel
theorem dX4_moveKind_19 : decode cX4_moveKind 19 = .ok (.iload_n 2, 1) := by decide +kernel
theorem dX4_moveKind_20 : decode cX4_moveKind 20 = .ok (.iaload, 1) := by decide +kernel
theorem dX4_moveKind_21 : decode cX4_moveKind 21 = .ok (.ireturn, 1) := by decide +kernel
theorem dX4_moveNames_0 : decode cX4_moveNames 0 = .ok (.aload_n 0, 1) := by decide +kernel
theorem dX4_moveNames_1 : decode cX4_moveNames 1 = .ok (.iload_n 1, 1) := by decide +kernel
theorem dX4_moveNames_2 : decode cX4_moveNames 2 = .ok (.iload_n 2, 1) := by decide +kernel
theorem dX4_moveNames_3 : decode cX4_moveNames 3 = .ok (.invokevirtual 104, 3) := by decide +kernel
theorem dX4_moveNames_6 : decode cX4_moveNames 6 = .ok (.istore_n 3, 1) := by decide +kernel
theorem dX4_moveNames_7 : decode cX4_moveNames 7 = .ok (.iload_n 3, 1) := by decide +kernel
theorem dX4_moveNames_8 : decode cX4_moveNames 8 = .ok (.ifCond .ge 5, 3) := by decide +kernel
theorem dX4_moveNames_11 : decode cX4_moveNames 11 = .ok (.iload_n 3, 1) := by decide +kernel
theorem dX4_moveNames_12 : decode cX4_moveNames 12 = .ok (.ireturn, 1) := by decide +kernel
theorem dX4_moveNames_13 : decode cX4_moveNames 13 = .ok (.aload_n 0, 1) := by decide +kernel
theorem dX4_moveNames_14 : decode cX4_moveNames 14 = .ok (.getfield 44, 3) := by decide +kernel
theorem dX4_moveNames_17 : decode cX4_moveNames 17 = .ok (.iload_n 2, 1) := by decide +kernel
theorem dX4_moveNames_18 : decode cX4_moveNames 18 = .ok (.iaload, 1) := by decide +kernel
theorem dX4_moveNames_19 : decode cX4_moveNames 19 = .ok (.iconst 1, 1) := by decide +kernel
theorem dX4_moveNames_20 : decode cX4_moveNames 20 = .ok (.if_icmp .ne 8, 3) := by decide +kernel
theorem dX4_moveNames_23 : decode cX4_moveNames 23 = .ok (.bipush 99, 2) := by decide +kernel
theorem dX4_moveNames_25 : decode cX4_moveNames 25 = .ok (.goto 34, 3) := by decide +kernel
theorem dX4_moveNames_28 : decode cX4_moveNames 28 = .ok (.bipush 10, 2) := by decide +kernel
theorem dX4_moveNames_30 : decode cX4_moveNames 30 = .ok (.aload_n 0, 1) := by decide +kernel
theorem dX4_moveNames_31 : decode cX4_moveNames 31 = .ok (.getfield 47, 3) := by decide +kernel
theorem dX4_moveNames_34 : decode cX4_moveNames 34 = .ok (.iload_n 2, 1) := by decide +kernel
theorem dX4_moveNames_35 : decode cX4_moveNames 35 = .ok (.iaload, 1) := by decide +kernel
theorem dX4_moveNames_36 : decode cX4_moveNames 36 = .ok (.imul, 1) := by decide +kernel
theorem dX4_moveNames_37 : decode cX4_moveNames 37 = .ok (.aload_n 0, 1) := by decide +kernel
theorem dX4_moveNames_38 : decode cX4_moveNames 38 = .ok (.getfield 44, 3) := by decide +kernel
theorem dX4_moveNames_41 : decode cX4_moveNames 41 = .ok (.iload_n 2, 1) := by decide +kernel
theorem dX4_moveNames_42 : decode cX4_moveNames 42 = .ok (.iaload, 1) := by decide +kernel
theorem dX4_moveNames_43 : decode cX4_moveNames 43 = .ok (.iconst 3, 1) := by decide +kernel
theorem dX4_moveNames_44 : decode cX4_moveNames 44 = .ok (.if_icmp .ne 8, 3) := by decide +kernel
theorem dX4_moveNames_47 : decode cX4_moveNames 47 = .ok (.bipush 9, 2) := by decide +kernel
theorem dX4_moveNames_49 : decode cX4_moveNames 49 = .ok (.goto 9, 3) := by decide +kernel
theorem dX4_moveNames_52 : decode cX4_moveNames 52 = .ok (.aload_n 0, 1) := by decide +kernel
theorem dX4_moveNames_53 : decode cX4_moveNames 53 = .ok (.getfield 50, 3) := by decide +kernel
theorem dX4_moveNames_56 : decode cX4_moveNames 56 = .ok (.iload_n 2, 1) := by decide +kernel
theorem dX4_moveNames_57 : decode cX4_moveNames 57 = .ok (.iaload, 1) := by decide +kernel
theorem dX4_moveNames_58 : decode cX4_moveNames 58 = .ok (.iadd, 1) := by decide +kernel
theorem dX4_moveNames_59 : decode cX4_moveNames 59 = .ok (.ireturn, 1) := by decide +kernel
theorem dX4_moveTarget_0 : decode cX4_moveTarget 0 = .ok (.aload_n 0, 1) := by decide +kernel
theorem dX4_moveTarget_1 : decode cX4_moveTarget 1 = .ok (.iload_n 1, 1) := by decide +kernel
theorem dX4_moveTarget_2 : decode cX4_moveTarget 2 = .ok (.iload_n 2, 1) := by decide +kernel
theorem dX4_moveTarget_3 : decode cX4_moveTarget 3 = .ok (.invokevirtual 104, 3) := by decide +kernel
theorem dX4_moveTarget_6 : decode cX4_moveTarget 6 = .ok (.istore_n 3, 1) := by decide +kernel
theorem dX4_moveTarget_7 : decode cX4_moveTarget 7 = .ok (.iload_n 3, 1) := by decide +kernel
theorem dX4_moveTarget_8 : decode cX4_moveTarget 8 = .ok (.ifCond .ge 7, 3) := by decide +kernel
theorem dX4_moveTarget_11 : decode cX4_moveTarget 11 = .ok (.iload_n 3, 1) := by decide +kernel
theorem dX4_moveTarget_12 : decode cX4_moveTarget 12 = .ok (.goto 9, 3) := by decide +kernel
theorem dX4_moveTarget_15 : decode cX4_moveTarget 15 = .ok (.aload_n 0, 1) := by decide +kernel
theorem dX4_moveTarget_16 : decode cX4_moveTarget 16 = .ok (.getfield 53, 3) := by decide +kernel
theorem dX4_moveTarget_19 : decode cX4_moveTarget 19 = .ok (.iload_n 2, 1) := by decide +kernel
theorem dX4_moveTarget_20 : decode cX4_moveTarget 20 = .ok (.iaload, 1) := by decide +kernel
theorem dX4_moveTarget_21 : decode cX4_moveTarget 21 = .ok (.ireturn, 1) := by decide +kernel
theorem dX4_answers_0 : decode cX4_answers 0 = .ok (.iconst 3, 1) := by decide +kernel
theorem dX4_answers_1 : decode cX4_answers 1 = .ok (.iconst 2, 1) := by decide +kernel
theorem dX4_answers_2 : decode cX4_answers 2 = .ok (.iload_n 1, 1) := by decide +kernel
theorem dX4_answers_3 : decode cX4_answers 3 = .ok (.imul, 1) := by decide +kernel
theorem dX4_answers_4 : decode cX4_answers 4 = .ok (.iload_n 2, 1) := by decide +kernel
theorem dX4_answers_5 : decode cX4_answers 5 = .ok (.iadd, 1) := by decide +kernel
theorem dX4_answers_6 : decode cX4_answers 6 = .ok (.imul, 1) := by decide +kernel
theorem dX4_answers_7 : decode cX4_answers 7 = .ok (.iload_n 3, 1) := by decide +kernel
theorem dX4_answers_8 : decode cX4_answers 8 = .ok (.iadd, 1) := by decide +kernel
theorem dX4_answers_9 : decode cX4_answers 9 = .ok (.istore 5, 2) := by decide +kernel
theorem dX4_answers_11 : decode cX4_answers 11 = .ok (.iconst 3, 1) := by decide +kernel
theorem dX4_answers_12 : decode cX4_answers 12 = .ok (.iconst 2, 1) := by decide +kernel
theorem dX4_answers_13 : decode cX4_answers 13 = .ok (.iload_n 1, 1) := by decide +kernel
theorem dX4_answers_14 : decode cX4_answers 14 = .ok (.imul, 1) := by decide +kernel
theorem dX4_answers_15 : decode cX4_answers 15 = .ok (.iconst 1, 1) := by decide +kernel
theorem dX4_answers_16 : decode cX4_answers 16 = .ok (.iadd, 1) := by decide +kernel
theorem dX4_answers_17 : decode cX4_answers 17 = .ok (.iload_n 2, 1) := by decide +kernel
theorem dX4_answers_18 : decode cX4_answers 18 = .ok (.isub, 1) := by decide +kernel
theorem dX4_answers_19 : decode cX4_answers 19 = .ok (.imul, 1) := by decide +kernel
theorem dX4_answers_20 : decode cX4_answers 20 = .ok (.iload 4, 2) := by decide +kernel
theorem dX4_answers_22 : decode cX4_answers 22 = .ok (.iadd, 1) := by decide +kernel
theorem dX4_answers_23 : decode cX4_answers 23 = .ok (.istore 6, 2) := by decide +kernel
theorem dX4_answers_25 : decode cX4_answers 25 = .ok (.aload_n 0, 1) := by decide +kernel
theorem dX4_answers_26 : decode cX4_answers 26 = .ok (.getfield 44, 3) := by decide +kernel
theorem dX4_answers_29 : decode cX4_answers 29 = .ok (.iload 5, 2) := by decide +kernel
theorem dX4_answers_31 : decode cX4_answers 31 = .ok (.iaload, 1) := by decide +kernel
theorem dX4_answers_32 : decode cX4_answers 32 = .ok (.aload_n 0, 1) := by decide +kernel
theorem dX4_answers_33 : decode cX4_answers 33 = .ok (.getfield 44, 3) := by decide +kernel
theorem dX4_answers_36 : decode cX4_answers 36 = .ok (.iload 6, 2) := by decide +kernel
theorem dX4_answers_38 : decode cX4_answers 38 = .ok (.iaload, 1) := by decide +kernel
theorem dX4_answers_39 : decode cX4_answers 39 = .ok (.if_icmp .ne 35, 3) := by decide +kernel
theorem dX4_answers_42 : decode cX4_answers 42 = .ok (.aload_n 0, 1) := by decide +kernel
theorem dX4_answers_43 : decode cX4_answers 43 = .ok (.getfield 44, 3) := by decide +kernel
theorem dX4_answers_46 : decode cX4_answers 46 = .ok (.iload 5, 2) := by decide +kernel
theorem dX4_answers_48 : decode cX4_answers 48 = .ok (.iaload, 1) := by decide +kernel
theorem dX4_answers_49 : decode cX4_answers 49 = .ok (.iconst 1, 1) := by decide +kernel
theorem dX4_answers_50 : decode cX4_answers 50 = .ok (.if_icmp .eq 20, 3) := by decide +kernel
theorem dX4_answers_53 : decode cX4_answers 53 = .ok (.aload_n 0, 1) := by decide +kernel
theorem dX4_answers_54 : decode cX4_answers 54 = .ok (.getfield 47, 3) := by decide +kernel
theorem dX4_answers_57 : decode cX4_answers 57 = .ok (.iload 5, 2) := by decide +kernel
theorem dX4_answers_59 : decode cX4_answers 59 = .ok (.iaload, 1) := by decide +kernel
theorem dX4_answers_60 : decode cX4_answers 60 = .ok (.aload_n 0, 1) := by decide +kernel
theorem dX4_answers_61 : decode cX4_answers 61 = .ok (.getfield 47, 3) := by decide +kernel
theorem dX4_answers_64 : decode cX4_answers 64 = .ok (.iload 6, 2) := by decide +kernel
theorem dX4_answers_66 : decode cX4_answers 66 = .ok (.iaload, 1) := by decide +kernel
theorem dX4_answers_67 : decode cX4_answers 67 = .ok (.if_icmp .ne 7, 3) := by decide +kernel
theorem dX4_answers_70 : decode cX4_answers 70 = .ok (.iconst 1, 1) := by decide +kernel
theorem dX4_answers_71 : decode cX4_answers 71 = .ok (.goto 4, 3) := by decide +kernel
theorem dX4_answers_74 : decode cX4_answers 74 = .ok (.iconst 0, 1) := by decide +kernel
theorem dX4_answers_75 : decode cX4_answers 75 = .ok (.istore 7, 2) := by decide +kernel
theorem dX4_answers_77 : decode cX4_answers 77 = .ok (.iload 7, 2) := by decide +kernel
theorem dX4_answers_79 : decode cX4_answers 79 = .ok (.ifCond .eq 35, 3) := by decide +kernel
theorem dX4_answers_82 : decode cX4_answers 82 = .ok (.aload_n 0, 1) := by decide +kernel
theorem dX4_answers_83 : decode cX4_answers 83 = .ok (.getfield 44, 3) := by decide +kernel
theorem dX4_answers_86 : decode cX4_answers 86 = .ok (.iload 5, 2) := by decide +kernel
theorem dX4_answers_88 : decode cX4_answers 88 = .ok (.iaload, 1) := by decide +kernel
theorem dX4_answers_89 : decode cX4_answers 89 = .ok (.iconst 2, 1) := by decide +kernel
theorem dX4_answers_90 : decode cX4_answers 90 = .ok (.if_icmp .ne 20, 3) := by decide +kernel
theorem dX4_answers_93 : decode cX4_answers 93 = .ok (.aload_n 0, 1) := by decide +kernel
theorem dX4_answers_94 : decode cX4_answers 94 = .ok (.getfield 50, 3) := by decide +kernel
theorem dX4_answers_97 : decode cX4_answers 97 = .ok (.iload 5, 2) := by decide +kernel
theorem dX4_answers_99 : decode cX4_answers 99 = .ok (.iaload, 1) := by decide +kernel
theorem dX4_answers_100 : decode cX4_answers 100 = .ok (.aload_n 0, 1) := by decide +kernel
theorem dX4_answers_101 : decode cX4_answers 101 = .ok (.getfield 50, 3) := by decide +kernel
theorem dX4_answers_104 : decode cX4_answers 104 = .ok (.iload 6, 2) := by decide +kernel
theorem dX4_answers_106 : decode cX4_answers 106 = .ok (.iaload, 1) := by decide +kernel
theorem dX4_answers_107 : decode cX4_answers 107 = .ok (.if_icmp .ne 7, 3) := by decide +kernel
theorem dX4_answers_110 : decode cX4_answers 110 = .ok (.iconst 1, 1) := by decide +kernel
theorem dX4_answers_111 : decode cX4_answers 111 = .ok (.goto 4, 3) := by decide +kernel
theorem dX4_answers_114 : decode cX4_answers 114 = .ok (.iconst 0, 1) := by decide +kernel
theorem dX4_answers_115 : decode cX4_answers 115 = .ok (.ireturn, 1) := by decide +kernel
theorem dX4_next_0 : decode cX4_next 0 = .ok (.aload_n 0, 1) := by decide +kernel
theorem dX4_next_1 : decode cX4_next 1 = .ok (.getfield 44, 3) := by decide +kernel
theorem dX4_next_4 : decode cX4_next 4 = .ok (.iconst 3, 1) := by decide +kernel
theorem dX4_next_5 : decode cX4_next 5 = .ok (.iconst 2, 1) := by decide +kernel
theorem dX4_next_6 : decode cX4_next 6 = .ok (.iload_n 1, 1) := by decide +kernel
theorem dX4_next_7 : decode cX4_next 7 = .ok (.imul, 1) := by decide +kernel
theorem dX4_next_8 : decode cX4_next 8 = .ok (.iload_n 2, 1) := by decide +kernel
theorem dX4_next_9 : decode cX4_next 9 = .ok (.iadd, 1) := by decide +kernel
theorem dX4_next_10 : decode cX4_next 10 = .ok (.imul, 1) := by decide +kernel
theorem dX4_next_11 : decode cX4_next 11 = .ok (.iload_n 3, 1) := by decide +kernel
theorem dX4_next_12 : decode cX4_next 12 = .ok (.iadd, 1) := by decide +kernel
theorem dX4_next_13 : decode cX4_next 13 = .ok (.iaload, 1) := by decide +kernel
theorem dX4_next_14 : decode cX4_next 14 = .ok (.iconst 3, 1) := by decide +kernel
theorem dX4_next_15 : decode cX4_next 15 = .ok (.if_icmp .ne 7, 3) := by decide +kernel
theorem dX4_next_18 : decode cX4_next 18 = .ok (.iconst 1, 1) := by decide +kernel
theorem dX4_next_19 : decode cX4_next 19 = .ok (.goto 4, 3) := by decide +kernel
theorem dX4_next_22 : decode cX4_next 22 = .ok (.iconst 0, 1) := by decide +kernel
theorem dX4_next_23 : decode cX4_next 23 = .ok (.istore 6, 2) := by decide +kernel
theorem dX4_next_25 : decode cX4_next 25 = .ok (.iconst 0, 1) := by decide +kernel
theorem dX4_next_26 : decode cX4_next 26 = .ok (.istore 7, 2) := by decide +kernel
theorem dX4_next_28 : decode cX4_next 28 = .ok (.iload 7, 2) := by decide +kernel
theorem dX4_next_30 : decode cX4_next 30 = .ok (.iconst 2, 1) := by decide +kernel
theorem dX4_next_31 : decode cX4_next 31 = .ok (.if_icmp .ge 79, 3) := by decide +kernel
theorem dX4_next_34 : decode cX4_next 34 = .ok (.iconst 2, 1) := by decide +kernel
theorem dX4_next_35 : decode cX4_next 35 = .ok (.iload_n 1, 1) := by decide +kernel
theorem dX4_next_36 : decode cX4_next 36 = .ok (.imul, 1) := by decide +kernel
theorem dX4_next_37 : decode cX4_next 37 = .ok (.iload 7, 2) := by decide +kernel
theorem dX4_next_39 : decode cX4_next 39 = .ok (.iadd, 1) := by decide +kernel
theorem dX4_next_40 : decode cX4_next 40 = .ok (.istore 8, 2) := by decide +kernel
theorem dX4_next_42 : decode cX4_next 42 = .ok (.iload 6, 2) := by decide +kernel
theorem dX4_next_44 : decode cX4_next 44 = .ok (.ifCond .eq 19, 3) := by decide +kernel
theorem dX4_next_47 : decode cX4_next 47 = .ok (.bipush 6, 2) := by decide +kernel
theorem dX4_next_49 : decode cX4_next 49 = .ok (.aload_n 0, 1) := by decide +kernel
theorem dX4_next_50 : decode cX4_next 50 = .ok (.getfield 56, 3) := by decide +kernel
theorem dX4_next_53 : decode cX4_next 53 = .ok (.iload 8, 2) := by decide +kernel
theorem dX4_next_55 : decode cX4_next 55 = .ok (.iaload, 1) := by decide +kernel
theorem dX4_next_56 : decode cX4_next 56 = .ok (.imul, 1) := by decide +kernel
theorem dX4_next_57 : decode cX4_next 57 = .ok (.iload 5, 2) := by decide +kernel
theorem dX4_next_59 : decode cX4_next 59 = .ok (.iadd, 1) := by decide +kernel
theorem dX4_next_60 : decode cX4_next 60 = .ok (.goto 10, 3) := by decide +kernel
theorem dX4_next_63 : decode cX4_next 63 = .ok (.aload_n 0, 1) := by decide +kernel
theorem dX4_next_64 : decode cX4_next 64 = .ok (.getfield 56, 3) := by decide +kernel
theorem dX4_next_67 : decode cX4_next 67 = .ok (.iload 8, 2) := by decide +kernel
theorem dX4_next_69 : decode cX4_next 69 = .ok (.iaload, 1) := by decide +kernel
theorem dX4_next_70 : decode cX4_next 70 = .ok (.istore 9, 2) := by decide +kernel
theorem dX4_next_72 : decode cX4_next 72 = .ok (.aload_n 0, 1) := by decide +kernel
theorem dX4_next_73 : decode cX4_next 73 = .ok (.iload 8, 2) := by decide +kernel
theorem dX4_next_75 : decode cX4_next 75 = .ok (.iconst 2, 1) := by decide +kernel
theorem dX4_next_76 : decode cX4_next 76 = .ok (.isub, 1) := by decide +kernel
theorem dX4_next_77 : decode cX4_next 77 = .ok (.aload_n 0, 1) := by decide +kernel
theorem dX4_next_78 : decode cX4_next 78 = .ok (.getfield 53, 3) := by decide +kernel
theorem dX4_next_81 : decode cX4_next 81 = .ok (.iconst 3, 1) := by decide +kernel
theorem dX4_next_82 : decode cX4_next 82 = .ok (.iload 8, 2) := by decide +kernel
theorem dX4_next_84 : decode cX4_next 84 = .ok (.imul, 1) := by decide +kernel
theorem dX4_next_85 : decode cX4_next 85 = .ok (.iload 7, 2) := by decide +kernel
theorem dX4_next_87 : decode cX4_next 87 = .ok (.iload_n 2, 1) := by decide +kernel
theorem dX4_next_88 : decode cX4_next 88 = .ok (.if_icmp .ne 7, 3) := by decide +kernel
theorem dX4_next_91 : decode cX4_next 91 = .ok (.iload_n 3, 1) := by decide +kernel
theorem dX4_next_92 : decode cX4_next 92 = .ok (.goto 5, 3) := by decide +kernel
theorem dX4_next_95 : decode cX4_next 95 = .ok (.iload 4, 2) := by decide +kernel
theorem dX4_next_97 : decode cX4_next 97 = .ok (.iadd, 1) := by decide +kernel
theorem dX4_next_98 : decode cX4_next 98 = .ok (.iaload, 1) := by decide +kernel
theorem dX4_next_99 : decode cX4_next 99 = .ok (.iload 9, 2) := by decide +kernel
theorem dX4_next_101 : decode cX4_next 101 = .ok (.invokevirtual 100, 3) := by decide +kernel
theorem dX4_next_104 : decode cX4_next 104 = .ok (.iinc 7 1, 3) := by decide +kernel
theorem dX4_next_107 : decode cX4_next 107 = .ok (.goto (-79), 3) := by decide +kernel
theorem dX4_next_110 : decode cX4_next 110 = .ok (.aload_n 0, 1) := by decide +kernel
theorem dX4_next_111 : decode cX4_next 111 = .ok (.getfield 59, 3) := by decide +kernel
theorem dX4_next_114 : decode cX4_next 114 = .ok (.iload_n 1, 1) := by decide +kernel
theorem dX4_next_115 : decode cX4_next 115 = .ok (.iconst 1, 1) := by decide +kernel
theorem dX4_next_116 : decode cX4_next 116 = .ok (.isub, 1) := by decide +kernel
theorem dX4_next_117 : decode cX4_next 117 = .ok (.aload_n 0, 1) := by decide +kernel
theorem dX4_next_118 : decode cX4_next 118 = .ok (.getfield 59, 3) := by decide +kernel
theorem dX4_next_121 : decode cX4_next 121 = .ok (.iload_n 1, 1) := by decide +kernel
theorem dX4_next_122 : decode cX4_next 122 = .ok (.iaload, 1) := by decide +kernel
theorem dX4_next_123 : decode cX4_next 123 = .ok (.iload 6, 2) := by decide +kernel
theorem dX4_next_125 : decode cX4_next 125 = .ok (.ifCond .eq 20, 3) := by decide +kernel
theorem dX4_next_128 : decode cX4_next 128 = .ok (.iload 5, 2) := by decide +kernel
theorem dX4_next_130 : decode cX4_next 130 = .ok (.iconst 3, 1) := by decide +kernel
theorem dX4_next_131 : decode cX4_next 131 = .ok (.aload_n 0, 1) := by decide +kernel
theorem dX4_next_132 : decode cX4_next 132 = .ok (.getfield 59, 3) := by decide +kernel
theorem dX4_next_135 : decode cX4_next 135 = .ok (.iload_n 1, 1) := by decide +kernel
theorem dX4_next_136 : decode cX4_next 136 = .ok (.iaload, 1) := by decide +kernel
theorem dX4_next_137 : decode cX4_next 137 = .ok (.iadd, 1) := by decide +kernel
theorem dX4_next_138 : decode cX4_next 138 = .ok (.if_icmp .ne 7, 3) := by decide +kernel
theorem dX4_next_141 : decode cX4_next 141 = .ok (.iconst 1, 1) := by decide +kernel
theorem dX4_next_142 : decode cX4_next 142 = .ok (.goto 4, 3) := by decide +kernel
theorem dX4_next_145 : decode cX4_next 145 = .ok (.iconst 0, 1) := by decide +kernel
theorem dX4_next_146 : decode cX4_next 146 = .ok (.iadd, 1) := by decide +kernel
theorem dX4_next_147 : decode cX4_next 147 = .ok (.iastore, 1) := by decide +kernel
theorem dX4_next_148 : decode cX4_next 148 = .ok (.return_, 1) := by decide +kernel
theorem dX4_lowest_0 : decode cX4_lowest 0 = .ok (.aload_n 0, 1) := by decide +kernel
theorem dX4_lowest_1 : decode cX4_lowest 1 = .ok (.getfield 44, 3) := by decide +kernel
theorem dX4_lowest_4 : decode cX4_lowest 4 = .ok (.iconst 3, 1) := by decide +kernel
theorem dX4_lowest_5 : decode cX4_lowest 5 = .ok (.iconst 2, 1) := by decide +kernel
theorem dX4_lowest_6 : decode cX4_lowest 6 = .ok (.iload_n 1, 1) := by decide +kernel
theorem dX4_lowest_7 : decode cX4_lowest 7 = .ok (.imul, 1) := by decide +kernel
theorem dX4_lowest_8 : decode cX4_lowest 8 = .ok (.iload_n 2, 1) := by decide +kernel
theorem dX4_lowest_9 : decode cX4_lowest 9 = .ok (.iadd, 1) := by decide +kernel
theorem dX4_lowest_10 : decode cX4_lowest 10 = .ok (.imul, 1) := by decide +kernel
theorem dX4_lowest_11 : decode cX4_lowest 11 = .ok (.iload_n 3, 1) := by decide +kernel
theorem dX4_lowest_12 : decode cX4_lowest 12 = .ok (.iadd, 1) := by decide +kernel
theorem dX4_lowest_13 : decode cX4_lowest 13 = .ok (.iaload, 1) := by decide +kernel
theorem dX4_lowest_14 : decode cX4_lowest 14 = .ok (.iconst 3, 1) := by decide +kernel
theorem dX4_lowest_15 : decode cX4_lowest 15 = .ok (.if_icmp .eq 6, 3) := by decide +kernel
theorem dX4_lowest_18 : decode cX4_lowest 18 = .ok (.bipush 8, 2) := by decide +kernel
theorem dX4_lowest_20 : decode cX4_lowest 20 = .ok (.ireturn, 1) := by decide +kernel
theorem dX4_lowest_21 : decode cX4_lowest 21 = .ok (.aload_n 0, 1) := by decide +kernel
theorem dX4_lowest_22 : decode cX4_lowest 22 = .ok (.getfield 107, 3) := by decide +kernel
theorem dX4_lowest_25 : decode cX4_lowest 25 = .ok (.iconst 1, 1) := by decide +kernel
theorem dX4_lowest_26 : decode cX4_lowest 26 = .ok (.if_icmp .ne 7, 3) := by decide +kernel
theorem dX4_lowest_29 : decode cX4_lowest 29 = .ok (.iconst 0, 1) := by decide +kernel
theorem dX4_lowest_30 : decode cX4_lowest 30 = .ok (.goto 24, 3) := by decide +kernel
theorem dX4_lowest_33 : decode cX4_lowest 33 = .ok (.aload_n 0, 1) := by decide +kernel
theorem dX4_lowest_34 : decode cX4_lowest 34 = .ok (.getfield 107, 3) := by decide +kernel
theorem dX4_lowest_37 : decode cX4_lowest 37 = .ok (.iconst 2, 1) := by decide +kernel
theorem dX4_lowest_38 : decode cX4_lowest 38 = .ok (.if_icmp .ne 8, 3) := by decide +kernel
theorem dX4_lowest_41 : decode cX4_lowest 41 = .ok (.bipush 9, 2) := by decide +kernel
theorem dX4_lowest_43 : decode cX4_lowest 43 = .ok (.goto 11, 3) := by decide +kernel
theorem dX4_lowest_46 : decode cX4_lowest 46 = .ok (.iconst 3, 1) := by decide +kernel
theorem dX4_lowest_47 : decode cX4_lowest 47 = .ok (.aload_n 0, 1) := by decide +kernel
theorem dX4_lowest_48 : decode cX4_lowest 48 = .ok (.getfield 59, 3) := by decide +kernel
theorem dX4_lowest_51 : decode cX4_lowest 51 = .ok (.iload_n 1, 1) := by decide +kernel
theorem dX4_lowest_52 : decode cX4_lowest 52 = .ok (.iaload, 1) := by decide +kernel
theorem dX4_lowest_53 : decode cX4_lowest 53 = .ok (.iadd, 1) := by decide +kernel
theorem dX4_lowest_54 : decode cX4_lowest 54 = .ok (.ireturn, 1) := by decide +kernel
theorem dX4_highest_0 : decode cX4_highest 0 = .ok (.aload_n 0, 1) := by decide +kernel
theorem dX4_highest_1 : decode cX4_highest 1 = .ok (.getfield 44, 3) := by decide +kernel
theorem dX4_highest_4 : decode cX4_highest 4 = .ok (.iconst 3, 1) := by decide +kernel
theorem dX4_highest_5 : decode cX4_highest 5 = .ok (.iconst 2, 1) := by decide +kernel
theorem dX4_highest_6 : decode cX4_highest 6 = .ok (.iload_n 1, 1) := by decide +kernel
theorem dX4_highest_7 : decode cX4_highest 7 = .ok (.imul, 1) := by decide +kernel
theorem dX4_highest_8 : decode cX4_highest 8 = .ok (.iload_n 2, 1) := by decide +kernel
theorem dX4_highest_9 : decode cX4_highest 9 = .ok (.iadd, 1) := by decide +kernel
theorem dX4_highest_10 : decode cX4_highest 10 = .ok (.imul, 1) := by decide +kernel
theorem dX4_highest_11 : decode cX4_highest 11 = .ok (.iload_n 3, 1) := by decide +kernel
theorem dX4_highest_12 : decode cX4_highest 12 = .ok (.iadd, 1) := by decide +kernel
theorem dX4_highest_13 : decode cX4_highest 13 = .ok (.iaload, 1) := by decide +kernel
theorem dX4_highest_14 : decode cX4_highest 14 = .ok (.iconst 3, 1) := by decide +kernel
theorem dX4_highest_15 : decode cX4_highest 15 = .ok (.if_icmp .ne 7, 3) := by decide +kernel
theorem dX4_highest_18 : decode cX4_highest 18 = .ok (.iconst 1, 1) := by decide +kernel
theorem dX4_highest_19 : decode cX4_highest 19 = .ok (.goto 4, 3) := by decide +kernel
theorem dX4_highest_22 : decode cX4_highest 22 = .ok (.iconst 0, 1) := by decide +kernel
theorem dX4_highest_23 : decode cX4_highest 23 = .ok (.istore 4, 2) := by decide +kernel
theorem dX4_highest_25 : decode cX4_highest 25 = .ok (.iload 4, 2) := by decide +kernel
theorem dX4_highest_27 : decode cX4_highest 27 = .ok (.ifCond .eq 22, 3) := by decide +kernel
theorem dX4_highest_30 : decode cX4_highest 30 = .ok (.aload_n 0, 1) := by decide +kernel
theorem dX4_highest_31 : decode cX4_highest 31 = .ok (.getfield 107, 3) := by decide +kernel
theorem dX4_highest_34 : decode cX4_highest 34 = .ok (.iconst 1, 1) := by decide +kernel
theorem dX4_highest_35 : decode cX4_highest 35 = .ok (.if_icmp .ne 14, 3) := by decide +kernel
theorem dX4_highest_38 : decode cX4_highest 38 = .ok (.iconst 3, 1) := by decide +kernel
theorem dX4_highest_39 : decode cX4_highest 39 = .ok (.aload_n 0, 1) := by decide +kernel
theorem dX4_highest_40 : decode cX4_highest 40 = .ok (.getfield 59, 3) := by decide +kernel
theorem dX4_highest_43 : decode cX4_highest 43 = .ok (.iload_n 1, 1) := by decide +kernel
theorem dX4_highest_44 : decode cX4_highest 44 = .ok (.iaload, 1) := by decide +kernel
theorem dX4_highest_45 : decode cX4_highest 45 = .ok (.iadd, 1) := by decide +kernel
theorem dX4_highest_46 : decode cX4_highest 46 = .ok (.goto 10, 3) := by decide +kernel
theorem dX4_highest_49 : decode cX4_highest 49 = .ok (.aload_n 0, 1) := by decide +kernel
theorem dX4_highest_50 : decode cX4_highest 50 = .ok (.iload_n 1, 1) := by decide +kernel
theorem dX4_highest_51 : decode cX4_highest 51 = .ok (.iload_n 2, 1) := by decide +kernel
theorem dX4_highest_52 : decode cX4_highest 52 = .ok (.iload_n 3, 1) := by decide +kernel
theorem dX4_highest_53 : decode cX4_highest 53 = .ok (.invokevirtual 110, 3) := by decide +kernel
theorem dX4_highest_56 : decode cX4_highest 56 = .ok (.ireturn, 1) := by decide +kernel
theorem dX4_holds1_0 : decode cX4_holds1 0 = .ok (.iconst 3, 1) := by decide +kernel
theorem dX4_holds1_1 : decode cX4_holds1 1 = .ok (.iload_n 1, 1) := by decide +kernel
theorem dX4_holds1_2 : decode cX4_holds1 2 = .ok (.isub, 1) := by decide +kernel
theorem dX4_holds1_3 : decode cX4_holds1 3 = .ok (.istore 4, 2) := by decide +kernel
theorem dX4_holds1_5 : decode cX4_holds1 5 = .ok (.iconst 0, 1) := by decide +kernel
theorem dX4_holds1_6 : decode cX4_holds1 6 = .ok (.istore 5, 2) := by decide +kernel
theorem dX4_holds1_8 : decode cX4_holds1 8 = .ok (.iload 5, 2) := by decide +kernel
theorem dX4_holds1_10 : decode cX4_holds1 10 = .ok (.aload_n 0, 1) := by decide +kernel
theorem dX4_holds1_11 : decode cX4_holds1 11 = .ok (.getfield 41, 3) := by decide +kernel
theorem dX4_holds1_14 : decode cX4_holds1 14 = .ok (.iload 4, 2) := by decide +kernel
theorem dX4_holds1_16 : decode cX4_holds1 16 = .ok (.iaload, 1) := by decide +kernel
theorem dX4_holds1_17 : decode cX4_holds1 17 = .ok (.if_icmp .ge 23, 3) := by decide +kernel
theorem dX4_holds1_20 : decode cX4_holds1 20 = .ok (.aload_n 0, 1) := by decide +kernel
theorem dX4_holds1_21 : decode cX4_holds1 21 = .ok (.iconst 1, 1) := by decide +kernel
theorem dX4_holds1_22 : decode cX4_holds1 22 = .ok (.iload_n 1, 1) := by decide +kernel
theorem dX4_holds1_23 : decode cX4_holds1 23 = .ok (.iload_n 2, 1) := by decide +kernel
theorem dX4_holds1_24 : decode cX4_holds1 24 = .ok (.iload 5, 2) := by decide +kernel
theorem dX4_holds1_26 : decode cX4_holds1 26 = .ok (.invokevirtual 114, 3) := by decide +kernel
theorem dX4_holds1_29 : decode cX4_holds1 29 = .ok (.ifCond .eq 5, 3) := by decide +kernel
theorem dX4_holds1_32 : decode cX4_holds1 32 = .ok (.iconst 0, 1) := by decide +kernel
theorem dX4_holds1_33 : decode cX4_holds1 33 = .ok (.ireturn, 1) := by decide +kernel
theorem dX4_holds1_34 : decode cX4_holds1 34 = .ok (.iinc 5 1, 3) := by decide +kernel
theorem dX4_holds1_37 : decode cX4_holds1 37 = .ok (.goto (-29), 3) := by decide +kernel
theorem dX4_holds1_40 : decode cX4_holds1 40 = .ok (.iconst 1, 1) := by decide +kernel
theorem dX4_holds1_41 : decode cX4_holds1 41 = .ok (.ireturn, 1) := by decide +kernel
theorem dX4_wins1_0 : decode cX4_wins1 0 = .ok (.iconst 0, 1) := by decide +kernel
theorem dX4_wins1_1 : decode cX4_wins1 1 = .ok (.istore_n 1, 1) := by decide +kernel
theorem dX4_wins1_2 : decode cX4_wins1 2 = .ok (.iload_n 1, 1) := by decide +kernel
theorem dX4_wins1_3 : decode cX4_wins1 3 = .ok (.iconst 2, 1) := by decide +kernel
theorem dX4_wins1_4 : decode cX4_wins1 4 = .ok (.if_icmp .ge 66, 3) := by decide +kernel
theorem dX4_wins1_7 : decode cX4_wins1 7 = .ok (.iconst 0, 1) := by decide +kernel
theorem dX4_wins1_8 : decode cX4_wins1 8 = .ok (.istore_n 2, 1) := by decide +kernel
theorem dX4_wins1_9 : decode cX4_wins1 9 = .ok (.iload_n 2, 1) := by decide +kernel
theorem dX4_wins1_10 : decode cX4_wins1 10 = .ok (.aload_n 0, 1) := by decide +kernel
theorem dX4_wins1_11 : decode cX4_wins1 11 = .ok (.getfield 41, 3) := by decide +kernel
theorem dX4_wins1_14 : decode cX4_wins1 14 = .ok (.iconst 2, 1) := by decide +kernel
theorem dX4_wins1_15 : decode cX4_wins1 15 = .ok (.iload_n 1, 1) := by decide +kernel
theorem dX4_wins1_16 : decode cX4_wins1 16 = .ok (.iadd, 1) := by decide +kernel
theorem dX4_wins1_17 : decode cX4_wins1 17 = .ok (.iaload, 1) := by decide +kernel
theorem dX4_wins1_18 : decode cX4_wins1 18 = .ok (.if_icmp .ge 46, 3) := by decide +kernel
theorem dX4_wins1_21 : decode cX4_wins1 21 = .ok (.aload_n 0, 1) := by decide +kernel
theorem dX4_wins1_22 : decode cX4_wins1 22 = .ok (.iconst 1, 1) := by decide +kernel
theorem dX4_wins1_23 : decode cX4_wins1 23 = .ok (.iload_n 1, 1) := by decide +kernel
theorem dX4_wins1_24 : decode cX4_wins1 24 = .ok (.iload_n 2, 1) := by decide +kernel
theorem dX4_wins1_25 : decode cX4_wins1 25 = .ok (.invokevirtual 110, 3) := by decide +kernel
theorem dX4_wins1_28 : decode cX4_wins1 28 = .ok (.istore_n 3, 1) := by decide +kernel
theorem dX4_wins1_29 : decode cX4_wins1 29 = .ok (.iload_n 3, 1) := by decide +kernel
theorem dX4_wins1_30 : decode cX4_wins1 30 = .ok (.aload_n 0, 1) := by decide +kernel
theorem dX4_wins1_31 : decode cX4_wins1 31 = .ok (.iconst 1, 1) := by decide +kernel
theorem dX4_wins1_32 : decode cX4_wins1 32 = .ok (.iload_n 1, 1) := by decide +kernel
theorem dX4_wins1_33 : decode cX4_wins1 33 = .ok (.iload_n 2, 1) := by decide +kernel
theorem dX4_wins1_34 : decode cX4_wins1 34 = .ok (.invokevirtual 118, 3) := by decide +kernel
theorem dX4_wins1_37 : decode cX4_wins1 37 = .ok (.if_icmp .gt 21, 3) := by decide +kernel
theorem dX4_wins1_40 : decode cX4_wins1 40 = .ok (.aload_n 0, 1) := by decide +kernel
theorem dX4_wins1_41 : decode cX4_wins1 41 = .ok (.iload_n 1, 1) := by decide +kernel
theorem dX4_wins1_42 : decode cX4_wins1 42 = .ok (.iload_n 2, 1) := by decide +kernel
theorem dX4_wins1_43 : decode cX4_wins1 43 = .ok (.iload_n 3, 1) := by decide +kernel
theorem dX4_wins1_44 : decode cX4_wins1 44 = .ok (.invokevirtual 121, 3) := by decide +kernel
theorem dX4_wins1_47 : decode cX4_wins1 47 = .ok (.ifCond .eq 5, 3) := by decide +kernel
theorem dX4_wins1_50 : decode cX4_wins1 50 = .ok (.iconst 1, 1) := by decide +kernel
theorem dX4_wins1_51 : decode cX4_wins1 51 = .ok (.ireturn, 1) := by decide +kernel
theorem dX4_wins1_52 : decode cX4_wins1 52 = .ok (.iinc 3 1, 3) := by decide +kernel
theorem dX4_wins1_55 : decode cX4_wins1 55 = .ok (.goto (-26), 3) := by decide +kernel
theorem dX4_wins1_58 : decode cX4_wins1 58 = .ok (.iinc 2 1, 3) := by decide +kernel
theorem dX4_wins1_61 : decode cX4_wins1 61 = .ok (.goto (-52), 3) := by decide +kernel
theorem dX4_wins1_64 : decode cX4_wins1 64 = .ok (.iinc 1 1, 3) := by decide +kernel
theorem dX4_wins1_67 : decode cX4_wins1 67 = .ok (.goto (-65), 3) := by decide +kernel
theorem dX4_wins1_70 : decode cX4_wins1 70 = .ok (.iconst 0, 1) := by decide +kernel
theorem dX4_wins1_71 : decode cX4_wins1 71 = .ok (.ireturn, 1) := by decide +kernel
theorem dX4_holds2_0 : decode cX4_holds2 0 = .ok (.iconst 5, 1) := by decide +kernel
theorem dX4_holds2_1 : decode cX4_holds2 1 = .ok (.iload_n 1, 1) := by decide +kernel
theorem dX4_holds2_2 : decode cX4_holds2 2 = .ok (.isub, 1) := by decide +kernel
theorem dX4_holds2_3 : decode cX4_holds2 3 = .ok (.istore 4, 2) := by decide +kernel
theorem dX4_holds2_5 : decode cX4_holds2 5 = .ok (.iconst 0, 1) := by decide +kernel
theorem dX4_holds2_6 : decode cX4_holds2 6 = .ok (.istore 5, 2) := by decide +kernel
theorem dX4_holds2_8 : decode cX4_holds2 8 = .ok (.iload 5, 2) := by decide +kernel
theorem dX4_holds2_10 : decode cX4_holds2 10 = .ok (.aload_n 0, 1) := by decide +kernel
theorem dX4_holds2_11 : decode cX4_holds2 11 = .ok (.getfield 41, 3) := by decide +kernel
theorem dX4_holds2_14 : decode cX4_holds2 14 = .ok (.iload 4, 2) := by decide +kernel
theorem dX4_holds2_16 : decode cX4_holds2 16 = .ok (.iaload, 1) := by decide +kernel
theorem dX4_holds2_17 : decode cX4_holds2 17 = .ok (.if_icmp .ge 35, 3) := by decide +kernel
theorem dX4_holds2_20 : decode cX4_holds2 20 = .ok (.aload_n 0, 1) := by decide +kernel
theorem dX4_holds2_21 : decode cX4_holds2 21 = .ok (.iconst 2, 1) := by decide +kernel
theorem dX4_holds2_22 : decode cX4_holds2 22 = .ok (.iload_n 1, 1) := by decide +kernel
theorem dX4_holds2_23 : decode cX4_holds2 23 = .ok (.iload_n 2, 1) := by decide +kernel
theorem dX4_holds2_24 : decode cX4_holds2 24 = .ok (.iload 5, 2) := by decide +kernel
theorem dX4_holds2_26 : decode cX4_holds2 26 = .ok (.invokevirtual 114, 3) := by decide +kernel
theorem dX4_holds2_29 : decode cX4_holds2 29 = .ok (.ifCond .eq 17, 3) := by decide +kernel
theorem dX4_holds2_32 : decode cX4_holds2 32 = .ok (.aload_n 0, 1) := by decide +kernel
theorem dX4_holds2_33 : decode cX4_holds2 33 = .ok (.iload_n 1, 1) := by decide +kernel
theorem dX4_holds2_34 : decode cX4_holds2 34 = .ok (.iload_n 2, 1) := by decide +kernel
theorem dX4_holds2_35 : decode cX4_holds2 35 = .ok (.iload 5, 2) := by decide +kernel
theorem dX4_holds2_37 : decode cX4_holds2 37 = .ok (.iload_n 3, 1) := by decide +kernel
theorem dX4_holds2_38 : decode cX4_holds2 38 = .ok (.invokevirtual 124, 3) := by decide +kernel
theorem dX4_holds2_41 : decode cX4_holds2 41 = .ok (.ifCond .ne 5, 3) := by decide +kernel
theorem dX4_holds2_44 : decode cX4_holds2 44 = .ok (.iconst 0, 1) := by decide +kernel
theorem dX4_holds2_45 : decode cX4_holds2 45 = .ok (.ireturn, 1) := by decide +kernel
theorem dX4_holds2_46 : decode cX4_holds2 46 = .ok (.iinc 5 1, 3) := by decide +kernel
theorem dX4_holds2_49 : decode cX4_holds2 49 = .ok (.goto (-41), 3) := by decide +kernel
theorem dX4_holds2_52 : decode cX4_holds2 52 = .ok (.iconst 1, 1) := by decide +kernel
theorem dX4_holds2_53 : decode cX4_holds2 53 = .ok (.ireturn, 1) := by decide +kernel
theorem dX4_follows2_0 : decode cX4_follows2 0 = .ok (.iload 4, 2) := by decide +kernel
theorem dX4_follows2_2 : decode cX4_follows2 2 = .ok (.bipush 9, 2) := by decide +kernel
theorem dX4_follows2_4 : decode cX4_follows2 4 = .ok (.if_icmp .ge 18, 3) := by decide +kernel
theorem dX4_follows2_7 : decode cX4_follows2 7 = .ok (.aload_n 0, 1) := by decide +kernel
theorem dX4_follows2_8 : decode cX4_follows2 8 = .ok (.iconst 2, 1) := by decide +kernel
theorem dX4_follows2_9 : decode cX4_follows2 9 = .ok (.iload_n 1, 1) := by decide +kernel
theorem dX4_follows2_10 : decode cX4_follows2 10 = .ok (.iload_n 2, 1) := by decide +kernel
theorem dX4_follows2_11 : decode cX4_follows2 11 = .ok (.iload_n 3, 1) := by decide +kernel
theorem dX4_follows2_12 : decode cX4_follows2 12 = .ok (.iload 4, 2) := by decide +kernel
theorem dX4_follows2_14 : decode cX4_follows2 14 = .ok (.invokevirtual 127, 3) := by decide +kernel
theorem dX4_follows2_17 : decode cX4_follows2 17 = .ok (.aload_n 0, 1) := by decide +kernel
theorem dX4_follows2_18 : decode cX4_follows2 18 = .ok (.invokevirtual 131, 3) := by decide +kernel
theorem dX4_follows2_21 : decode cX4_follows2 21 = .ok (.ireturn, 1) := by decide +kernel
theorem dX4_follows2_22 : decode cX4_follows2 22 = .ok (.iconst 0, 1) := by decide +kernel
theorem dX4_follows2_23 : decode cX4_follows2 23 = .ok (.istore 5, 2) := by decide +kernel
theorem dX4_follows2_25 : decode cX4_follows2 25 = .ok (.iload 5, 2) := by decide +kernel
theorem dX4_follows2_27 : decode cX4_follows2 27 = .ok (.iconst 3, 1) := by decide +kernel
theorem dX4_follows2_28 : decode cX4_follows2 28 = .ok (.aload_n 0, 1) := by decide +kernel
theorem dX4_follows2_29 : decode cX4_follows2 29 = .ok (.getfield 59, 3) := by decide +kernel
theorem dX4_follows2_32 : decode cX4_follows2 32 = .ok (.iconst 2, 1) := by decide +kernel
theorem dX4_follows2_33 : decode cX4_follows2 33 = .ok (.iaload, 1) := by decide +kernel
theorem dX4_follows2_34 : decode cX4_follows2 34 = .ok (.iadd, 1) := by decide +kernel
theorem dX4_follows2_35 : decode cX4_follows2 35 = .ok (.if_icmp .gt 28, 3) := by decide +kernel
theorem dX4_follows2_38 : decode cX4_follows2 38 = .ok (.aload_n 0, 1) := by decide +kernel
theorem dX4_follows2_39 : decode cX4_follows2 39 = .ok (.iconst 2, 1) := by decide +kernel
theorem dX4_follows2_40 : decode cX4_follows2 40 = .ok (.iload_n 1, 1) := by decide +kernel
theorem dX4_follows2_41 : decode cX4_follows2 41 = .ok (.iload_n 2, 1) := by decide +kernel
theorem dX4_follows2_42 : decode cX4_follows2 42 = .ok (.iload_n 3, 1) := by decide +kernel
theorem dX4_follows2_43 : decode cX4_follows2 43 = .ok (.iload 5, 2) := by decide +kernel
theorem dX4_follows2_45 : decode cX4_follows2 45 = .ok (.invokevirtual 127, 3) := by decide +kernel
theorem dX4_follows2_48 : decode cX4_follows2 48 = .ok (.aload_n 0, 1) := by decide +kernel
theorem dX4_follows2_49 : decode cX4_follows2 49 = .ok (.invokevirtual 131, 3) := by decide +kernel
theorem dX4_follows2_52 : decode cX4_follows2 52 = .ok (.ifCond .eq 5, 3) := by decide +kernel
theorem dX4_follows2_55 : decode cX4_follows2 55 = .ok (.iconst 1, 1) := by decide +kernel
theorem dX4_follows2_56 : decode cX4_follows2 56 = .ok (.ireturn, 1) := by decide +kernel
theorem dX4_follows2_57 : decode cX4_follows2 57 = .ok (.iinc 5 1, 3) := by decide +kernel
theorem dX4_follows2_60 : decode cX4_follows2 60 = .ok (.goto (-35), 3) := by decide +kernel
theorem dX4_follows2_63 : decode cX4_follows2 63 = .ok (.iconst 0, 1) := by decide +kernel
theorem dX4_follows2_64 : decode cX4_follows2 64 = .ok (.ireturn, 1) := by decide +kernel
theorem dX4_wins2_0 : decode cX4_wins2 0 = .ok (.iconst 0, 1) := by decide +kernel
theorem dX4_wins2_1 : decode cX4_wins2 1 = .ok (.istore_n 1, 1) := by decide +kernel
theorem dX4_wins2_2 : decode cX4_wins2 2 = .ok (.iload_n 1, 1) := by decide +kernel
theorem dX4_wins2_3 : decode cX4_wins2 3 = .ok (.iconst 2, 1) := by decide +kernel
theorem dX4_wins2_4 : decode cX4_wins2 4 = .ok (.if_icmp .ge 66, 3) := by decide +kernel
theorem dX4_wins2_7 : decode cX4_wins2 7 = .ok (.iconst 0, 1) := by decide +kernel
theorem dX4_wins2_8 : decode cX4_wins2 8 = .ok (.istore_n 2, 1) := by decide +kernel
theorem dX4_wins2_9 : decode cX4_wins2 9 = .ok (.iload_n 2, 1) := by decide +kernel
theorem dX4_wins2_10 : decode cX4_wins2 10 = .ok (.aload_n 0, 1) := by decide +kernel
theorem dX4_wins2_11 : decode cX4_wins2 11 = .ok (.getfield 41, 3) := by decide +kernel
theorem dX4_wins2_14 : decode cX4_wins2 14 = .ok (.iconst 4, 1) := by decide +kernel
theorem dX4_wins2_15 : decode cX4_wins2 15 = .ok (.iload_n 1, 1) := by decide +kernel
theorem dX4_wins2_16 : decode cX4_wins2 16 = .ok (.iadd, 1) := by decide +kernel
theorem dX4_wins2_17 : decode cX4_wins2 17 = .ok (.iaload, 1) := by decide +kernel
theorem dX4_wins2_18 : decode cX4_wins2 18 = .ok (.if_icmp .ge 46, 3) := by decide +kernel
theorem dX4_wins2_21 : decode cX4_wins2 21 = .ok (.aload_n 0, 1) := by decide +kernel
theorem dX4_wins2_22 : decode cX4_wins2 22 = .ok (.iconst 2, 1) := by decide +kernel
theorem dX4_wins2_23 : decode cX4_wins2 23 = .ok (.iload_n 1, 1) := by decide +kernel
theorem dX4_wins2_24 : decode cX4_wins2 24 = .ok (.iload_n 2, 1) := by decide +kernel
theorem dX4_wins2_25 : decode cX4_wins2 25 = .ok (.invokevirtual 110, 3) := by decide +kernel
theorem dX4_wins2_28 : decode cX4_wins2 28 = .ok (.istore_n 3, 1) := by decide +kernel
theorem dX4_wins2_29 : decode cX4_wins2 29 = .ok (.iload_n 3, 1) := by decide +kernel
theorem dX4_wins2_30 : decode cX4_wins2 30 = .ok (.aload_n 0, 1) := by decide +kernel
theorem dX4_wins2_31 : decode cX4_wins2 31 = .ok (.iconst 2, 1) := by decide +kernel
theorem dX4_wins2_32 : decode cX4_wins2 32 = .ok (.iload_n 1, 1) := by decide +kernel
theorem dX4_wins2_33 : decode cX4_wins2 33 = .ok (.iload_n 2, 1) := by decide +kernel
theorem dX4_wins2_34 : decode cX4_wins2 34 = .ok (.invokevirtual 118, 3) := by decide +kernel
theorem dX4_wins2_37 : decode cX4_wins2 37 = .ok (.if_icmp .gt 21, 3) := by decide +kernel
theorem dX4_wins2_40 : decode cX4_wins2 40 = .ok (.aload_n 0, 1) := by decide +kernel
theorem dX4_wins2_41 : decode cX4_wins2 41 = .ok (.iload_n 1, 1) := by decide +kernel
theorem dX4_wins2_42 : decode cX4_wins2 42 = .ok (.iload_n 2, 1) := by decide +kernel
theorem dX4_wins2_43 : decode cX4_wins2 43 = .ok (.iload_n 3, 1) := by decide +kernel
theorem dX4_wins2_44 : decode cX4_wins2 44 = .ok (.invokevirtual 135, 3) := by decide +kernel
theorem dX4_wins2_47 : decode cX4_wins2 47 = .ok (.ifCond .eq 5, 3) := by decide +kernel
theorem dX4_wins2_50 : decode cX4_wins2 50 = .ok (.iconst 1, 1) := by decide +kernel
theorem dX4_wins2_51 : decode cX4_wins2 51 = .ok (.ireturn, 1) := by decide +kernel
theorem dX4_wins2_52 : decode cX4_wins2 52 = .ok (.iinc 3 1, 3) := by decide +kernel
theorem dX4_wins2_55 : decode cX4_wins2 55 = .ok (.goto (-26), 3) := by decide +kernel
theorem dX4_wins2_58 : decode cX4_wins2 58 = .ok (.iinc 2 1, 3) := by decide +kernel
theorem dX4_wins2_61 : decode cX4_wins2 61 = .ok (.goto (-52), 3) := by decide +kernel
theorem dX4_wins2_64 : decode cX4_wins2 64 = .ok (.iinc 1 1, 3) := by decide +kernel
theorem dX4_wins2_67 : decode cX4_wins2 67 = .ok (.goto (-65), 3) := by decide +kernel
theorem dX4_wins2_70 : decode cX4_wins2 70 = .ok (.iconst 0, 1) := by decide +kernel
theorem dX4_wins2_71 : decode cX4_wins2 71 = .ok (.ireturn, 1) := by decide +kernel
theorem dX4_holds3_0 : decode cX4_holds3 0 = .ok (.bipush 7, 2) := by decide +kernel
theorem dX4_holds3_2 : decode cX4_holds3 2 = .ok (.iload_n 1, 1) := by decide +kernel
theorem dX4_holds3_3 : decode cX4_holds3 3 = .ok (.isub, 1) := by decide +kernel
theorem dX4_holds3_4 : decode cX4_holds3 4 = .ok (.istore 4, 2) := by decide +kernel
theorem dX4_holds3_6 : decode cX4_holds3 6 = .ok (.iconst 0, 1) := by decide +kernel
theorem dX4_holds3_7 : decode cX4_holds3 7 = .ok (.istore 5, 2) := by decide +kernel
theorem dX4_holds3_9 : decode cX4_holds3 9 = .ok (.iload 5, 2) := by decide +kernel
theorem dX4_holds3_11 : decode cX4_holds3 11 = .ok (.aload_n 0, 1) := by decide +kernel
theorem dX4_holds3_12 : decode cX4_holds3 12 = .ok (.getfield 41, 3) := by decide +kernel
theorem dX4_holds3_15 : decode cX4_holds3 15 = .ok (.iload 4, 2) := by decide +kernel
theorem dX4_holds3_17 : decode cX4_holds3 17 = .ok (.iaload, 1) := by decide +kernel
theorem dX4_holds3_18 : decode cX4_holds3 18 = .ok (.if_icmp .ge 35, 3) := by decide +kernel
theorem dX4_holds3_21 : decode cX4_holds3 21 = .ok (.aload_n 0, 1) := by decide +kernel
theorem dX4_holds3_22 : decode cX4_holds3 22 = .ok (.iconst 3, 1) := by decide +kernel
theorem dX4_holds3_23 : decode cX4_holds3 23 = .ok (.iload_n 1, 1) := by decide +kernel
theorem dX4_holds3_24 : decode cX4_holds3 24 = .ok (.iload_n 2, 1) := by decide +kernel
theorem dX4_holds3_25 : decode cX4_holds3 25 = .ok (.iload 5, 2) := by decide +kernel
theorem dX4_holds3_27 : decode cX4_holds3 27 = .ok (.invokevirtual 114, 3) := by decide +kernel
theorem dX4_holds3_30 : decode cX4_holds3 30 = .ok (.ifCond .eq 17, 3) := by decide +kernel
theorem dX4_holds3_33 : decode cX4_holds3 33 = .ok (.aload_n 0, 1) := by decide +kernel
theorem dX4_holds3_34 : decode cX4_holds3 34 = .ok (.iload_n 1, 1) := by decide +kernel
theorem dX4_holds3_35 : decode cX4_holds3 35 = .ok (.iload_n 2, 1) := by decide +kernel
theorem dX4_holds3_36 : decode cX4_holds3 36 = .ok (.iload 5, 2) := by decide +kernel
theorem dX4_holds3_38 : decode cX4_holds3 38 = .ok (.iload_n 3, 1) := by decide +kernel
theorem dX4_holds3_39 : decode cX4_holds3 39 = .ok (.invokevirtual 138, 3) := by decide +kernel
theorem dX4_holds3_42 : decode cX4_holds3 42 = .ok (.ifCond .ne 5, 3) := by decide +kernel
theorem dX4_holds3_45 : decode cX4_holds3 45 = .ok (.iconst 0, 1) := by decide +kernel
theorem dX4_holds3_46 : decode cX4_holds3 46 = .ok (.ireturn, 1) := by decide +kernel
theorem dX4_holds3_47 : decode cX4_holds3 47 = .ok (.iinc 5 1, 3) := by decide +kernel
theorem dX4_holds3_50 : decode cX4_holds3 50 = .ok (.goto (-41), 3) := by decide +kernel
theorem dX4_holds3_53 : decode cX4_holds3 53 = .ok (.iconst 1, 1) := by decide +kernel
theorem dX4_holds3_54 : decode cX4_holds3 54 = .ok (.ireturn, 1) := by decide +kernel
theorem dX4_follows3_0 : decode cX4_follows3 0 = .ok (.iload 4, 2) := by decide +kernel
theorem dX4_follows3_2 : decode cX4_follows3 2 = .ok (.bipush 9, 2) := by decide +kernel
theorem dX4_follows3_4 : decode cX4_follows3 4 = .ok (.if_icmp .ge 18, 3) := by decide +kernel
theorem dX4_follows3_7 : decode cX4_follows3 7 = .ok (.aload_n 0, 1) := by decide +kernel
theorem dX4_follows3_8 : decode cX4_follows3 8 = .ok (.iconst 3, 1) := by decide +kernel
theorem dX4_follows3_9 : decode cX4_follows3 9 = .ok (.iload_n 1, 1) := by decide +kernel
theorem dX4_follows3_10 : decode cX4_follows3 10 = .ok (.iload_n 2, 1) := by decide +kernel
theorem dX4_follows3_11 : decode cX4_follows3 11 = .ok (.iload_n 3, 1) := by decide +kernel
theorem dX4_follows3_12 : decode cX4_follows3 12 = .ok (.iload 4, 2) := by decide +kernel
theorem dX4_follows3_14 : decode cX4_follows3 14 = .ok (.invokevirtual 127, 3) := by decide +kernel
theorem dX4_follows3_17 : decode cX4_follows3 17 = .ok (.aload_n 0, 1) := by decide +kernel
theorem dX4_follows3_18 : decode cX4_follows3 18 = .ok (.invokevirtual 141, 3) := by decide +kernel
theorem dX4_follows3_21 : decode cX4_follows3 21 = .ok (.ireturn, 1) := by decide +kernel
theorem dX4_follows3_22 : decode cX4_follows3 22 = .ok (.iconst 0, 1) := by decide +kernel
theorem dX4_follows3_23 : decode cX4_follows3 23 = .ok (.istore 5, 2) := by decide +kernel
theorem dX4_follows3_25 : decode cX4_follows3 25 = .ok (.iload 5, 2) := by decide +kernel
theorem dX4_follows3_27 : decode cX4_follows3 27 = .ok (.iconst 3, 1) := by decide +kernel
theorem dX4_follows3_28 : decode cX4_follows3 28 = .ok (.aload_n 0, 1) := by decide +kernel
theorem dX4_follows3_29 : decode cX4_follows3 29 = .ok (.getfield 59, 3) := by decide +kernel
theorem dX4_follows3_32 : decode cX4_follows3 32 = .ok (.iconst 3, 1) := by decide +kernel
theorem dX4_follows3_33 : decode cX4_follows3 33 = .ok (.iaload, 1) := by decide +kernel
theorem dX4_follows3_34 : decode cX4_follows3 34 = .ok (.iadd, 1) := by decide +kernel
theorem dX4_follows3_35 : decode cX4_follows3 35 = .ok (.if_icmp .gt 28, 3) := by decide +kernel
theorem dX4_follows3_38 : decode cX4_follows3 38 = .ok (.aload_n 0, 1) := by decide +kernel
theorem dX4_follows3_39 : decode cX4_follows3 39 = .ok (.iconst 3, 1) := by decide +kernel
theorem dX4_follows3_40 : decode cX4_follows3 40 = .ok (.iload_n 1, 1) := by decide +kernel
theorem dX4_follows3_41 : decode cX4_follows3 41 = .ok (.iload_n 2, 1) := by decide +kernel
theorem dX4_follows3_42 : decode cX4_follows3 42 = .ok (.iload_n 3, 1) := by decide +kernel
theorem dX4_follows3_43 : decode cX4_follows3 43 = .ok (.iload 5, 2) := by decide +kernel
theorem dX4_follows3_45 : decode cX4_follows3 45 = .ok (.invokevirtual 127, 3) := by decide +kernel
theorem dX4_follows3_48 : decode cX4_follows3 48 = .ok (.aload_n 0, 1) := by decide +kernel
theorem dX4_follows3_49 : decode cX4_follows3 49 = .ok (.invokevirtual 141, 3) := by decide +kernel
theorem dX4_follows3_52 : decode cX4_follows3 52 = .ok (.ifCond .eq 5, 3) := by decide +kernel
theorem dX4_follows3_55 : decode cX4_follows3 55 = .ok (.iconst 1, 1) := by decide +kernel
theorem dX4_follows3_56 : decode cX4_follows3 56 = .ok (.ireturn, 1) := by decide +kernel
theorem dX4_follows3_57 : decode cX4_follows3 57 = .ok (.iinc 5 1, 3) := by decide +kernel
theorem dX4_follows3_60 : decode cX4_follows3 60 = .ok (.goto (-35), 3) := by decide +kernel
theorem dX4_follows3_63 : decode cX4_follows3 63 = .ok (.iconst 0, 1) := by decide +kernel
theorem dX4_follows3_64 : decode cX4_follows3 64 = .ok (.ireturn, 1) := by decide +kernel
theorem dX4_wins3_0 : decode cX4_wins3 0 = .ok (.iconst 0, 1) := by decide +kernel
theorem dX4_wins3_1 : decode cX4_wins3 1 = .ok (.istore_n 1, 1) := by decide +kernel
theorem dX4_wins3_2 : decode cX4_wins3 2 = .ok (.iload_n 1, 1) := by decide +kernel
theorem dX4_wins3_3 : decode cX4_wins3 3 = .ok (.iconst 2, 1) := by decide +kernel
theorem dX4_wins3_4 : decode cX4_wins3 4 = .ok (.if_icmp .ge 67, 3) := by decide +kernel
theorem dX4_wins3_7 : decode cX4_wins3 7 = .ok (.iconst 0, 1) := by decide +kernel
theorem dX4_wins3_8 : decode cX4_wins3 8 = .ok (.istore_n 2, 1) := by decide +kernel
theorem dX4_wins3_9 : decode cX4_wins3 9 = .ok (.iload_n 2, 1) := by decide +kernel
theorem dX4_wins3_10 : decode cX4_wins3 10 = .ok (.aload_n 0, 1) := by decide +kernel
theorem dX4_wins3_11 : decode cX4_wins3 11 = .ok (.getfield 41, 3) := by decide +kernel
theorem dX4_wins3_14 : decode cX4_wins3 14 = .ok (.bipush 6, 2) := by decide +kernel
theorem dX4_wins3_16 : decode cX4_wins3 16 = .ok (.iload_n 1, 1) := by decide +kernel
theorem dX4_wins3_17 : decode cX4_wins3 17 = .ok (.iadd, 1) := by decide +kernel
theorem dX4_wins3_18 : decode cX4_wins3 18 = .ok (.iaload, 1) := by decide +kernel
theorem dX4_wins3_19 : decode cX4_wins3 19 = .ok (.if_icmp .ge 46, 3) := by decide +kernel
theorem dX4_wins3_22 : decode cX4_wins3 22 = .ok (.aload_n 0, 1) := by decide +kernel
theorem dX4_wins3_23 : decode cX4_wins3 23 = .ok (.iconst 3, 1) := by decide +kernel
theorem dX4_wins3_24 : decode cX4_wins3 24 = .ok (.iload_n 1, 1) := by decide +kernel
theorem dX4_wins3_25 : decode cX4_wins3 25 = .ok (.iload_n 2, 1) := by decide +kernel
theorem dX4_wins3_26 : decode cX4_wins3 26 = .ok (.invokevirtual 110, 3) := by decide +kernel
theorem dX4_wins3_29 : decode cX4_wins3 29 = .ok (.istore_n 3, 1) := by decide +kernel
theorem dX4_wins3_30 : decode cX4_wins3 30 = .ok (.iload_n 3, 1) := by decide +kernel
theorem dX4_wins3_31 : decode cX4_wins3 31 = .ok (.aload_n 0, 1) := by decide +kernel
theorem dX4_wins3_32 : decode cX4_wins3 32 = .ok (.iconst 3, 1) := by decide +kernel
theorem dX4_wins3_33 : decode cX4_wins3 33 = .ok (.iload_n 1, 1) := by decide +kernel
theorem dX4_wins3_34 : decode cX4_wins3 34 = .ok (.iload_n 2, 1) := by decide +kernel
theorem dX4_wins3_35 : decode cX4_wins3 35 = .ok (.invokevirtual 118, 3) := by decide +kernel
theorem dX4_wins3_38 : decode cX4_wins3 38 = .ok (.if_icmp .gt 21, 3) := by decide +kernel
theorem dX4_wins3_41 : decode cX4_wins3 41 = .ok (.aload_n 0, 1) := by decide +kernel
theorem dX4_wins3_42 : decode cX4_wins3 42 = .ok (.iload_n 1, 1) := by decide +kernel
theorem dX4_wins3_43 : decode cX4_wins3 43 = .ok (.iload_n 2, 1) := by decide +kernel
theorem dX4_wins3_44 : decode cX4_wins3 44 = .ok (.iload_n 3, 1) := by decide +kernel
theorem dX4_wins3_45 : decode cX4_wins3 45 = .ok (.invokevirtual 144, 3) := by decide +kernel
theorem dX4_wins3_48 : decode cX4_wins3 48 = .ok (.ifCond .eq 5, 3) := by decide +kernel
theorem dX4_wins3_51 : decode cX4_wins3 51 = .ok (.iconst 1, 1) := by decide +kernel
theorem dX4_wins3_52 : decode cX4_wins3 52 = .ok (.ireturn, 1) := by decide +kernel
theorem dX4_wins3_53 : decode cX4_wins3 53 = .ok (.iinc 3 1, 3) := by decide +kernel
theorem dX4_wins3_56 : decode cX4_wins3 56 = .ok (.goto (-26), 3) := by decide +kernel
theorem dX4_wins3_59 : decode cX4_wins3 59 = .ok (.iinc 2 1, 3) := by decide +kernel
theorem dX4_wins3_62 : decode cX4_wins3 62 = .ok (.goto (-53), 3) := by decide +kernel
theorem dX4_wins3_65 : decode cX4_wins3 65 = .ok (.iinc 1 1, 3) := by decide +kernel
theorem dX4_wins3_68 : decode cX4_wins3 68 = .ok (.goto (-66), 3) := by decide +kernel
theorem dX4_wins3_71 : decode cX4_wins3 71 = .ok (.iconst 0, 1) := by decide +kernel
theorem dX4_wins3_72 : decode cX4_wins3 72 = .ok (.ireturn, 1) := by decide +kernel
theorem dX4_wins_0 : decode cX4_wins 0 = .ok (.iload_n 1, 1) := by decide +kernel
theorem dX4_wins_1 : decode cX4_wins 1 = .ok (.iconst 1, 1) := by decide +kernel
theorem dX4_wins_2 : decode cX4_wins 2 = .ok (.if_icmp .ne 10, 3) := by decide +kernel
theorem dX4_wins_5 : decode cX4_wins 5 = .ok (.aload_n 0, 1) := by decide +kernel
theorem dX4_wins_6 : decode cX4_wins 6 = .ok (.invokevirtual 131, 3) := by decide +kernel
theorem dX4_wins_9 : decode cX4_wins 9 = .ok (.goto 19, 3) := by decide +kernel
theorem dX4_wins_12 : decode cX4_wins 12 = .ok (.iload_n 1, 1) := by decide +kernel
theorem dX4_wins_13 : decode cX4_wins 13 = .ok (.iconst 2, 1) := by decide +kernel
theorem dX4_wins_14 : decode cX4_wins 14 = .ok (.if_icmp .ne 10, 3) := by decide +kernel
theorem dX4_wins_17 : decode cX4_wins 17 = .ok (.aload_n 0, 1) := by decide +kernel
theorem dX4_wins_18 : decode cX4_wins 18 = .ok (.invokevirtual 141, 3) := by decide +kernel
theorem dX4_wins_21 : decode cX4_wins 21 = .ok (.goto 7, 3) := by decide +kernel
theorem dX4_wins_24 : decode cX4_wins 24 = .ok (.aload_n 0, 1) := by decide +kernel
theorem dX4_wins_25 : decode cX4_wins 25 = .ok (.invokevirtual 147, 3) := by decide +kernel
theorem dX4_wins_28 : decode cX4_wins 28 = .ok (.ireturn, 1) := by decide +kernel
theorem dX4_starts_0 : decode cX4_starts 0 = .ok (.aload_n 0, 1) := by decide +kernel
theorem dX4_starts_1 : decode cX4_starts 1 = .ok (.iconst 2, 1) := by decide +kernel
theorem dX4_starts_2 : decode cX4_starts 2 = .ok (.iload_n 1, 1) := by decide +kernel
theorem dX4_starts_3 : decode cX4_starts 3 = .ok (.imul, 1) := by decide +kernel
theorem dX4_starts_4 : decode cX4_starts 4 = .ok (.iload_n 2, 1) := by decide +kernel
theorem dX4_starts_5 : decode cX4_starts 5 = .ok (.iconst 0, 1) := by decide +kernel
theorem dX4_starts_6 : decode cX4_starts 6 = .ok (.invokevirtual 100, 3) := by decide +kernel
theorem dX4_starts_9 : decode cX4_starts 9 = .ok (.aload_n 0, 1) := by decide +kernel
theorem dX4_starts_10 : decode cX4_starts 10 = .ok (.iconst 2, 1) := by decide +kernel
theorem dX4_starts_11 : decode cX4_starts 11 = .ok (.iload_n 1, 1) := by decide +kernel
theorem dX4_starts_12 : decode cX4_starts 12 = .ok (.imul, 1) := by decide +kernel
theorem dX4_starts_13 : decode cX4_starts 13 = .ok (.iconst 1, 1) := by decide +kernel
theorem dX4_starts_14 : decode cX4_starts 14 = .ok (.iadd, 1) := by decide +kernel
theorem dX4_starts_15 : decode cX4_starts 15 = .ok (.iload_n 3, 1) := by decide +kernel
theorem dX4_starts_16 : decode cX4_starts 16 = .ok (.iconst 0, 1) := by decide +kernel
theorem dX4_starts_17 : decode cX4_starts 17 = .ok (.invokevirtual 100, 3) := by decide +kernel
theorem dX4_starts_20 : decode cX4_starts 20 = .ok (.aload_n 0, 1) := by decide +kernel
theorem dX4_starts_21 : decode cX4_starts 21 = .ok (.getfield 59, 3) := by decide +kernel
theorem dX4_starts_24 : decode cX4_starts 24 = .ok (.iload_n 1, 1) := by decide +kernel
theorem dX4_starts_25 : decode cX4_starts 25 = .ok (.iconst 0, 1) := by decide +kernel
theorem dX4_starts_26 : decode cX4_starts 26 = .ok (.iastore, 1) := by decide +kernel
theorem dX4_starts_27 : decode cX4_starts 27 = .ok (.return_, 1) := by decide +kernel
theorem dX4_separated_0 : decode cX4_separated 0 = .ok (.iconst 1, 1) := by decide +kernel
theorem dX4_separated_1 : decode cX4_separated 1 = .ok (.istore_n 3, 1) := by decide +kernel
theorem dX4_separated_2 : decode cX4_separated 2 = .ok (.iload_n 3, 1) := by decide +kernel
theorem dX4_separated_3 : decode cX4_separated 3 = .ok (.iconst 4, 1) := by decide +kernel
theorem dX4_separated_4 : decode cX4_separated 4 = .ok (.if_icmp .ge 26, 3) := by decide +kernel
theorem dX4_separated_7 : decode cX4_separated 7 = .ok (.aload_n 0, 1) := by decide +kernel
theorem dX4_separated_8 : decode cX4_separated 8 = .ok (.iload_n 3, 1) := by decide +kernel
theorem dX4_separated_9 : decode cX4_separated 9 = .ok (.iload_n 1, 1) := by decide +kernel
theorem dX4_separated_10 : decode cX4_separated 10 = .ok (.iload_n 2, 1) := by decide +kernel
theorem dX4_separated_11 : decode cX4_separated 11 = .ok (.invokevirtual 150, 3) := by decide +kernel
theorem dX4_separated_14 : decode cX4_separated 14 = .ok (.aload_n 0, 1) := by decide +kernel
theorem dX4_separated_15 : decode cX4_separated 15 = .ok (.iload_n 3, 1) := by decide +kernel
theorem dX4_separated_16 : decode cX4_separated 16 = .ok (.invokevirtual 153, 3) := by decide +kernel
theorem dX4_separated_19 : decode cX4_separated 19 = .ok (.ifCond .eq 5, 3) := by decide +kernel
theorem dX4_separated_22 : decode cX4_separated 22 = .ok (.iload_n 3, 1) := by decide +kernel
theorem dX4_separated_23 : decode cX4_separated 23 = .ok (.ireturn, 1) := by decide +kernel
theorem dX4_separated_24 : decode cX4_separated 24 = .ok (.iinc 3 1, 3) := by decide +kernel
theorem dX4_separated_27 : decode cX4_separated 27 = .ok (.goto (-25), 3) := by decide +kernel
theorem dX4_separated_30 : decode cX4_separated 30 = .ok (.iconst 0, 1) := by decide +kernel
theorem dX4_separated_31 : decode cX4_separated 31 = .ok (.ireturn, 1) := by decide +kernel
theorem dX4_pairError_0 : decode cX4_pairError 0 = .ok (.aload_n 0, 1) := by decide +kernel
theorem dX4_pairError_1 : decode cX4_pairError 1 = .ok (.iload_n 1, 1) := by decide +kernel
theorem dX4_pairError_2 : decode cX4_pairError 2 = .ok (.invokevirtual 77, 3) := by decide +kernel
theorem dX4_pairError_5 : decode cX4_pairError 5 = .ok (.ifCond .eq 20, 3) := by decide +kernel
theorem dX4_pairError_8 : decode cX4_pairError 8 = .ok (.aload_n 0, 1) := by decide +kernel
theorem dX4_pairError_9 : decode cX4_pairError 9 = .ok (.iload_n 2, 1) := by decide +kernel
theorem dX4_pairError_10 : decode cX4_pairError 10 = .ok (.invokevirtual 77, 3) := by decide +kernel
theorem dX4_pairError_13 : decode cX4_pairError 13 = .ok (.ifCond .eq 12, 3) := by decide +kernel
theorem dX4_pairError_16 : decode cX4_pairError 16 = .ok (.iload_n 3, 1) := by decide +kernel
theorem dX4_pairError_17 : decode cX4_pairError 17 = .ok (.iconst 0, 1) := by decide +kernel
theorem dX4_pairError_18 : decode cX4_pairError 18 = .ok (.iconst 2, 1) := by decide +kernel
theorem dX4_pairError_19 : decode cX4_pairError 19 = .ok (.invokestatic 65, 3) := by decide +kernel
theorem dX4_pairError_22 : decode cX4_pairError 22 = .ok (.ifCond .ne 5, 3) := by decide +kernel
theorem dX4_pairError_25 : decode cX4_pairError 25 = .ok (.iconst (-1), 1) := by decide +kernel
theorem dX4_pairError_26 : decode cX4_pairError 26 = .ok (.ireturn, 1) := by decide +kernel
theorem dX4_pairError_27 : decode cX4_pairError 27 = .ok (.aload_n 0, 1) := by decide +kernel
theorem dX4_pairError_28 : decode cX4_pairError 28 = .ok (.iload_n 3, 1) := by decide +kernel
theorem dX4_pairError_29 : decode cX4_pairError 29 = .ok (.putfield 107, 3) := by decide +kernel
theorem dX4_pairError_32 : decode cX4_pairError 32 = .ok (.aload_n 0, 1) := by decide +kernel
theorem dX4_pairError_33 : decode cX4_pairError 33 = .ok (.getfield 35, 3) := by decide +kernel
theorem dX4_pairError_36 : decode cX4_pairError 36 = .ok (.iload_n 1, 1) := by decide +kernel
theorem dX4_pairError_37 : decode cX4_pairError 37 = .ok (.iaload, 1) := by decide +kernel
theorem dX4_pairError_38 : decode cX4_pairError 38 = .ok (.ifCond .gt 12, 3) := by decide +kernel
theorem dX4_pairError_41 : decode cX4_pairError 41 = .ok (.aload_n 0, 1) := by decide +kernel
theorem dX4_pairError_42 : decode cX4_pairError 42 = .ok (.getfield 35, 3) := by decide +kernel
theorem dX4_pairError_45 : decode cX4_pairError 45 = .ok (.iload_n 2, 1) := by decide +kernel
theorem dX4_pairError_46 : decode cX4_pairError 46 = .ok (.iaload, 1) := by decide +kernel
theorem dX4_pairError_47 : decode cX4_pairError 47 = .ok (.ifCond .le 8, 3) := by decide +kernel
theorem dX4_pairError_50 : decode cX4_pairError 50 = .ok (.bipush (-2), 2) := by decide +kernel
theorem dX4_pairError_52 : decode cX4_pairError 52 = .ok (.goto 4, 3) := by decide +kernel
theorem dX4_pairError_55 : decode cX4_pairError 55 = .ok (.iconst 0, 1) := by decide +kernel
theorem dX4_pairError_56 : decode cX4_pairError 56 = .ok (.ireturn, 1) := by decide +kernel
theorem dX4_areRelated_0 : decode cX4_areRelated 0 = .ok (.aload_n 0, 1) := by decide +kernel
theorem dX4_areRelated_1 : decode cX4_areRelated 1 = .ok (.iload_n 1, 1) := by decide +kernel
theorem dX4_areRelated_2 : decode cX4_areRelated 2 = .ok (.iload_n 2, 1) := by decide +kernel
theorem dX4_areRelated_3 : decode cX4_areRelated 3 = .ok (.iload_n 3, 1) := by decide +kernel
theorem dX4_areRelated_4 : decode cX4_areRelated 4 = .ok (.invokevirtual 156, 3) := by decide +kernel
theorem dX4_areRelated_7 : decode cX4_areRelated 7 = .ok (.istore 4, 2) := by decide +kernel
theorem dX4_areRelated_9 : decode cX4_areRelated 9 = .ok (.iload 4, 2) := by decide +kernel
theorem dX4_areRelated_11 : decode cX4_areRelated 11 = .ok (.ifCond .ge 8, 3) := by decide +kernel
theorem dX4_areRelated_14 : decode cX4_areRelated 14 = .ok (.iload 4, 2) := by decide +kernel
theorem dX4_areRelated_16 : decode cX4_areRelated 16 = .ok (.goto 17, 3) := by decide +kernel
theorem dX4_areRelated_19 : decode cX4_areRelated 19 = .ok (.aload_n 0, 1) := by decide +kernel
theorem dX4_areRelated_20 : decode cX4_areRelated 20 = .ok (.iload_n 1, 1) := by decide +kernel
theorem dX4_areRelated_21 : decode cX4_areRelated 21 = .ok (.iload_n 2, 1) := by decide +kernel
theorem dX4_areRelated_22 : decode cX4_areRelated 22 = .ok (.invokevirtual 159, 3) := by decide +kernel
theorem dX4_areRelated_25 : decode cX4_areRelated 25 = .ok (.ifCond .ne 7, 3) := by decide +kernel
theorem dX4_areRelated_28 : decode cX4_areRelated 28 = .ok (.iconst 1, 1) := by decide +kernel
theorem dX4_areRelated_29 : decode cX4_areRelated 29 = .ok (.goto 4, 3) := by decide +kernel
theorem dX4_areRelated_32 : decode cX4_areRelated 32 = .ok (.iconst 0, 1) := by decide +kernel
theorem dX4_areRelated_33 : decode cX4_areRelated 33 = .ok (.ireturn, 1) := by decide +kernel
theorem dX4_rounds_0 : decode cX4_rounds 0 = .ok (.aload_n 0, 1) := by decide +kernel
theorem dX4_rounds_1 : decode cX4_rounds 1 = .ok (.iload_n 1, 1) := by decide +kernel
theorem dX4_rounds_2 : decode cX4_rounds 2 = .ok (.iload_n 2, 1) := by decide +kernel
theorem dX4_rounds_3 : decode cX4_rounds 3 = .ok (.iload_n 3, 1) := by decide +kernel
theorem dX4_rounds_4 : decode cX4_rounds 4 = .ok (.invokevirtual 156, 3) := by decide +kernel
theorem dX4_rounds_7 : decode cX4_rounds 7 = .ok (.istore 4, 2) := by decide +kernel
theorem dX4_rounds_9 : decode cX4_rounds 9 = .ok (.iload 4, 2) := by decide +kernel
theorem dX4_rounds_11 : decode cX4_rounds 11 = .ok (.ifCond .ge 6, 3) := by decide +kernel
theorem dX4_rounds_14 : decode cX4_rounds 14 = .ok (.iload 4, 2) := by decide +kernel
theorem dX4_rounds_16 : decode cX4_rounds 16 = .ok (.ireturn, 1) := by decide +kernel
theorem dX4_rounds_17 : decode cX4_rounds 17 = .ok (.aload_n 0, 1) := by decide +kernel
theorem dX4_rounds_18 : decode cX4_rounds 18 = .ok (.iload_n 1, 1) := by decide +kernel
theorem dX4_rounds_19 : decode cX4_rounds 19 = .ok (.iload_n 2, 1) := by decide +kernel
theorem dX4_rounds_20 : decode cX4_rounds 20 = .ok (.invokevirtual 159, 3) := by decide +kernel
theorem dX4_rounds_23 : decode cX4_rounds 23 = .ok (.istore 5, 2) := by decide +kernel
theorem dX4_rounds_25 : decode cX4_rounds 25 = .ok (.iload 5, 2) := by decide +kernel
theorem dX4_rounds_27 : decode cX4_rounds 27 = .ok (.ifCond .ne 8, 3) := by decide +kernel
theorem dX4_rounds_30 : decode cX4_rounds 30 = .ok (.bipush (-4), 2) := by decide +kernel
theorem dX4_rounds_32 : decode cX4_rounds 32 = .ok (.goto 5, 3) := by decide +kernel
theorem dX4_rounds_35 : decode cX4_rounds 35 = .ok (.iload 5, 2) := by decide +kernel
theorem dX4_rounds_37 : decode cX4_rounds 37 = .ok (.ireturn, 1) := by decide +kernel
theorem dX4_holds_0 : decode cX4_holds 0 = .ok (.iload_n 1, 1) := by decide +kernel
theorem dX4_holds_1 : decode cX4_holds 1 = .ok (.iconst 1, 1) := by decide +kernel
theorem dX4_holds_2 : decode cX4_holds 2 = .ok (.if_icmp .ne 14, 3) := by decide +kernel
theorem dX4_holds_5 : decode cX4_holds 5 = .ok (.aload_n 0, 1) := by decide +kernel
theorem dX4_holds_6 : decode cX4_holds 6 = .ok (.iload_n 2, 1) := by decide +kernel
theorem dX4_holds_7 : decode cX4_holds 7 = .ok (.iload_n 3, 1) := by decide +kernel
theorem dX4_holds_8 : decode cX4_holds 8 = .ok (.iload 4, 2) := by decide +kernel
theorem dX4_holds_10 : decode cX4_holds 10 = .ok (.invokevirtual 121, 3) := by decide +kernel
theorem dX4_holds_13 : decode cX4_holds 13 = .ok (.goto 27, 3) := by decide +kernel
theorem dX4_holds_16 : decode cX4_holds 16 = .ok (.iload_n 1, 1) := by decide +kernel
theorem dX4_holds_17 : decode cX4_holds 17 = .ok (.iconst 2, 1) := by decide +kernel
theorem dX4_holds_18 : decode cX4_holds 18 = .ok (.if_icmp .ne 14, 3) := by decide +kernel
theorem dX4_holds_21 : decode cX4_holds 21 = .ok (.aload_n 0, 1) := by decide +kernel
theorem dX4_holds_22 : decode cX4_holds 22 = .ok (.iload_n 2, 1) := by decide +kernel
theorem dX4_holds_23 : decode cX4_holds 23 = .ok (.iload_n 3, 1) := by decide +kernel
theorem dX4_holds_24 : decode cX4_holds 24 = .ok (.iload 4, 2) := by decide +kernel
theorem dX4_holds_26 : decode cX4_holds 26 = .ok (.invokevirtual 135, 3) := by decide +kernel
theorem dX4_holds_29 : decode cX4_holds 29 = .ok (.goto 11, 3) := by decide +kernel
theorem dX4_holds_32 : decode cX4_holds 32 = .ok (.aload_n 0, 1) := by decide +kernel
theorem dX4_holds_33 : decode cX4_holds 33 = .ok (.iload_n 2, 1) := by decide +kernel
theorem dX4_holds_34 : decode cX4_holds 34 = .ok (.iload_n 3, 1) := by decide +kernel
theorem dX4_holds_35 : decode cX4_holds 35 = .ok (.iload 4, 2) := by decide +kernel
theorem dX4_holds_37 : decode cX4_holds 37 = .ok (.invokevirtual 144, 3) := by decide +kernel
theorem dX4_holds_40 : decode cX4_holds 40 = .ok (.ireturn, 1) := by decide +kernel
theorem dX4_firstAttack_0 : decode cX4_firstAttack 0 = .ok (.aload_n 0, 1) := by decide +kernel
theorem dX4_firstAttack_1 : decode cX4_firstAttack 1 = .ok (.iload_n 1, 1) := by decide +kernel
theorem dX4_firstAttack_2 : decode cX4_firstAttack 2 = .ok (.iload_n 2, 1) := by decide +kernel
theorem dX4_firstAttack_3 : decode cX4_firstAttack 3 = .ok (.iload_n 3, 1) := by decide +kernel
theorem dX4_firstAttack_4 : decode cX4_firstAttack 4 = .ok (.invokevirtual 156, 3) := by decide +kernel
theorem dX4_firstAttack_7 : decode cX4_firstAttack 7 = .ok (.istore 4, 2) := by decide +kernel
theorem dX4_firstAttack_9 : decode cX4_firstAttack 9 = .ok (.iload 4, 2) := by decide +kernel
theorem dX4_firstAttack_11 : decode cX4_firstAttack 11 = .ok (.ifCond .ge 6, 3) := by decide +kernel
theorem dX4_firstAttack_14 : decode cX4_firstAttack 14 = .ok (.iload 4, 2) := by decide +kernel
theorem dX4_firstAttack_16 : decode cX4_firstAttack 16 = .ok (.ireturn, 1) := by decide +kernel
theorem dX4_firstAttack_17 : decode cX4_firstAttack 17 = .ok (.aload_n 0, 1) := by decide +kernel
theorem dX4_firstAttack_18 : decode cX4_firstAttack 18 = .ok (.iload_n 1, 1) := by decide +kernel
theorem dX4_firstAttack_19 : decode cX4_firstAttack 19 = .ok (.iload_n 2, 1) := by decide +kernel
theorem dX4_firstAttack_20 : decode cX4_firstAttack 20 = .ok (.invokevirtual 159, 3) := by decide +kernel
theorem dX4_firstAttack_23 : decode cX4_firstAttack 23 = .ok (.istore 5, 2) := by decide +kernel
theorem dX4_firstAttack_25 : decode cX4_firstAttack 25 = .ok (.iload 5, 2) := by decide +kernel
theorem dX4_firstAttack_27 : decode cX4_firstAttack 27 = .ok (.ifCond .ne 6, 3) := by decide +kernel
theorem dX4_firstAttack_30 : decode cX4_firstAttack 30 = .ok (.bipush (-4), 2) := by decide +kernel
theorem dX4_firstAttack_32 : decode cX4_firstAttack 32 = .ok (.ireturn, 1) := by decide +kernel
theorem dX4_firstAttack_33 : decode cX4_firstAttack 33 = .ok (.aload_n 0, 1) := by decide +kernel
theorem dX4_firstAttack_34 : decode cX4_firstAttack 34 = .ok (.iload 5, 2) := by decide +kernel
theorem dX4_firstAttack_36 : decode cX4_firstAttack 36 = .ok (.iload_n 1, 1) := by decide +kernel
theorem dX4_firstAttack_37 : decode cX4_firstAttack 37 = .ok (.iload_n 2, 1) := by decide +kernel
theorem dX4_firstAttack_38 : decode cX4_firstAttack 38 = .ok (.invokevirtual 150, 3) := by decide +kernel
theorem dX4_firstAttack_41 : decode cX4_firstAttack 41 = .ok (.iconst 0, 1) := by decide +kernel
theorem dX4_firstAttack_42 : decode cX4_firstAttack 42 = .ok (.istore 6, 2) := by decide +kernel
theorem dX4_firstAttack_44 : decode cX4_firstAttack 44 = .ok (.iload 6, 2) := by decide +kernel
theorem dX4_firstAttack_46 : decode cX4_firstAttack 46 = .ok (.iconst 2, 1) := by decide +kernel
theorem dX4_firstAttack_47 : decode cX4_firstAttack 47 = .ok (.if_icmp .ge 116, 3) := by decide +kernel
theorem dX4_firstAttack_50 : decode cX4_firstAttack 50 = .ok (.iconst 0, 1) := by decide +kernel
theorem dX4_firstAttack_51 : decode cX4_firstAttack 51 = .ok (.istore 7, 2) := by decide +kernel
theorem dX4_firstAttack_53 : decode cX4_firstAttack 53 = .ok (.iload 7, 2) := by decide +kernel
theorem dX4_firstAttack_55 : decode cX4_firstAttack 55 = .ok (.aload_n 0, 1) := by decide +kernel
theorem dX4_firstAttack_56 : decode cX4_firstAttack 56 = .ok (.getfield 41, 3) := by decide +kernel
theorem dX4_firstAttack_59 : decode cX4_firstAttack 59 = .ok (.iconst 2, 1) := by decide +kernel
theorem dX4_firstAttack_60 : decode cX4_firstAttack 60 = .ok (.iload 5, 2) := by decide +kernel
theorem dX4_firstAttack_62 : decode cX4_firstAttack 62 = .ok (.imul, 1) := by decide +kernel
theorem dX4_firstAttack_63 : decode cX4_firstAttack 63 = .ok (.iload 6, 2) := by decide +kernel
theorem dX4_firstAttack_65 : decode cX4_firstAttack 65 = .ok (.iadd, 1) := by decide +kernel
theorem dX4_firstAttack_66 : decode cX4_firstAttack 66 = .ok (.iaload, 1) := by decide +kernel
theorem dX4_firstAttack_67 : decode cX4_firstAttack 67 = .ok (.if_icmp .ge 90, 3) := by decide +kernel
theorem dX4_firstAttack_70 : decode cX4_firstAttack 70 = .ok (.aload_n 0, 1) := by decide +kernel
theorem dX4_firstAttack_71 : decode cX4_firstAttack 71 = .ok (.iload 5, 2) := by decide +kernel
theorem dX4_firstAttack_73 : decode cX4_firstAttack 73 = .ok (.iload 6, 2) := by decide +kernel
theorem dX4_firstAttack_75 : decode cX4_firstAttack 75 = .ok (.iload 7, 2) := by decide +kernel
theorem dX4_firstAttack_77 : decode cX4_firstAttack 77 = .ok (.invokevirtual 110, 3) := by decide +kernel
theorem dX4_firstAttack_80 : decode cX4_firstAttack 80 = .ok (.istore 8, 2) := by decide +kernel
theorem dX4_firstAttack_82 : decode cX4_firstAttack 82 = .ok (.iload 8, 2) := by decide +kernel
theorem dX4_firstAttack_84 : decode cX4_firstAttack 84 = .ok (.aload_n 0, 1) := by decide +kernel
theorem dX4_firstAttack_85 : decode cX4_firstAttack 85 = .ok (.iload 5, 2) := by decide +kernel
theorem dX4_firstAttack_87 : decode cX4_firstAttack 87 = .ok (.iload 6, 2) := by decide +kernel
theorem dX4_firstAttack_89 : decode cX4_firstAttack 89 = .ok (.iload 7, 2) := by decide +kernel
theorem dX4_firstAttack_91 : decode cX4_firstAttack 91 = .ok (.invokevirtual 118, 3) := by decide +kernel
theorem dX4_firstAttack_94 : decode cX4_firstAttack 94 = .ok (.if_icmp .gt 57, 3) := by decide +kernel
theorem dX4_firstAttack_97 : decode cX4_firstAttack 97 = .ok (.aload_n 0, 1) := by decide +kernel
theorem dX4_firstAttack_98 : decode cX4_firstAttack 98 = .ok (.iload 5, 2) := by decide +kernel
theorem dX4_firstAttack_100 : decode cX4_firstAttack 100 = .ok (.iload 6, 2) := by decide +kernel
theorem dX4_firstAttack_102 : decode cX4_firstAttack 102 = .ok (.iload 7, 2) := by decide +kernel
theorem dX4_firstAttack_104 : decode cX4_firstAttack 104 = .ok (.iload 8, 2) := by decide +kernel
theorem dX4_firstAttack_106 : decode cX4_firstAttack 106 = .ok (.invokevirtual 162, 3) := by decide +kernel
theorem dX4_firstAttack_109 : decode cX4_firstAttack 109 = .ok (.ifCond .eq 36, 3) := by decide +kernel
theorem dX4_firstAttack_112 : decode cX4_firstAttack 112 = .ok (.sipush 1000, 3) := by decide +kernel
theorem dX4_firstAttack_115 : decode cX4_firstAttack 115 = .ok (.iload 6, 2) := by decide +kernel
theorem dX4_firstAttack_117 : decode cX4_firstAttack 117 = .ok (.imul, 1) := by decide +kernel
theorem dX4_firstAttack_118 : decode cX4_firstAttack 118 = .ok (.bipush 10, 2) := by decide +kernel
theorem dX4_firstAttack_120 : decode cX4_firstAttack 120 = .ok (.iload 7, 2) := by decide +kernel
theorem dX4_firstAttack_122 : decode cX4_firstAttack 122 = .ok (.imul, 1) := by decide +kernel
theorem dX4_firstAttack_123 : decode cX4_firstAttack 123 = .ok (.iadd, 1) := by decide +kernel
theorem dX4_firstAttack_124 : decode cX4_firstAttack 124 = .ok (.iload_n 3, 1) := by decide +kernel
theorem dX4_firstAttack_125 : decode cX4_firstAttack 125 = .ok (.iconst 1, 1) := by decide +kernel
theorem dX4_firstAttack_126 : decode cX4_firstAttack 126 = .ok (.if_icmp .ne 15, 3) := by decide +kernel
theorem dX4_firstAttack_129 : decode cX4_firstAttack 129 = .ok (.iload 8, 2) := by decide +kernel
theorem dX4_firstAttack_131 : decode cX4_firstAttack 131 = .ok (.bipush 6, 2) := by decide +kernel
theorem dX4_firstAttack_133 : decode cX4_firstAttack 133 = .ok (.if_icmp .ge 8, 3) := by decide +kernel
theorem dX4_firstAttack_136 : decode cX4_firstAttack 136 = .ok (.iload 8, 2) := by decide +kernel
theorem dX4_firstAttack_138 : decode cX4_firstAttack 138 = .ok (.goto 5, 3) := by decide +kernel
theorem dX4_firstAttack_141 : decode cX4_firstAttack 141 = .ok (.bipush 9, 2) := by decide +kernel
theorem dX4_firstAttack_143 : decode cX4_firstAttack 143 = .ok (.iadd, 1) := by decide +kernel
theorem dX4_firstAttack_144 : decode cX4_firstAttack 144 = .ok (.ireturn, 1) := by decide +kernel
theorem dX4_firstAttack_145 : decode cX4_firstAttack 145 = .ok (.iinc 8 1, 3) := by decide +kernel
theorem dX4_firstAttack_148 : decode cX4_firstAttack 148 = .ok (.goto (-66), 3) := by decide +kernel
theorem dX4_firstAttack_151 : decode cX4_firstAttack 151 = .ok (.iinc 7 1, 3) := by decide +kernel
theorem dX4_firstAttack_154 : decode cX4_firstAttack 154 = .ok (.goto (-101), 3) := by decide +kernel
theorem dX4_firstAttack_157 : decode cX4_firstAttack 157 = .ok (.iinc 6 1, 3) := by decide +kernel
theorem dX4_firstAttack_160 : decode cX4_firstAttack 160 = .ok (.goto (-116), 3) := by decide +kernel
theorem dX4_firstAttack_163 : decode cX4_firstAttack 163 = .ok (.bipush (-4), 2) := by decide +kernel
theorem dX4_firstAttack_165 : decode cX4_firstAttack 165 = .ok (.ireturn, 1) := by decide +kernel
theorem dX4_least_0 : decode cX4_least 0 = .ok (.iconst 0, 1) := by decide +kernel
theorem dX4_least_1 : decode cX4_least 1 = .ok (.istore_n 2, 1) := by decide +kernel
theorem dX4_least_2 : decode cX4_least 2 = .ok (.aload_n 0, 1) := by decide +kernel
theorem dX4_least_3 : decode cX4_least 3 = .ok (.getfield 35, 3) := by decide +kernel
theorem dX4_least_6 : decode cX4_least 6 = .ok (.iload_n 2, 1) := by decide +kernel
theorem dX4_least_7 : decode cX4_least 7 = .ok (.iaload, 1) := by decide +kernel
theorem dX4_least_8 : decode cX4_least 8 = .ok (.ifCond .gt 12, 3) := by decide +kernel
theorem dX4_least_11 : decode cX4_least 11 = .ok (.aload_n 0, 1) := by decide +kernel
theorem dX4_least_12 : decode cX4_least 12 = .ok (.iload_n 2, 1) := by decide +kernel
theorem dX4_least_13 : decode cX4_least 13 = .ok (.iload_n 1, 1) := by decide +kernel
theorem dX4_least_14 : decode cX4_least 14 = .ok (.invokevirtual 159, 3) := by decide +kernel
theorem dX4_least_17 : decode cX4_least 17 = .ok (.ifCond .le 9, 3) := by decide +kernel
theorem dX4_least_20 : decode cX4_least 20 = .ok (.iinc 2 1, 3) := by decide +kernel
theorem dX4_least_23 : decode cX4_least 23 = .ok (.goto (-21), 3) := by decide +kernel
theorem dX4_least_26 : decode cX4_least 26 = .ok (.iload_n 2, 1) := by decide +kernel
theorem dX4_least_27 : decode cX4_least 27 = .ok (.ireturn, 1) := by decide +kernel
theorem dX4_representative_0 : decode cX4_representative 0 = .ok (.aload_n 0, 1) := by decide +kernel
theorem dX4_representative_1 : decode cX4_representative 1 = .ok (.iload_n 1, 1) := by decide +kernel
theorem dX4_representative_2 : decode cX4_representative 2 = .ok (.iload_n 1, 1) := by decide +kernel
theorem dX4_representative_3 : decode cX4_representative 3 = .ok (.iload_n 2, 1) := by decide +kernel
theorem dX4_representative_4 : decode cX4_representative 4 = .ok (.invokevirtual 156, 3) := by decide +kernel
theorem dX4_representative_7 : decode cX4_representative 7 = .ok (.istore_n 3, 1) := by decide +kernel
theorem dX4_representative_8 : decode cX4_representative 8 = .ok (.iload_n 3, 1) := by decide +kernel
theorem dX4_representative_9 : decode cX4_representative 9 = .ok (.ifCond .ge 7, 3) := by decide +kernel
theorem dX4_representative_12 : decode cX4_representative 12 = .ok (.iload_n 3, 1) := by decide +kernel
theorem dX4_representative_13 : decode cX4_representative 13 = .ok (.goto 8, 3) := by decide +kernel
theorem dX4_representative_16 : decode cX4_representative 16 = .ok (.aload_n 0, 1) := by decide +kernel
theorem dX4_representative_17 : decode cX4_representative 17 = .ok (.iload_n 1, 1) := by decide +kernel
theorem dX4_representative_18 : decode cX4_representative 18 = .ok (.invokevirtual 165, 3) := by decide +kernel
theorem dX4_representative_21 : decode cX4_representative 21 = .ok (.ireturn, 1) := by decide +kernel
theorem dX4_classCount_0 : decode cX4_classCount 0 = .ok (.iload_n 1, 1) := by decide +kernel
theorem dX4_classCount_1 : decode cX4_classCount 1 = .ok (.iconst 0, 1) := by decide +kernel
theorem dX4_classCount_2 : decode cX4_classCount 2 = .ok (.iconst 2, 1) := by decide +kernel
theorem dX4_classCount_3 : decode cX4_classCount 3 = .ok (.invokestatic 65, 3) := by decide +kernel
theorem dX4_classCount_6 : decode cX4_classCount 6 = .ok (.ifCond .ne 5, 3) := by decide +kernel
theorem dX4_classCount_9 : decode cX4_classCount 9 = .ok (.iconst (-1), 1) := by decide +kernel
theorem dX4_classCount_10 : decode cX4_classCount 10 = .ok (.ireturn, 1) := by decide +kernel
theorem dX4_classCount_11 : decode cX4_classCount 11 = .ok (.aload_n 0, 1) := by decide +kernel
theorem dX4_classCount_12 : decode cX4_classCount 12 = .ok (.iload_n 1, 1) := by decide +kernel
theorem dX4_classCount_13 : decode cX4_classCount 13 = .ok (.putfield 107, 3) := by decide +kernel
theorem dX4_classCount_16 : decode cX4_classCount 16 = .ok (.iconst 0, 1) := by decide +kernel
theorem dX4_classCount_17 : decode cX4_classCount 17 = .ok (.istore_n 2, 1) := by decide +kernel
theorem dX4_classCount_18 : decode cX4_classCount 18 = .ok (.iconst 0, 1) := by decide +kernel
theorem dX4_classCount_19 : decode cX4_classCount 19 = .ok (.istore_n 3, 1) := by decide +kernel
theorem dX4_classCount_20 : decode cX4_classCount 20 = .ok (.iload_n 3, 1) := by decide +kernel
theorem dX4_classCount_21 : decode cX4_classCount 21 = .ok (.aload_n 0, 1) := by decide +kernel
theorem dX4_classCount_22 : decode cX4_classCount 22 = .ok (.getfield 7, 3) := by decide +kernel
theorem dX4_classCount_25 : decode cX4_classCount 25 = .ok (.if_icmp .ge 35, 3) := by decide +kernel
theorem dX4_classCount_28 : decode cX4_classCount 28 = .ok (.iload_n 2, 1) := by decide +kernel
theorem dX4_classCount_29 : decode cX4_classCount 29 = .ok (.aload_n 0, 1) := by decide +kernel
theorem dX4_classCount_30 : decode cX4_classCount 30 = .ok (.getfield 35, 3) := by decide +kernel
theorem dX4_classCount_33 : decode cX4_classCount 33 = .ok (.iload_n 3, 1) := by decide +kernel
theorem dX4_classCount_34 : decode cX4_classCount 34 = .ok (.iaload, 1) := by decide +kernel
theorem dX4_classCount_35 : decode cX4_classCount 35 = .ok (.ifCond .ne 16, 3) := by decide +kernel
theorem dX4_classCount_38 : decode cX4_classCount 38 = .ok (.aload_n 0, 1) := by decide +kernel
theorem dX4_classCount_39 : decode cX4_classCount 39 = .ok (.iload_n 3, 1) := by decide +kernel
theorem dX4_classCount_40 : decode cX4_classCount 40 = .ok (.invokevirtual 165, 3) := by decide +kernel
theorem dX4_classCount_43 : decode cX4_classCount 43 = .ok (.iload_n 3, 1) := by decide +kernel
theorem dX4_classCount_44 : decode cX4_classCount 44 = .ok (.if_icmp .ne 7, 3) := by decide +kernel
theorem dX4_classCount_47 : decode cX4_classCount 47 = .ok (.iconst 1, 1) := by decide +kernel
theorem dX4_classCount_48 : decode cX4_classCount 48 = .ok (.goto 4, 3) := by decide +kernel
theorem dX4_classCount_51 : decode cX4_classCount 51 = .ok (.iconst 0, 1) := by decide +kernel
theorem dX4_classCount_52 : decode cX4_classCount 52 = .ok (.iadd, 1) := by decide +kernel
theorem dX4_classCount_53 : decode cX4_classCount 53 = .ok (.istore_n 2, 1) := by decide +kernel
theorem dX4_classCount_54 : decode cX4_classCount 54 = .ok (.iinc 3 1, 3) := by decide +kernel
theorem dX4_classCount_57 : decode cX4_classCount 57 = .ok (.goto (-37), 3) := by decide +kernel
theorem dX4_classCount_60 : decode cX4_classCount 60 = .ok (.iload_n 2, 1) := by decide +kernel
theorem dX4_classCount_61 : decode cX4_classCount 61 = .ok (.ireturn, 1) := by decide +kernel
end
section
theorem dL_law_0 : decode cL_law 0 = .ok (.new 7, 3) := by decide +kernel
theorem dL_law_3 : decode cL_law 3 = .ok (.dup, 1) := by decide +kernel
theorem dL_law_4 : decode cL_law 4 = .ok (.invokespecial 9, 3) := by decide +kernel
theorem dL_law_7 : decode cL_law 7 = .ok (.astore_n 1, 1) := by decide +kernel
theorem dL_law_8 : decode cL_law 8 = .ok (.new 10, 3) := by decide +kernel
theorem dL_law_11 : decode cL_law 11 = .ok (.dup, 1) := by decide +kernel
theorem dL_law_12 : decode cL_law 12 = .ok (.invokespecial 12, 3) := by decide +kernel
theorem dL_law_15 : decode cL_law 15 = .ok (.astore_n 2, 1) := by decide +kernel
theorem dL_law_16 : decode cL_law 16 = .ok (.iconst 0, 1) := by decide +kernel
theorem dL_law_17 : decode cL_law 17 = .ok (.istore_n 3, 1) := by decide +kernel
theorem dL_law_18 : decode cL_law 18 = .ok (.iload_n 3, 1) := by decide +kernel
theorem dL_law_19 : decode cL_law 19 = .ok (.aload_n 0, 1) := by decide +kernel
theorem dL_law_20 : decode cL_law 20 = .ok (.arraylength, 1) := by decide +kernel
theorem dL_law_21 : decode cL_law 21 = .ok (.iconst 4, 1) := by decide +kernel
theorem dL_law_22 : decode cL_law 22 = .ok (.isub, 1) := by decide +kernel
theorem dL_law_23 : decode cL_law 23 = .ok (.if_icmp .gt 785, 3) := by decide +kernel
theorem dL_law_26 : decode cL_law 26 = .ok (.aload_n 0, 1) := by decide +kernel
theorem dL_law_27 : decode cL_law 27 = .ok (.iload_n 3, 1) := by decide +kernel
theorem dL_law_28 : decode cL_law 28 = .ok (.iaload, 1) := by decide +kernel
theorem dL_law_29 : decode cL_law 29 = .ok (.bipush 31, 2) := by decide +kernel
theorem dL_law_31 : decode cL_law 31 = .ok (.iand, 1) := by decide +kernel
theorem dL_law_32 : decode cL_law 32 = .ok (.tableswitch 770 0 21 #[104, 127, 170, 203, 246, 279, 292, 305, 328, 361, 384, 407, 430, 463, 486, 519, 552, 585, 628, 671, 714, 747], 104) := by decide +kernel
theorem dL_law_136 : decode cL_law 136 = .ok (.aload_n 1, 1) := by decide +kernel
theorem dL_law_137 : decode cL_law 137 = .ok (.aload_n 0, 1) := by decide +kernel
theorem dL_law_138 : decode cL_law 138 = .ok (.iload_n 3, 1) := by decide +kernel
theorem dL_law_139 : decode cL_law 139 = .ok (.iconst 1, 1) := by decide +kernel
theorem dL_law_140 : decode cL_law 140 = .ok (.iadd, 1) := by decide +kernel
theorem dL_law_141 : decode cL_law 141 = .ok (.iaload, 1) := by decide +kernel
theorem dL_law_142 : decode cL_law 142 = .ok (.invokevirtual 13, 3) := by decide +kernel
theorem dL_law_145 : decode cL_law 145 = .ok (.aload_n 2, 1) := by decide +kernel
theorem dL_law_146 : decode cL_law 146 = .ok (.aload_n 0, 1) := by decide +kernel
theorem dL_law_147 : decode cL_law 147 = .ok (.iload_n 3, 1) := by decide +kernel
theorem dL_law_148 : decode cL_law 148 = .ok (.iconst 1, 1) := by decide +kernel
theorem dL_law_149 : decode cL_law 149 = .ok (.iadd, 1) := by decide +kernel
theorem dL_law_150 : decode cL_law 150 = .ok (.iaload, 1) := by decide +kernel
theorem dL_law_151 : decode cL_law 151 = .ok (.invokevirtual 17, 3) := by decide +kernel
theorem dL_law_154 : decode cL_law 154 = .ok (.if_icmp .eq 648, 3) := by decide +kernel
theorem dL_law_157 : decode cL_law 157 = .ok (.iconst 0, 1) := by decide +kernel
theorem dL_law_158 : decode cL_law 158 = .ok (.ireturn, 1) := by decide +kernel
theorem dL_law_159 : decode cL_law 159 = .ok (.aload_n 1, 1) := by decide +kernel
theorem dL_law_160 : decode cL_law 160 = .ok (.aload_n 0, 1) := by decide +kernel
theorem dL_law_161 : decode cL_law 161 = .ok (.iload_n 3, 1) := by decide +kernel
theorem dL_law_162 : decode cL_law 162 = .ok (.iconst 1, 1) := by decide +kernel
theorem dL_law_163 : decode cL_law 163 = .ok (.iadd, 1) := by decide +kernel
theorem dL_law_164 : decode cL_law 164 = .ok (.iaload, 1) := by decide +kernel
theorem dL_law_165 : decode cL_law 165 = .ok (.aload_n 0, 1) := by decide +kernel
theorem dL_law_166 : decode cL_law 166 = .ok (.iload_n 3, 1) := by decide +kernel
theorem dL_law_167 : decode cL_law 167 = .ok (.iconst 2, 1) := by decide +kernel
theorem dL_law_168 : decode cL_law 168 = .ok (.iadd, 1) := by decide +kernel
theorem dL_law_169 : decode cL_law 169 = .ok (.iaload, 1) := by decide +kernel
theorem dL_law_170 : decode cL_law 170 = .ok (.aload_n 0, 1) := by decide +kernel
theorem dL_law_171 : decode cL_law 171 = .ok (.iload_n 3, 1) := by decide +kernel
theorem dL_law_172 : decode cL_law 172 = .ok (.iconst 3, 1) := by decide +kernel
theorem dL_law_173 : decode cL_law 173 = .ok (.iadd, 1) := by decide +kernel
theorem dL_law_174 : decode cL_law 174 = .ok (.iaload, 1) := by decide +kernel
theorem dL_law_175 : decode cL_law 175 = .ok (.invokevirtual 18, 3) := by decide +kernel
theorem dL_law_178 : decode cL_law 178 = .ok (.aload_n 2, 1) := by decide +kernel
theorem dL_law_179 : decode cL_law 179 = .ok (.aload_n 0, 1) := by decide +kernel
theorem dL_law_180 : decode cL_law 180 = .ok (.iload_n 3, 1) := by decide +kernel
theorem dL_law_181 : decode cL_law 181 = .ok (.iconst 1, 1) := by decide +kernel
theorem dL_law_182 : decode cL_law 182 = .ok (.iadd, 1) := by decide +kernel
theorem dL_law_183 : decode cL_law 183 = .ok (.iaload, 1) := by decide +kernel
theorem dL_law_184 : decode cL_law 184 = .ok (.aload_n 0, 1) := by decide +kernel
theorem dL_law_185 : decode cL_law 185 = .ok (.iload_n 3, 1) := by decide +kernel
theorem dL_law_186 : decode cL_law 186 = .ok (.iconst 2, 1) := by decide +kernel
theorem dL_law_187 : decode cL_law 187 = .ok (.iadd, 1) := by decide +kernel
theorem dL_law_188 : decode cL_law 188 = .ok (.iaload, 1) := by decide +kernel
theorem dL_law_189 : decode cL_law 189 = .ok (.aload_n 0, 1) := by decide +kernel
theorem dL_law_190 : decode cL_law 190 = .ok (.iload_n 3, 1) := by decide +kernel
theorem dL_law_191 : decode cL_law 191 = .ok (.iconst 3, 1) := by decide +kernel
theorem dL_law_192 : decode cL_law 192 = .ok (.iadd, 1) := by decide +kernel
theorem dL_law_193 : decode cL_law 193 = .ok (.iaload, 1) := by decide +kernel
theorem dL_law_194 : decode cL_law 194 = .ok (.invokevirtual 22, 3) := by decide +kernel
theorem dL_law_197 : decode cL_law 197 = .ok (.if_icmp .eq 605, 3) := by decide +kernel
theorem dL_law_200 : decode cL_law 200 = .ok (.iconst 0, 1) := by decide +kernel
theorem dL_law_201 : decode cL_law 201 = .ok (.ireturn, 1) := by decide +kernel
theorem dL_law_202 : decode cL_law 202 = .ok (.aload_n 1, 1) := by decide +kernel
theorem dL_law_203 : decode cL_law 203 = .ok (.aload_n 0, 1) := by decide +kernel
theorem dL_law_204 : decode cL_law 204 = .ok (.iload_n 3, 1) := by decide +kernel
theorem dL_law_205 : decode cL_law 205 = .ok (.iconst 1, 1) := by decide +kernel
theorem dL_law_206 : decode cL_law 206 = .ok (.iadd, 1) := by decide +kernel
theorem dL_law_207 : decode cL_law 207 = .ok (.iaload, 1) := by decide +kernel
theorem dL_law_208 : decode cL_law 208 = .ok (.aload_n 0, 1) := by decide +kernel
theorem dL_law_209 : decode cL_law 209 = .ok (.iload_n 3, 1) := by decide +kernel
theorem dL_law_210 : decode cL_law 210 = .ok (.iconst 2, 1) := by decide +kernel
theorem dL_law_211 : decode cL_law 211 = .ok (.iadd, 1) := by decide +kernel
theorem dL_law_212 : decode cL_law 212 = .ok (.iaload, 1) := by decide +kernel
theorem dL_law_213 : decode cL_law 213 = .ok (.invokevirtual 23, 3) := by decide +kernel
theorem dL_law_216 : decode cL_law 216 = .ok (.aload_n 2, 1) := by decide +kernel
theorem dL_law_217 : decode cL_law 217 = .ok (.aload_n 0, 1) := by decide +kernel
theorem dL_law_218 : decode cL_law 218 = .ok (.iload_n 3, 1) := by decide +kernel
theorem dL_law_219 : decode cL_law 219 = .ok (.iconst 1, 1) := by decide +kernel
theorem dL_law_220 : decode cL_law 220 = .ok (.iadd, 1) := by decide +kernel
theorem dL_law_221 : decode cL_law 221 = .ok (.iaload, 1) := by decide +kernel
theorem dL_law_222 : decode cL_law 222 = .ok (.aload_n 0, 1) := by decide +kernel
theorem dL_law_223 : decode cL_law 223 = .ok (.iload_n 3, 1) := by decide +kernel
theorem dL_law_224 : decode cL_law 224 = .ok (.iconst 2, 1) := by decide +kernel
theorem dL_law_225 : decode cL_law 225 = .ok (.iadd, 1) := by decide +kernel
theorem dL_law_226 : decode cL_law 226 = .ok (.iaload, 1) := by decide +kernel
theorem dL_law_227 : decode cL_law 227 = .ok (.invokevirtual 27, 3) := by decide +kernel
theorem dL_law_230 : decode cL_law 230 = .ok (.if_icmp .eq 572, 3) := by decide +kernel
theorem dL_law_233 : decode cL_law 233 = .ok (.iconst 0, 1) := by decide +kernel
theorem dL_law_234 : decode cL_law 234 = .ok (.ireturn, 1) := by decide +kernel
theorem dL_law_235 : decode cL_law 235 = .ok (.aload_n 1, 1) := by decide +kernel
theorem dL_law_236 : decode cL_law 236 = .ok (.aload_n 0, 1) := by decide +kernel
theorem dL_law_237 : decode cL_law 237 = .ok (.iload_n 3, 1) := by decide +kernel
theorem dL_law_238 : decode cL_law 238 = .ok (.iconst 1, 1) := by decide +kernel
theorem dL_law_239 : decode cL_law 239 = .ok (.iadd, 1) := by decide +kernel
theorem dL_law_240 : decode cL_law 240 = .ok (.iaload, 1) := by decide +kernel
theorem dL_law_241 : decode cL_law 241 = .ok (.aload_n 0, 1) := by decide +kernel
theorem dL_law_242 : decode cL_law 242 = .ok (.iload_n 3, 1) := by decide +kernel
theorem dL_law_243 : decode cL_law 243 = .ok (.iconst 2, 1) := by decide +kernel
theorem dL_law_244 : decode cL_law 244 = .ok (.iadd, 1) := by decide +kernel
theorem dL_law_245 : decode cL_law 245 = .ok (.iaload, 1) := by decide +kernel
theorem dL_law_246 : decode cL_law 246 = .ok (.aload_n 0, 1) := by decide +kernel
theorem dL_law_247 : decode cL_law 247 = .ok (.iload_n 3, 1) := by decide +kernel
theorem dL_law_248 : decode cL_law 248 = .ok (.iconst 3, 1) := by decide +kernel
theorem dL_law_249 : decode cL_law 249 = .ok (.iadd, 1) := by decide +kernel
theorem dL_law_250 : decode cL_law 250 = .ok (.iaload, 1) := by decide +kernel
theorem dL_law_251 : decode cL_law 251 = .ok (.invokevirtual 28, 3) := by decide +kernel
theorem dL_law_254 : decode cL_law 254 = .ok (.aload_n 2, 1) := by decide +kernel
theorem dL_law_255 : decode cL_law 255 = .ok (.aload_n 0, 1) := by decide +kernel
theorem dL_law_256 : decode cL_law 256 = .ok (.iload_n 3, 1) := by decide +kernel
theorem dL_law_257 : decode cL_law 257 = .ok (.iconst 1, 1) := by decide +kernel
theorem dL_law_258 : decode cL_law 258 = .ok (.iadd, 1) := by decide +kernel
theorem dL_law_259 : decode cL_law 259 = .ok (.iaload, 1) := by decide +kernel
theorem dL_law_260 : decode cL_law 260 = .ok (.aload_n 0, 1) := by decide +kernel
theorem dL_law_261 : decode cL_law 261 = .ok (.iload_n 3, 1) := by decide +kernel
theorem dL_law_262 : decode cL_law 262 = .ok (.iconst 2, 1) := by decide +kernel
theorem dL_law_263 : decode cL_law 263 = .ok (.iadd, 1) := by decide +kernel
theorem dL_law_264 : decode cL_law 264 = .ok (.iaload, 1) := by decide +kernel
theorem dL_law_265 : decode cL_law 265 = .ok (.aload_n 0, 1) := by decide +kernel
theorem dL_law_266 : decode cL_law 266 = .ok (.iload_n 3, 1) := by decide +kernel
theorem dL_law_267 : decode cL_law 267 = .ok (.iconst 3, 1) := by decide +kernel
theorem dL_law_268 : decode cL_law 268 = .ok (.iadd, 1) := by decide +kernel
theorem dL_law_269 : decode cL_law 269 = .ok (.iaload, 1) := by decide +kernel
theorem dL_law_270 : decode cL_law 270 = .ok (.invokevirtual 31, 3) := by decide +kernel
theorem dL_law_273 : decode cL_law 273 = .ok (.if_icmp .eq 529, 3) := by decide +kernel
theorem dL_law_276 : decode cL_law 276 = .ok (.iconst 0, 1) := by decide +kernel
theorem dL_law_277 : decode cL_law 277 = .ok (.ireturn, 1) := by decide +kernel
theorem dL_law_278 : decode cL_law 278 = .ok (.aload_n 1, 1) := by decide +kernel
theorem dL_law_279 : decode cL_law 279 = .ok (.aload_n 0, 1) := by decide +kernel
theorem dL_law_280 : decode cL_law 280 = .ok (.iload_n 3, 1) := by decide +kernel
theorem dL_law_281 : decode cL_law 281 = .ok (.iconst 1, 1) := by decide +kernel
theorem dL_law_282 : decode cL_law 282 = .ok (.iadd, 1) := by decide +kernel
theorem dL_law_283 : decode cL_law 283 = .ok (.iaload, 1) := by decide +kernel
theorem dL_law_284 : decode cL_law 284 = .ok (.aload_n 0, 1) := by decide +kernel
theorem dL_law_285 : decode cL_law 285 = .ok (.iload_n 3, 1) := by decide +kernel
theorem dL_law_286 : decode cL_law 286 = .ok (.iconst 2, 1) := by decide +kernel
theorem dL_law_287 : decode cL_law 287 = .ok (.iadd, 1) := by decide +kernel
theorem dL_law_288 : decode cL_law 288 = .ok (.iaload, 1) := by decide +kernel
theorem dL_law_289 : decode cL_law 289 = .ok (.invokevirtual 32, 3) := by decide +kernel
theorem dL_law_292 : decode cL_law 292 = .ok (.aload_n 2, 1) := by decide +kernel
theorem dL_law_293 : decode cL_law 293 = .ok (.aload_n 0, 1) := by decide +kernel
theorem dL_law_294 : decode cL_law 294 = .ok (.iload_n 3, 1) := by decide +kernel
theorem dL_law_295 : decode cL_law 295 = .ok (.iconst 1, 1) := by decide +kernel
theorem dL_law_296 : decode cL_law 296 = .ok (.iadd, 1) := by decide +kernel
theorem dL_law_297 : decode cL_law 297 = .ok (.iaload, 1) := by decide +kernel
theorem dL_law_298 : decode cL_law 298 = .ok (.aload_n 0, 1) := by decide +kernel
theorem dL_law_299 : decode cL_law 299 = .ok (.iload_n 3, 1) := by decide +kernel
theorem dL_law_300 : decode cL_law 300 = .ok (.iconst 2, 1) := by decide +kernel
theorem dL_law_301 : decode cL_law 301 = .ok (.iadd, 1) := by decide +kernel
theorem dL_law_302 : decode cL_law 302 = .ok (.iaload, 1) := by decide +kernel
theorem dL_law_303 : decode cL_law 303 = .ok (.invokevirtual 35, 3) := by decide +kernel
theorem dL_law_306 : decode cL_law 306 = .ok (.if_icmp .eq 496, 3) := by decide +kernel
theorem dL_law_309 : decode cL_law 309 = .ok (.iconst 0, 1) := by decide +kernel
theorem dL_law_310 : decode cL_law 310 = .ok (.ireturn, 1) := by decide +kernel
theorem dL_law_311 : decode cL_law 311 = .ok (.aload_n 1, 1) := by decide +kernel
theorem dL_law_312 : decode cL_law 312 = .ok (.invokevirtual 36, 3) := by decide +kernel
theorem dL_law_315 : decode cL_law 315 = .ok (.aload_n 2, 1) := by decide +kernel
theorem dL_law_316 : decode cL_law 316 = .ok (.invokevirtual 40, 3) := by decide +kernel
theorem dL_law_319 : decode cL_law 319 = .ok (.if_icmp .eq 483, 3) := by decide +kernel
theorem dL_law_322 : decode cL_law 322 = .ok (.iconst 0, 1) := by decide +kernel
theorem dL_law_323 : decode cL_law 323 = .ok (.ireturn, 1) := by decide +kernel
theorem dL_law_324 : decode cL_law 324 = .ok (.aload_n 1, 1) := by decide +kernel
theorem dL_law_325 : decode cL_law 325 = .ok (.invokevirtual 41, 3) := by decide +kernel
theorem dL_law_328 : decode cL_law 328 = .ok (.aload_n 2, 1) := by decide +kernel
theorem dL_law_329 : decode cL_law 329 = .ok (.invokevirtual 44, 3) := by decide +kernel
theorem dL_law_332 : decode cL_law 332 = .ok (.if_icmp .eq 470, 3) := by decide +kernel
theorem dL_law_335 : decode cL_law 335 = .ok (.iconst 0, 1) := by decide +kernel
theorem dL_law_336 : decode cL_law 336 = .ok (.ireturn, 1) := by decide +kernel
theorem dL_law_337 : decode cL_law 337 = .ok (.aload_n 1, 1) := by decide +kernel
theorem dL_law_338 : decode cL_law 338 = .ok (.aload_n 0, 1) := by decide +kernel
theorem dL_law_339 : decode cL_law 339 = .ok (.iload_n 3, 1) := by decide +kernel
theorem dL_law_340 : decode cL_law 340 = .ok (.iconst 1, 1) := by decide +kernel
theorem dL_law_341 : decode cL_law 341 = .ok (.iadd, 1) := by decide +kernel
theorem dL_law_342 : decode cL_law 342 = .ok (.iaload, 1) := by decide +kernel
theorem dL_law_343 : decode cL_law 343 = .ok (.invokevirtual 45, 3) := by decide +kernel
theorem dL_law_346 : decode cL_law 346 = .ok (.aload_n 2, 1) := by decide +kernel
theorem dL_law_347 : decode cL_law 347 = .ok (.aload_n 0, 1) := by decide +kernel
theorem dL_law_348 : decode cL_law 348 = .ok (.iload_n 3, 1) := by decide +kernel
theorem dL_law_349 : decode cL_law 349 = .ok (.iconst 1, 1) := by decide +kernel
theorem dL_law_350 : decode cL_law 350 = .ok (.iadd, 1) := by decide +kernel
theorem dL_law_351 : decode cL_law 351 = .ok (.iaload, 1) := by decide +kernel
theorem dL_law_352 : decode cL_law 352 = .ok (.invokevirtual 48, 3) := by decide +kernel
theorem dL_law_355 : decode cL_law 355 = .ok (.if_icmp .eq 447, 3) := by decide +kernel
theorem dL_law_358 : decode cL_law 358 = .ok (.iconst 0, 1) := by decide +kernel
theorem dL_law_359 : decode cL_law 359 = .ok (.ireturn, 1) := by decide +kernel
theorem dL_law_360 : decode cL_law 360 = .ok (.aload_n 1, 1) := by decide +kernel
theorem dL_law_361 : decode cL_law 361 = .ok (.aload_n 0, 1) := by decide +kernel
theorem dL_law_362 : decode cL_law 362 = .ok (.iload_n 3, 1) := by decide +kernel
theorem dL_law_363 : decode cL_law 363 = .ok (.iconst 1, 1) := by decide +kernel
theorem dL_law_364 : decode cL_law 364 = .ok (.iadd, 1) := by decide +kernel
theorem dL_law_365 : decode cL_law 365 = .ok (.iaload, 1) := by decide +kernel
theorem dL_law_366 : decode cL_law 366 = .ok (.aload_n 0, 1) := by decide +kernel
theorem dL_law_367 : decode cL_law 367 = .ok (.iload_n 3, 1) := by decide +kernel
theorem dL_law_368 : decode cL_law 368 = .ok (.iconst 2, 1) := by decide +kernel
theorem dL_law_369 : decode cL_law 369 = .ok (.iadd, 1) := by decide +kernel
theorem dL_law_370 : decode cL_law 370 = .ok (.iaload, 1) := by decide +kernel
theorem dL_law_371 : decode cL_law 371 = .ok (.invokevirtual 49, 3) := by decide +kernel
theorem dL_law_374 : decode cL_law 374 = .ok (.aload_n 2, 1) := by decide +kernel
theorem dL_law_375 : decode cL_law 375 = .ok (.aload_n 0, 1) := by decide +kernel
theorem dL_law_376 : decode cL_law 376 = .ok (.iload_n 3, 1) := by decide +kernel
theorem dL_law_377 : decode cL_law 377 = .ok (.iconst 1, 1) := by decide +kernel
theorem dL_law_378 : decode cL_law 378 = .ok (.iadd, 1) := by decide +kernel
theorem dL_law_379 : decode cL_law 379 = .ok (.iaload, 1) := by decide +kernel
theorem dL_law_380 : decode cL_law 380 = .ok (.aload_n 0, 1) := by decide +kernel
theorem dL_law_381 : decode cL_law 381 = .ok (.iload_n 3, 1) := by decide +kernel
theorem dL_law_382 : decode cL_law 382 = .ok (.iconst 2, 1) := by decide +kernel
theorem dL_law_383 : decode cL_law 383 = .ok (.iadd, 1) := by decide +kernel
theorem dL_law_384 : decode cL_law 384 = .ok (.iaload, 1) := by decide +kernel
theorem dL_law_385 : decode cL_law 385 = .ok (.invokevirtual 52, 3) := by decide +kernel
theorem dL_law_388 : decode cL_law 388 = .ok (.if_icmp .eq 414, 3) := by decide +kernel
theorem dL_law_391 : decode cL_law 391 = .ok (.iconst 0, 1) := by decide +kernel
theorem dL_law_392 : decode cL_law 392 = .ok (.ireturn, 1) := by decide +kernel
theorem dL_law_393 : decode cL_law 393 = .ok (.aload_n 1, 1) := by decide +kernel
theorem dL_law_394 : decode cL_law 394 = .ok (.aload_n 0, 1) := by decide +kernel
theorem dL_law_395 : decode cL_law 395 = .ok (.iload_n 3, 1) := by decide +kernel
theorem dL_law_396 : decode cL_law 396 = .ok (.iconst 1, 1) := by decide +kernel
theorem dL_law_397 : decode cL_law 397 = .ok (.iadd, 1) := by decide +kernel
theorem dL_law_398 : decode cL_law 398 = .ok (.iaload, 1) := by decide +kernel
theorem dL_law_399 : decode cL_law 399 = .ok (.invokevirtual 53, 3) := by decide +kernel
theorem dL_law_402 : decode cL_law 402 = .ok (.aload_n 2, 1) := by decide +kernel
theorem dL_law_403 : decode cL_law 403 = .ok (.aload_n 0, 1) := by decide +kernel
theorem dL_law_404 : decode cL_law 404 = .ok (.iload_n 3, 1) := by decide +kernel
theorem dL_law_405 : decode cL_law 405 = .ok (.iconst 1, 1) := by decide +kernel
theorem dL_law_406 : decode cL_law 406 = .ok (.iadd, 1) := by decide +kernel
theorem dL_law_407 : decode cL_law 407 = .ok (.iaload, 1) := by decide +kernel
theorem dL_law_408 : decode cL_law 408 = .ok (.invokevirtual 56, 3) := by decide +kernel
theorem dL_law_411 : decode cL_law 411 = .ok (.if_icmp .eq 391, 3) := by decide +kernel
theorem dL_law_414 : decode cL_law 414 = .ok (.iconst 0, 1) := by decide +kernel
theorem dL_law_415 : decode cL_law 415 = .ok (.ireturn, 1) := by decide +kernel
theorem dL_law_416 : decode cL_law 416 = .ok (.aload_n 1, 1) := by decide +kernel
theorem dL_law_417 : decode cL_law 417 = .ok (.aload_n 0, 1) := by decide +kernel
theorem dL_law_418 : decode cL_law 418 = .ok (.iload_n 3, 1) := by decide +kernel
theorem dL_law_419 : decode cL_law 419 = .ok (.iconst 1, 1) := by decide +kernel
theorem dL_law_420 : decode cL_law 420 = .ok (.iadd, 1) := by decide +kernel
theorem dL_law_421 : decode cL_law 421 = .ok (.iaload, 1) := by decide +kernel
theorem dL_law_422 : decode cL_law 422 = .ok (.invokevirtual 57, 3) := by decide +kernel
theorem dL_law_425 : decode cL_law 425 = .ok (.aload_n 2, 1) := by decide +kernel
theorem dL_law_426 : decode cL_law 426 = .ok (.aload_n 0, 1) := by decide +kernel
theorem dL_law_427 : decode cL_law 427 = .ok (.iload_n 3, 1) := by decide +kernel
theorem dL_law_428 : decode cL_law 428 = .ok (.iconst 1, 1) := by decide +kernel
theorem dL_law_429 : decode cL_law 429 = .ok (.iadd, 1) := by decide +kernel
theorem dL_law_430 : decode cL_law 430 = .ok (.iaload, 1) := by decide +kernel
theorem dL_law_431 : decode cL_law 431 = .ok (.invokevirtual 60, 3) := by decide +kernel
theorem dL_law_434 : decode cL_law 434 = .ok (.if_icmp .eq 368, 3) := by decide +kernel
theorem dL_law_437 : decode cL_law 437 = .ok (.iconst 0, 1) := by decide +kernel
theorem dL_law_438 : decode cL_law 438 = .ok (.ireturn, 1) := by decide +kernel
theorem dL_law_439 : decode cL_law 439 = .ok (.aload_n 1, 1) := by decide +kernel
theorem dL_law_440 : decode cL_law 440 = .ok (.aload_n 0, 1) := by decide +kernel
theorem dL_law_441 : decode cL_law 441 = .ok (.iload_n 3, 1) := by decide +kernel
theorem dL_law_442 : decode cL_law 442 = .ok (.iconst 1, 1) := by decide +kernel
theorem dL_law_443 : decode cL_law 443 = .ok (.iadd, 1) := by decide +kernel
theorem dL_law_444 : decode cL_law 444 = .ok (.iaload, 1) := by decide +kernel
theorem dL_law_445 : decode cL_law 445 = .ok (.invokevirtual 61, 3) := by decide +kernel
theorem dL_law_448 : decode cL_law 448 = .ok (.aload_n 2, 1) := by decide +kernel
theorem dL_law_449 : decode cL_law 449 = .ok (.aload_n 0, 1) := by decide +kernel
theorem dL_law_450 : decode cL_law 450 = .ok (.iload_n 3, 1) := by decide +kernel
theorem dL_law_451 : decode cL_law 451 = .ok (.iconst 1, 1) := by decide +kernel
theorem dL_law_452 : decode cL_law 452 = .ok (.iadd, 1) := by decide +kernel
theorem dL_law_453 : decode cL_law 453 = .ok (.iaload, 1) := by decide +kernel
theorem dL_law_454 : decode cL_law 454 = .ok (.invokevirtual 64, 3) := by decide +kernel
theorem dL_law_457 : decode cL_law 457 = .ok (.if_icmp .eq 345, 3) := by decide +kernel
theorem dL_law_460 : decode cL_law 460 = .ok (.iconst 0, 1) := by decide +kernel
theorem dL_law_461 : decode cL_law 461 = .ok (.ireturn, 1) := by decide +kernel
theorem dL_law_462 : decode cL_law 462 = .ok (.aload_n 1, 1) := by decide +kernel
theorem dL_law_463 : decode cL_law 463 = .ok (.aload_n 0, 1) := by decide +kernel
theorem dL_law_464 : decode cL_law 464 = .ok (.iload_n 3, 1) := by decide +kernel
theorem dL_law_465 : decode cL_law 465 = .ok (.iconst 1, 1) := by decide +kernel
theorem dL_law_466 : decode cL_law 466 = .ok (.iadd, 1) := by decide +kernel
theorem dL_law_467 : decode cL_law 467 = .ok (.iaload, 1) := by decide +kernel
theorem dL_law_468 : decode cL_law 468 = .ok (.aload_n 0, 1) := by decide +kernel
theorem dL_law_469 : decode cL_law 469 = .ok (.iload_n 3, 1) := by decide +kernel
theorem dL_law_470 : decode cL_law 470 = .ok (.iconst 2, 1) := by decide +kernel
theorem dL_law_471 : decode cL_law 471 = .ok (.iadd, 1) := by decide +kernel
theorem dL_law_472 : decode cL_law 472 = .ok (.iaload, 1) := by decide +kernel
theorem dL_law_473 : decode cL_law 473 = .ok (.invokevirtual 65, 3) := by decide +kernel
theorem dL_law_476 : decode cL_law 476 = .ok (.aload_n 2, 1) := by decide +kernel
theorem dL_law_477 : decode cL_law 477 = .ok (.aload_n 0, 1) := by decide +kernel
theorem dL_law_478 : decode cL_law 478 = .ok (.iload_n 3, 1) := by decide +kernel
theorem dL_law_479 : decode cL_law 479 = .ok (.iconst 1, 1) := by decide +kernel
theorem dL_law_480 : decode cL_law 480 = .ok (.iadd, 1) := by decide +kernel
theorem dL_law_481 : decode cL_law 481 = .ok (.iaload, 1) := by decide +kernel
theorem dL_law_482 : decode cL_law 482 = .ok (.aload_n 0, 1) := by decide +kernel
theorem dL_law_483 : decode cL_law 483 = .ok (.iload_n 3, 1) := by decide +kernel
theorem dL_law_484 : decode cL_law 484 = .ok (.iconst 2, 1) := by decide +kernel
theorem dL_law_485 : decode cL_law 485 = .ok (.iadd, 1) := by decide +kernel
theorem dL_law_486 : decode cL_law 486 = .ok (.iaload, 1) := by decide +kernel
theorem dL_law_487 : decode cL_law 487 = .ok (.invokevirtual 68, 3) := by decide +kernel
theorem dL_law_490 : decode cL_law 490 = .ok (.if_icmp .eq 312, 3) := by decide +kernel
theorem dL_law_493 : decode cL_law 493 = .ok (.iconst 0, 1) := by decide +kernel
theorem dL_law_494 : decode cL_law 494 = .ok (.ireturn, 1) := by decide +kernel
theorem dL_law_495 : decode cL_law 495 = .ok (.aload_n 1, 1) := by decide +kernel
theorem dL_law_496 : decode cL_law 496 = .ok (.aload_n 0, 1) := by decide +kernel
theorem dL_law_497 : decode cL_law 497 = .ok (.iload_n 3, 1) := by decide +kernel
theorem dL_law_498 : decode cL_law 498 = .ok (.iconst 1, 1) := by decide +kernel
theorem dL_law_499 : decode cL_law 499 = .ok (.iadd, 1) := by decide +kernel
theorem dL_law_500 : decode cL_law 500 = .ok (.iaload, 1) := by decide +kernel
theorem dL_law_501 : decode cL_law 501 = .ok (.invokevirtual 69, 3) := by decide +kernel
theorem dL_law_504 : decode cL_law 504 = .ok (.aload_n 2, 1) := by decide +kernel
theorem dL_law_505 : decode cL_law 505 = .ok (.aload_n 0, 1) := by decide +kernel
theorem dL_law_506 : decode cL_law 506 = .ok (.iload_n 3, 1) := by decide +kernel
theorem dL_law_507 : decode cL_law 507 = .ok (.iconst 1, 1) := by decide +kernel
theorem dL_law_508 : decode cL_law 508 = .ok (.iadd, 1) := by decide +kernel
theorem dL_law_509 : decode cL_law 509 = .ok (.iaload, 1) := by decide +kernel
theorem dL_law_510 : decode cL_law 510 = .ok (.invokevirtual 72, 3) := by decide +kernel
theorem dL_law_513 : decode cL_law 513 = .ok (.if_icmp .eq 289, 3) := by decide +kernel
theorem dL_law_516 : decode cL_law 516 = .ok (.iconst 0, 1) := by decide +kernel
theorem dL_law_517 : decode cL_law 517 = .ok (.ireturn, 1) := by decide +kernel
theorem dL_law_518 : decode cL_law 518 = .ok (.aload_n 1, 1) := by decide +kernel
theorem dL_law_519 : decode cL_law 519 = .ok (.aload_n 0, 1) := by decide +kernel
theorem dL_law_520 : decode cL_law 520 = .ok (.iload_n 3, 1) := by decide +kernel
theorem dL_law_521 : decode cL_law 521 = .ok (.iconst 1, 1) := by decide +kernel
theorem dL_law_522 : decode cL_law 522 = .ok (.iadd, 1) := by decide +kernel
theorem dL_law_523 : decode cL_law 523 = .ok (.iaload, 1) := by decide +kernel
theorem dL_law_524 : decode cL_law 524 = .ok (.aload_n 0, 1) := by decide +kernel
theorem dL_law_525 : decode cL_law 525 = .ok (.iload_n 3, 1) := by decide +kernel
theorem dL_law_526 : decode cL_law 526 = .ok (.iconst 2, 1) := by decide +kernel
theorem dL_law_527 : decode cL_law 527 = .ok (.iadd, 1) := by decide +kernel
theorem dL_law_528 : decode cL_law 528 = .ok (.iaload, 1) := by decide +kernel
theorem dL_law_529 : decode cL_law 529 = .ok (.invokevirtual 73, 3) := by decide +kernel
theorem dL_law_532 : decode cL_law 532 = .ok (.aload_n 2, 1) := by decide +kernel
theorem dL_law_533 : decode cL_law 533 = .ok (.aload_n 0, 1) := by decide +kernel
theorem dL_law_534 : decode cL_law 534 = .ok (.iload_n 3, 1) := by decide +kernel
theorem dL_law_535 : decode cL_law 535 = .ok (.iconst 1, 1) := by decide +kernel
theorem dL_law_536 : decode cL_law 536 = .ok (.iadd, 1) := by decide +kernel
theorem dL_law_537 : decode cL_law 537 = .ok (.iaload, 1) := by decide +kernel
theorem dL_law_538 : decode cL_law 538 = .ok (.aload_n 0, 1) := by decide +kernel
theorem dL_law_539 : decode cL_law 539 = .ok (.iload_n 3, 1) := by decide +kernel
theorem dL_law_540 : decode cL_law 540 = .ok (.iconst 2, 1) := by decide +kernel
theorem dL_law_541 : decode cL_law 541 = .ok (.iadd, 1) := by decide +kernel
theorem dL_law_542 : decode cL_law 542 = .ok (.iaload, 1) := by decide +kernel
theorem dL_law_543 : decode cL_law 543 = .ok (.invokevirtual 76, 3) := by decide +kernel
theorem dL_law_546 : decode cL_law 546 = .ok (.if_icmp .eq 256, 3) := by decide +kernel
theorem dL_law_549 : decode cL_law 549 = .ok (.iconst 0, 1) := by decide +kernel
theorem dL_law_550 : decode cL_law 550 = .ok (.ireturn, 1) := by decide +kernel
theorem dL_law_551 : decode cL_law 551 = .ok (.aload_n 1, 1) := by decide +kernel
theorem dL_law_552 : decode cL_law 552 = .ok (.aload_n 0, 1) := by decide +kernel
theorem dL_law_553 : decode cL_law 553 = .ok (.iload_n 3, 1) := by decide +kernel
theorem dL_law_554 : decode cL_law 554 = .ok (.iconst 1, 1) := by decide +kernel
theorem dL_law_555 : decode cL_law 555 = .ok (.iadd, 1) := by decide +kernel
theorem dL_law_556 : decode cL_law 556 = .ok (.iaload, 1) := by decide +kernel
theorem dL_law_557 : decode cL_law 557 = .ok (.aload_n 0, 1) := by decide +kernel
theorem dL_law_558 : decode cL_law 558 = .ok (.iload_n 3, 1) := by decide +kernel
theorem dL_law_559 : decode cL_law 559 = .ok (.iconst 2, 1) := by decide +kernel
theorem dL_law_560 : decode cL_law 560 = .ok (.iadd, 1) := by decide +kernel
theorem dL_law_561 : decode cL_law 561 = .ok (.iaload, 1) := by decide +kernel
theorem dL_law_562 : decode cL_law 562 = .ok (.invokevirtual 77, 3) := by decide +kernel
theorem dL_law_565 : decode cL_law 565 = .ok (.aload_n 2, 1) := by decide +kernel
theorem dL_law_566 : decode cL_law 566 = .ok (.aload_n 0, 1) := by decide +kernel
theorem dL_law_567 : decode cL_law 567 = .ok (.iload_n 3, 1) := by decide +kernel
theorem dL_law_568 : decode cL_law 568 = .ok (.iconst 1, 1) := by decide +kernel
theorem dL_law_569 : decode cL_law 569 = .ok (.iadd, 1) := by decide +kernel
theorem dL_law_570 : decode cL_law 570 = .ok (.iaload, 1) := by decide +kernel
theorem dL_law_571 : decode cL_law 571 = .ok (.aload_n 0, 1) := by decide +kernel
theorem dL_law_572 : decode cL_law 572 = .ok (.iload_n 3, 1) := by decide +kernel
theorem dL_law_573 : decode cL_law 573 = .ok (.iconst 2, 1) := by decide +kernel
theorem dL_law_574 : decode cL_law 574 = .ok (.iadd, 1) := by decide +kernel
theorem dL_law_575 : decode cL_law 575 = .ok (.iaload, 1) := by decide +kernel
theorem dL_law_576 : decode cL_law 576 = .ok (.invokevirtual 80, 3) := by decide +kernel
theorem dL_law_579 : decode cL_law 579 = .ok (.if_icmp .eq 223, 3) := by decide +kernel
theorem dL_law_582 : decode cL_law 582 = .ok (.iconst 0, 1) := by decide +kernel
theorem dL_law_583 : decode cL_law 583 = .ok (.ireturn, 1) := by decide +kernel
theorem dL_law_584 : decode cL_law 584 = .ok (.aload_n 1, 1) := by decide +kernel
theorem dL_law_585 : decode cL_law 585 = .ok (.aload_n 0, 1) := by decide +kernel
theorem dL_law_586 : decode cL_law 586 = .ok (.iload_n 3, 1) := by decide +kernel
theorem dL_law_587 : decode cL_law 587 = .ok (.iconst 1, 1) := by decide +kernel
theorem dL_law_588 : decode cL_law 588 = .ok (.iadd, 1) := by decide +kernel
theorem dL_law_589 : decode cL_law 589 = .ok (.iaload, 1) := by decide +kernel
theorem dL_law_590 : decode cL_law 590 = .ok (.aload_n 0, 1) := by decide +kernel
theorem dL_law_591 : decode cL_law 591 = .ok (.iload_n 3, 1) := by decide +kernel
theorem dL_law_592 : decode cL_law 592 = .ok (.iconst 2, 1) := by decide +kernel
theorem dL_law_593 : decode cL_law 593 = .ok (.iadd, 1) := by decide +kernel
theorem dL_law_594 : decode cL_law 594 = .ok (.iaload, 1) := by decide +kernel
theorem dL_law_595 : decode cL_law 595 = .ok (.invokevirtual 81, 3) := by decide +kernel
theorem dL_law_598 : decode cL_law 598 = .ok (.aload_n 2, 1) := by decide +kernel
theorem dL_law_599 : decode cL_law 599 = .ok (.aload_n 0, 1) := by decide +kernel
theorem dL_law_600 : decode cL_law 600 = .ok (.iload_n 3, 1) := by decide +kernel
theorem dL_law_601 : decode cL_law 601 = .ok (.iconst 1, 1) := by decide +kernel
theorem dL_law_602 : decode cL_law 602 = .ok (.iadd, 1) := by decide +kernel
theorem dL_law_603 : decode cL_law 603 = .ok (.iaload, 1) := by decide +kernel
theorem dL_law_604 : decode cL_law 604 = .ok (.aload_n 0, 1) := by decide +kernel
theorem dL_law_605 : decode cL_law 605 = .ok (.iload_n 3, 1) := by decide +kernel
theorem dL_law_606 : decode cL_law 606 = .ok (.iconst 2, 1) := by decide +kernel
theorem dL_law_607 : decode cL_law 607 = .ok (.iadd, 1) := by decide +kernel
theorem dL_law_608 : decode cL_law 608 = .ok (.iaload, 1) := by decide +kernel
theorem dL_law_609 : decode cL_law 609 = .ok (.invokevirtual 84, 3) := by decide +kernel
theorem dL_law_612 : decode cL_law 612 = .ok (.if_icmp .eq 190, 3) := by decide +kernel
theorem dL_law_615 : decode cL_law 615 = .ok (.iconst 0, 1) := by decide +kernel
theorem dL_law_616 : decode cL_law 616 = .ok (.ireturn, 1) := by decide +kernel
theorem dL_law_617 : decode cL_law 617 = .ok (.aload_n 1, 1) := by decide +kernel
theorem dL_law_618 : decode cL_law 618 = .ok (.aload_n 0, 1) := by decide +kernel
theorem dL_law_619 : decode cL_law 619 = .ok (.iload_n 3, 1) := by decide +kernel
theorem dL_law_620 : decode cL_law 620 = .ok (.iconst 1, 1) := by decide +kernel
theorem dL_law_621 : decode cL_law 621 = .ok (.iadd, 1) := by decide +kernel
theorem dL_law_622 : decode cL_law 622 = .ok (.iaload, 1) := by decide +kernel
theorem dL_law_623 : decode cL_law 623 = .ok (.aload_n 0, 1) := by decide +kernel
theorem dL_law_624 : decode cL_law 624 = .ok (.iload_n 3, 1) := by decide +kernel
theorem dL_law_625 : decode cL_law 625 = .ok (.iconst 2, 1) := by decide +kernel
theorem dL_law_626 : decode cL_law 626 = .ok (.iadd, 1) := by decide +kernel
theorem dL_law_627 : decode cL_law 627 = .ok (.iaload, 1) := by decide +kernel
theorem dL_law_628 : decode cL_law 628 = .ok (.aload_n 0, 1) := by decide +kernel
theorem dL_law_629 : decode cL_law 629 = .ok (.iload_n 3, 1) := by decide +kernel
theorem dL_law_630 : decode cL_law 630 = .ok (.iconst 3, 1) := by decide +kernel
theorem dL_law_631 : decode cL_law 631 = .ok (.iadd, 1) := by decide +kernel
theorem dL_law_632 : decode cL_law 632 = .ok (.iaload, 1) := by decide +kernel
theorem dL_law_633 : decode cL_law 633 = .ok (.invokevirtual 85, 3) := by decide +kernel
theorem dL_law_636 : decode cL_law 636 = .ok (.aload_n 2, 1) := by decide +kernel
theorem dL_law_637 : decode cL_law 637 = .ok (.aload_n 0, 1) := by decide +kernel
theorem dL_law_638 : decode cL_law 638 = .ok (.iload_n 3, 1) := by decide +kernel
theorem dL_law_639 : decode cL_law 639 = .ok (.iconst 1, 1) := by decide +kernel
theorem dL_law_640 : decode cL_law 640 = .ok (.iadd, 1) := by decide +kernel
theorem dL_law_641 : decode cL_law 641 = .ok (.iaload, 1) := by decide +kernel
theorem dL_law_642 : decode cL_law 642 = .ok (.aload_n 0, 1) := by decide +kernel
theorem dL_law_643 : decode cL_law 643 = .ok (.iload_n 3, 1) := by decide +kernel
theorem dL_law_644 : decode cL_law 644 = .ok (.iconst 2, 1) := by decide +kernel
theorem dL_law_645 : decode cL_law 645 = .ok (.iadd, 1) := by decide +kernel
theorem dL_law_646 : decode cL_law 646 = .ok (.iaload, 1) := by decide +kernel
theorem dL_law_647 : decode cL_law 647 = .ok (.aload_n 0, 1) := by decide +kernel
theorem dL_law_648 : decode cL_law 648 = .ok (.iload_n 3, 1) := by decide +kernel
theorem dL_law_649 : decode cL_law 649 = .ok (.iconst 3, 1) := by decide +kernel
theorem dL_law_650 : decode cL_law 650 = .ok (.iadd, 1) := by decide +kernel
theorem dL_law_651 : decode cL_law 651 = .ok (.iaload, 1) := by decide +kernel
theorem dL_law_652 : decode cL_law 652 = .ok (.invokevirtual 88, 3) := by decide +kernel
theorem dL_law_655 : decode cL_law 655 = .ok (.if_icmp .eq 147, 3) := by decide +kernel
theorem dL_law_658 : decode cL_law 658 = .ok (.iconst 0, 1) := by decide +kernel
theorem dL_law_659 : decode cL_law 659 = .ok (.ireturn, 1) := by decide +kernel
theorem dL_law_660 : decode cL_law 660 = .ok (.aload_n 1, 1) := by decide +kernel
theorem dL_law_661 : decode cL_law 661 = .ok (.aload_n 0, 1) := by decide +kernel
theorem dL_law_662 : decode cL_law 662 = .ok (.iload_n 3, 1) := by decide +kernel
theorem dL_law_663 : decode cL_law 663 = .ok (.iconst 1, 1) := by decide +kernel
theorem dL_law_664 : decode cL_law 664 = .ok (.iadd, 1) := by decide +kernel
theorem dL_law_665 : decode cL_law 665 = .ok (.iaload, 1) := by decide +kernel
theorem dL_law_666 : decode cL_law 666 = .ok (.aload_n 0, 1) := by decide +kernel
theorem dL_law_667 : decode cL_law 667 = .ok (.iload_n 3, 1) := by decide +kernel
theorem dL_law_668 : decode cL_law 668 = .ok (.iconst 2, 1) := by decide +kernel
theorem dL_law_669 : decode cL_law 669 = .ok (.iadd, 1) := by decide +kernel
theorem dL_law_670 : decode cL_law 670 = .ok (.iaload, 1) := by decide +kernel
theorem dL_law_671 : decode cL_law 671 = .ok (.aload_n 0, 1) := by decide +kernel
theorem dL_law_672 : decode cL_law 672 = .ok (.iload_n 3, 1) := by decide +kernel
theorem dL_law_673 : decode cL_law 673 = .ok (.iconst 3, 1) := by decide +kernel
theorem dL_law_674 : decode cL_law 674 = .ok (.iadd, 1) := by decide +kernel
theorem dL_law_675 : decode cL_law 675 = .ok (.iaload, 1) := by decide +kernel
theorem dL_law_676 : decode cL_law 676 = .ok (.invokevirtual 89, 3) := by decide +kernel
theorem dL_law_679 : decode cL_law 679 = .ok (.aload_n 2, 1) := by decide +kernel
theorem dL_law_680 : decode cL_law 680 = .ok (.aload_n 0, 1) := by decide +kernel
theorem dL_law_681 : decode cL_law 681 = .ok (.iload_n 3, 1) := by decide +kernel
theorem dL_law_682 : decode cL_law 682 = .ok (.iconst 1, 1) := by decide +kernel
theorem dL_law_683 : decode cL_law 683 = .ok (.iadd, 1) := by decide +kernel
theorem dL_law_684 : decode cL_law 684 = .ok (.iaload, 1) := by decide +kernel
theorem dL_law_685 : decode cL_law 685 = .ok (.aload_n 0, 1) := by decide +kernel
theorem dL_law_686 : decode cL_law 686 = .ok (.iload_n 3, 1) := by decide +kernel
theorem dL_law_687 : decode cL_law 687 = .ok (.iconst 2, 1) := by decide +kernel
theorem dL_law_688 : decode cL_law 688 = .ok (.iadd, 1) := by decide +kernel
theorem dL_law_689 : decode cL_law 689 = .ok (.iaload, 1) := by decide +kernel
theorem dL_law_690 : decode cL_law 690 = .ok (.aload_n 0, 1) := by decide +kernel
theorem dL_law_691 : decode cL_law 691 = .ok (.iload_n 3, 1) := by decide +kernel
theorem dL_law_692 : decode cL_law 692 = .ok (.iconst 3, 1) := by decide +kernel
theorem dL_law_693 : decode cL_law 693 = .ok (.iadd, 1) := by decide +kernel
theorem dL_law_694 : decode cL_law 694 = .ok (.iaload, 1) := by decide +kernel
theorem dL_law_695 : decode cL_law 695 = .ok (.invokevirtual 92, 3) := by decide +kernel
theorem dL_law_698 : decode cL_law 698 = .ok (.if_icmp .eq 104, 3) := by decide +kernel
theorem dL_law_701 : decode cL_law 701 = .ok (.iconst 0, 1) := by decide +kernel
theorem dL_law_702 : decode cL_law 702 = .ok (.ireturn, 1) := by decide +kernel
theorem dL_law_703 : decode cL_law 703 = .ok (.aload_n 1, 1) := by decide +kernel
theorem dL_law_704 : decode cL_law 704 = .ok (.aload_n 0, 1) := by decide +kernel
theorem dL_law_705 : decode cL_law 705 = .ok (.iload_n 3, 1) := by decide +kernel
theorem dL_law_706 : decode cL_law 706 = .ok (.iconst 1, 1) := by decide +kernel
theorem dL_law_707 : decode cL_law 707 = .ok (.iadd, 1) := by decide +kernel
theorem dL_law_708 : decode cL_law 708 = .ok (.iaload, 1) := by decide +kernel
theorem dL_law_709 : decode cL_law 709 = .ok (.aload_n 0, 1) := by decide +kernel
theorem dL_law_710 : decode cL_law 710 = .ok (.iload_n 3, 1) := by decide +kernel
theorem dL_law_711 : decode cL_law 711 = .ok (.iconst 2, 1) := by decide +kernel
theorem dL_law_712 : decode cL_law 712 = .ok (.iadd, 1) := by decide +kernel
theorem dL_law_713 : decode cL_law 713 = .ok (.iaload, 1) := by decide +kernel
theorem dL_law_714 : decode cL_law 714 = .ok (.aload_n 0, 1) := by decide +kernel
theorem dL_law_715 : decode cL_law 715 = .ok (.iload_n 3, 1) := by decide +kernel
theorem dL_law_716 : decode cL_law 716 = .ok (.iconst 3, 1) := by decide +kernel
theorem dL_law_717 : decode cL_law 717 = .ok (.iadd, 1) := by decide +kernel
theorem dL_law_718 : decode cL_law 718 = .ok (.iaload, 1) := by decide +kernel
theorem dL_law_719 : decode cL_law 719 = .ok (.invokevirtual 93, 3) := by decide +kernel
theorem dL_law_722 : decode cL_law 722 = .ok (.aload_n 2, 1) := by decide +kernel
theorem dL_law_723 : decode cL_law 723 = .ok (.aload_n 0, 1) := by decide +kernel
theorem dL_law_724 : decode cL_law 724 = .ok (.iload_n 3, 1) := by decide +kernel
theorem dL_law_725 : decode cL_law 725 = .ok (.iconst 1, 1) := by decide +kernel
theorem dL_law_726 : decode cL_law 726 = .ok (.iadd, 1) := by decide +kernel
theorem dL_law_727 : decode cL_law 727 = .ok (.iaload, 1) := by decide +kernel
theorem dL_law_728 : decode cL_law 728 = .ok (.aload_n 0, 1) := by decide +kernel
theorem dL_law_729 : decode cL_law 729 = .ok (.iload_n 3, 1) := by decide +kernel
theorem dL_law_730 : decode cL_law 730 = .ok (.iconst 2, 1) := by decide +kernel
theorem dL_law_731 : decode cL_law 731 = .ok (.iadd, 1) := by decide +kernel
theorem dL_law_732 : decode cL_law 732 = .ok (.iaload, 1) := by decide +kernel
theorem dL_law_733 : decode cL_law 733 = .ok (.aload_n 0, 1) := by decide +kernel
theorem dL_law_734 : decode cL_law 734 = .ok (.iload_n 3, 1) := by decide +kernel
theorem dL_law_735 : decode cL_law 735 = .ok (.iconst 3, 1) := by decide +kernel
theorem dL_law_736 : decode cL_law 736 = .ok (.iadd, 1) := by decide +kernel
theorem dL_law_737 : decode cL_law 737 = .ok (.iaload, 1) := by decide +kernel
theorem dL_law_738 : decode cL_law 738 = .ok (.invokevirtual 96, 3) := by decide +kernel
theorem dL_law_741 : decode cL_law 741 = .ok (.if_icmp .eq 61, 3) := by decide +kernel
theorem dL_law_744 : decode cL_law 744 = .ok (.iconst 0, 1) := by decide +kernel
theorem dL_law_745 : decode cL_law 745 = .ok (.ireturn, 1) := by decide +kernel
theorem dL_law_746 : decode cL_law 746 = .ok (.aload_n 1, 1) := by decide +kernel
theorem dL_law_747 : decode cL_law 747 = .ok (.aload_n 0, 1) := by decide +kernel
theorem dL_law_748 : decode cL_law 748 = .ok (.iload_n 3, 1) := by decide +kernel
theorem dL_law_749 : decode cL_law 749 = .ok (.iconst 1, 1) := by decide +kernel
theorem dL_law_750 : decode cL_law 750 = .ok (.iadd, 1) := by decide +kernel
theorem dL_law_751 : decode cL_law 751 = .ok (.iaload, 1) := by decide +kernel
theorem dL_law_752 : decode cL_law 752 = .ok (.aload_n 0, 1) := by decide +kernel
theorem dL_law_753 : decode cL_law 753 = .ok (.iload_n 3, 1) := by decide +kernel
theorem dL_law_754 : decode cL_law 754 = .ok (.iconst 2, 1) := by decide +kernel
theorem dL_law_755 : decode cL_law 755 = .ok (.iadd, 1) := by decide +kernel
theorem dL_law_756 : decode cL_law 756 = .ok (.iaload, 1) := by decide +kernel
theorem dL_law_757 : decode cL_law 757 = .ok (.invokevirtual 97, 3) := by decide +kernel
theorem dL_law_760 : decode cL_law 760 = .ok (.aload_n 2, 1) := by decide +kernel
theorem dL_law_761 : decode cL_law 761 = .ok (.aload_n 0, 1) := by decide +kernel
theorem dL_law_762 : decode cL_law 762 = .ok (.iload_n 3, 1) := by decide +kernel
theorem dL_law_763 : decode cL_law 763 = .ok (.iconst 1, 1) := by decide +kernel
theorem dL_law_764 : decode cL_law 764 = .ok (.iadd, 1) := by decide +kernel
theorem dL_law_765 : decode cL_law 765 = .ok (.iaload, 1) := by decide +kernel
theorem dL_law_766 : decode cL_law 766 = .ok (.aload_n 0, 1) := by decide +kernel
theorem dL_law_767 : decode cL_law 767 = .ok (.iload_n 3, 1) := by decide +kernel
theorem dL_law_768 : decode cL_law 768 = .ok (.iconst 2, 1) := by decide +kernel
theorem dL_law_769 : decode cL_law 769 = .ok (.iadd, 1) := by decide +kernel
theorem dL_law_770 : decode cL_law 770 = .ok (.iaload, 1) := by decide +kernel
theorem dL_law_771 : decode cL_law 771 = .ok (.invokevirtual 100, 3) := by decide +kernel
theorem dL_law_774 : decode cL_law 774 = .ok (.if_icmp .eq 28, 3) := by decide +kernel
theorem dL_law_777 : decode cL_law 777 = .ok (.iconst 0, 1) := by decide +kernel
theorem dL_law_778 : decode cL_law 778 = .ok (.ireturn, 1) := by decide +kernel
theorem dL_law_779 : decode cL_law 779 = .ok (.aload_n 1, 1) := by decide +kernel
theorem dL_law_780 : decode cL_law 780 = .ok (.aload_n 0, 1) := by decide +kernel
theorem dL_law_781 : decode cL_law 781 = .ok (.iload_n 3, 1) := by decide +kernel
theorem dL_law_782 : decode cL_law 782 = .ok (.iconst 1, 1) := by decide +kernel
theorem dL_law_783 : decode cL_law 783 = .ok (.iadd, 1) := by decide +kernel
theorem dL_law_784 : decode cL_law 784 = .ok (.iaload, 1) := by decide +kernel
theorem dL_law_785 : decode cL_law 785 = .ok (.invokevirtual 101, 3) := by decide +kernel
theorem dL_law_788 : decode cL_law 788 = .ok (.aload_n 2, 1) := by decide +kernel
theorem dL_law_789 : decode cL_law 789 = .ok (.aload_n 0, 1) := by decide +kernel
theorem dL_law_790 : decode cL_law 790 = .ok (.iload_n 3, 1) := by decide +kernel
theorem dL_law_791 : decode cL_law 791 = .ok (.iconst 1, 1) := by decide +kernel
theorem dL_law_792 : decode cL_law 792 = .ok (.iadd, 1) := by decide +kernel
theorem dL_law_793 : decode cL_law 793 = .ok (.iaload, 1) := by decide +kernel
theorem dL_law_794 : decode cL_law 794 = .ok (.invokevirtual 104, 3) := by decide +kernel
theorem dL_law_797 : decode cL_law 797 = .ok (.if_icmp .eq 5, 3) := by decide +kernel
theorem dL_law_800 : decode cL_law 800 = .ok (.iconst 0, 1) := by decide +kernel
theorem dL_law_801 : decode cL_law 801 = .ok (.ireturn, 1) := by decide +kernel
theorem dL_law_802 : decode cL_law 802 = .ok (.iinc 3 4, 3) := by decide +kernel
theorem dL_law_805 : decode cL_law 805 = .ok (.goto (-787), 3) := by decide +kernel
theorem dL_law_808 : decode cL_law 808 = .ok (.iconst 1, 1) := by decide +kernel
theorem dL_law_809 : decode cL_law 809 = .ok (.ireturn, 1) := by decide +kernel
end
section
def wsG : List Cond := lw_tbl.filter goodWord
theorem wsG_in {w : Cond} (h : w ∈ wsG) : w ∈ lw_tbl := (List.mem_filter.mp h).1
theorem wsG_ok {w : Cond} (h : w ∈ wsG) : goodWord w = true := (List.mem_filter.mp h).2
theorem wsG_mem {w : Cond} (i : Nat) (h : lw_tbl[i]? = some w) (g : goodWord w = true) : w ∈ wsG := List.mem_filter.mpr ⟨List.mem_of_getElem? h, g⟩
theorem lk_L_7 : Cond.classLink RL 7 RX3 ∈ wsG := wsG_mem 62 (by decide +kernel) (by decide +kernel)
theorem mk_X3 : Cond.instantiable RX3 2 ∈ wsG := wsG_mem 63 (by decide +kernel) (by decide +kernel)
theorem mt_X3 : Cond.initialized RX3 ∈ wsG := wsG_mem 52 (by decide +kernel) (by decide +kernel)
theorem lk_L_10 : Cond.classLink RL 10 RX4 ∈ wsG := wsG_mem 471 (by decide +kernel) (by decide +kernel)
theorem mk_X4 : Cond.instantiable RX4 19 ∈ wsG := wsG_mem 472 (by decide +kernel) (by decide +kernel)
theorem mt_X4 : Cond.initialized RX4 ∈ wsG := wsG_mem 56 (by decide +kernel) (by decide +kernel)
theorem lk_L_9 : Cond.methodLink RL 9 yX3_init ∈ wsG := wsG_mem 64 (by decide +kernel) (by decide +kernel)
theorem mn_X3_init : Cond.instanceMethod yX3_init ∈ wsG := wsG_mem 65 (by decide +kernel) (by decide +kernel)
theorem mc_X3_init : Cond.code yX3_init cX3_init 1 none ∈ wsG := wsG_mem 66 (by decide +kernel) (by decide +kernel)
theorem lk_X3_1 : Cond.methodLink RX3 1 objectInit ∈ wsG := wsG_mem 67 (by decide +kernel) (by decide +kernel)
theorem mn_objectInit : Cond.instanceMethod objectInit ∈ wsG := wsG_mem 68 (by decide +kernel) (by decide +kernel)
theorem mc_objectInit : Cond.code objectInit ⟨#[0xb1]⟩ 1 none ∈ wsG := wsG_mem 69 (by decide +kernel) (by decide +kernel)
theorem lk_X3_7 : Cond.classLink RX3 7 RX2 ∈ wsG := wsG_mem 70 (by decide +kernel) (by decide +kernel)
theorem mk_X2 : Cond.instantiable RX2 12 ∈ wsG := wsG_mem 71 (by decide +kernel) (by decide +kernel)
theorem mt_X2 : Cond.initialized RX2 ∈ wsG := wsG_mem 53 (by decide +kernel) (by decide +kernel)
theorem lk_X3_10 : Cond.fieldLink RX3 10 "NamePassingComparer" "store" "LNamePassingComparer$Store;" ∈ wsG := wsG_mem 167 (by decide +kernel) (by decide +kernel)
theorem lk_X3_16 : Cond.classLink RX3 16 RX0 ∈ wsG := wsG_mem 154 (by decide +kernel) (by decide +kernel)
theorem mk_X0 : Cond.instantiable RX0 2 ∈ wsG := wsG_mem 155 (by decide +kernel) (by decide +kernel)
theorem mt_X0 : Cond.initialized RX0 ∈ wsG := wsG_mem 55 (by decide +kernel) (by decide +kernel)
theorem lk_X3_21 : Cond.fieldLink RX3 21 "NamePassingComparer" "game" "LNamePassingComparer$Game;" ∈ wsG := wsG_mem 168 (by decide +kernel) (by decide +kernel)
theorem mn_X2_init : Cond.instanceMethod yX2_init ∈ wsG := wsG_mem 73 (by decide +kernel) (by decide +kernel)
theorem mc_X2_init : Cond.code yX2_init cX2_init 1 none ∈ wsG := wsG_mem 74 (by decide +kernel) (by decide +kernel)
theorem lk_X2_3 : Cond.methodLink RX2 3 objectInit ∈ wsG := wsG_mem 75 (by decide +kernel) (by decide +kernel)
theorem ma_int : Cond.arrayClass .int ∈ wsG := wsG_mem 151 (by decide +kernel) (by decide +kernel)
theorem lk_X2_9 : Cond.fieldLink RX2 9 "NamePassingComparer$Store" "kinds" "[I" ∈ wsG := wsG_mem 103 (by decide +kernel) (by decide +kernel)
theorem lk_X2_15 : Cond.fieldLink RX2 15 "NamePassingComparer$Store" "channels" "[I" ∈ wsG := wsG_mem 106 (by decide +kernel) (by decide +kernel)
theorem lk_X2_18 : Cond.fieldLink RX2 18 "NamePassingComparer$Store" "objects" "[I" ∈ wsG := wsG_mem 109 (by decide +kernel) (by decide +kernel)
theorem lk_X2_21 : Cond.fieldLink RX2 21 "NamePassingComparer$Store" "firstParts" "[I" ∈ wsG := wsG_mem 112 (by decide +kernel) (by decide +kernel)
theorem lk_X2_24 : Cond.fieldLink RX2 24 "NamePassingComparer$Store" "secondParts" "[I" ∈ wsG := wsG_mem 115 (by decide +kernel) (by decide +kernel)
theorem lk_X2_27 : Cond.fieldLink RX2 27 "NamePassingComparer$Store" "depths" "[I" ∈ wsG := wsG_mem 117 (by decide +kernel) (by decide +kernel)
theorem lk_X2_30 : Cond.fieldLink RX2 30 "NamePassingComparer$Store" "breadths" "[I" ∈ wsG := wsG_mem 119 (by decide +kernel) (by decide +kernel)
theorem lk_X2_33 : Cond.fieldLink RX2 33 "NamePassingComparer$Store" "needs" "[I" ∈ wsG := wsG_mem 120 (by decide +kernel) (by decide +kernel)
theorem lk_X2_40 : Cond.fieldLink RX2 40 "NamePassingComparer$Store" "lengths" "[I" ∈ wsG := wsG_mem 122 (by decide +kernel) (by decide +kernel)
theorem lk_X2_43 : Cond.fieldLink RX2 43 "NamePassingComparer$Store" "actions" "[I" ∈ wsG := wsG_mem 124 (by decide +kernel) (by decide +kernel)
theorem ma_long : Cond.arrayClass .long ∈ wsG := wsG_mem 153 (by decide +kernel) (by decide +kernel)
theorem lk_X2_46 : Cond.fieldLink RX2 46 "NamePassingComparer$Store" "guards" "[J" ∈ wsG := wsG_mem 125 (by decide +kernel) (by decide +kernel)
theorem lk_X2_50 : Cond.fieldLink RX2 50 "NamePassingComparer$Store" "count" "I" ∈ wsG := wsG_mem 101 (by decide +kernel) (by decide +kernel)
theorem lk_X2_36 : Cond.methodLink RX2 36 yX2_lengthsOfNew ∈ wsG := wsG_mem 76 (by decide +kernel) (by decide +kernel)
theorem ms_X2_lengthsOfNew : Cond.static yX2_lengthsOfNew ∈ wsG := wsG_mem 77 (by decide +kernel) (by decide +kernel)
theorem mc_X2_lengthsOfNew : Cond.code yX2_lengthsOfNew cX2_lengthsOfNew 1 (some (.array .int)) ∈ wsG := wsG_mem 78 (by decide +kernel) (by decide +kernel)
theorem lk_X2_54 : Cond.methodLink RX2 54 yX2_headOf ∈ wsG := wsG_mem 79 (by decide +kernel) (by decide +kernel)
theorem ms_X2_headOf : Cond.static yX2_headOf ∈ wsG := wsG_mem 80 (by decide +kernel) (by decide +kernel)
theorem mc_X2_headOf : Cond.code yX2_headOf cX2_headOf 1 (some (.object "java/lang/String")) ∈ wsG := wsG_mem 81 (by decide +kernel) (by decide +kernel)
theorem lk_X2_58 : Cond.methodLink RX2 58 yJ0_length_8abf5 ∈ wsG := wsG_mem 88 (by decide +kernel) (by decide +kernel)
theorem mn_J0_length_8abf5 : Cond.instanceMethod yJ0_length_8abf5 ∈ wsG := wsG_mem 89 (by decide +kernel) (by decide +kernel)
theorem mv_J0_length_8abf5 : Cond.selects RJ0 yJ0_length_8abf5 yJ0_length_8abf5 ∈ wsG := wsG_mem 90 (by decide +kernel) (by decide +kernel)
theorem mt_J0 : Cond.initialized RJ0 ∈ wsG := wsG_mem 54 (by decide +kernel) (by decide +kernel)
theorem mc_J0_length_8abf5 : Cond.code yJ0_length_8abf5 cJ0_length_8abf5 1 (some .int) ∈ wsG := wsG_mem 91 (by decide +kernel) (by decide +kernel)
theorem lk_J0_9 : Cond.fieldLink RJ0 9 "java/lang/String" "value" "[B" ∈ wsG := wsG_mem 737 (by decide +kernel) (by decide +kernel)
theorem lk_J0_335 : Cond.methodLink RJ0 335 yJ0_coder_7d493 ∈ wsG := wsG_mem 92 (by decide +kernel) (by decide +kernel)
theorem mn_J0_coder_7d493 : Cond.instanceMethod yJ0_coder_7d493 ∈ wsG := wsG_mem 93 (by decide +kernel) (by decide +kernel)
theorem mv_J0_coder_7d493 : Cond.selects RJ0 yJ0_coder_7d493 yJ0_coder_7d493 ∈ wsG := wsG_mem 94 (by decide +kernel) (by decide +kernel)
theorem mc_J0_coder_7d493 : Cond.code yJ0_coder_7d493 cJ0_coder_7d493 1 (some .byte) ∈ wsG := wsG_mem 95 (by decide +kernel) (by decide +kernel)
theorem lk_J0_38 : Cond.fieldLink RJ0 38 "java/lang/String" "COMPACT_STRINGS" "Z" ∈ wsG := wsG_mem 96 (by decide +kernel) (by decide +kernel)
theorem lk_J0_15 : Cond.fieldLink RJ0 15 "java/lang/String" "coder" "B" ∈ wsG := wsG_mem 738 (by decide +kernel) (by decide +kernel)
theorem ms_X3_put : Cond.static yX3_put ∈ wsG := wsG_mem 99 (by decide +kernel) (by decide +kernel)
theorem mc_X3_put : Cond.code yX3_put cX3_put 3 none ∈ wsG := wsG_mem 100 (by decide +kernel) (by decide +kernel)
theorem mn_X0_init : Cond.instanceMethod yX0_init ∈ wsG := wsG_mem 157 (by decide +kernel) (by decide +kernel)
theorem mc_X0_init : Cond.code yX0_init cX0_init 2 none ∈ wsG := wsG_mem 158 (by decide +kernel) (by decide +kernel)
theorem lk_X0_3 : Cond.methodLink RX0 3 objectInit ∈ wsG := wsG_mem 159 (by decide +kernel) (by decide +kernel)
theorem lk_X0_9 : Cond.fieldLink RX0 9 "NamePassingComparer$Game" "store" "LNamePassingComparer$Store;" ∈ wsG := wsG_mem 160 (by decide +kernel) (by decide +kernel)
theorem lk_X0_15 : Cond.fieldLink RX0 15 "NamePassingComparer$Game" "worths" "[I" ∈ wsG := wsG_mem 161 (by decide +kernel) (by decide +kernel)
theorem lk_L_12 : Cond.methodLink RL 12 yX4_init ∈ wsG := wsG_mem 473 (by decide +kernel) (by decide +kernel)
theorem mn_X4_init : Cond.instanceMethod yX4_init ∈ wsG := wsG_mem 474 (by decide +kernel) (by decide +kernel)
theorem mc_X4_init : Cond.code yX4_init cX4_init 1 none ∈ wsG := wsG_mem 475 (by decide +kernel) (by decide +kernel)
theorem lk_X4_1 : Cond.methodLink RX4 1 objectInit ∈ wsG := wsG_mem 476 (by decide +kernel) (by decide +kernel)
theorem lk_X4_7 : Cond.fieldLink RX4 7 "NamePassingComparerModel" "processes" "I" ∈ wsG := wsG_mem 477 (by decide +kernel) (by decide +kernel)
theorem lk_X4_13 : Cond.fieldLink RX4 13 "NamePassingComparerModel" "kind" "[I" ∈ wsG := wsG_mem 478 (by decide +kernel) (by decide +kernel)
theorem lk_X4_17 : Cond.fieldLink RX4 17 "NamePassingComparerModel" "nameX" "[I" ∈ wsG := wsG_mem 479 (by decide +kernel) (by decide +kernel)
theorem lk_X4_20 : Cond.fieldLink RX4 20 "NamePassingComparerModel" "nameY" "[I" ∈ wsG := wsG_mem 480 (by decide +kernel) (by decide +kernel)
theorem lk_X4_23 : Cond.fieldLink RX4 23 "NamePassingComparerModel" "partP" "[I" ∈ wsG := wsG_mem 481 (by decide +kernel) (by decide +kernel)
theorem lk_X4_26 : Cond.fieldLink RX4 26 "NamePassingComparerModel" "partQ" "[I" ∈ wsG := wsG_mem 482 (by decide +kernel) (by decide +kernel)
theorem lk_X4_29 : Cond.fieldLink RX4 29 "NamePassingComparerModel" "depth" "[I" ∈ wsG := wsG_mem 483 (by decide +kernel) (by decide +kernel)
theorem lk_X4_32 : Cond.fieldLink RX4 32 "NamePassingComparerModel" "breadth" "[I" ∈ wsG := wsG_mem 484 (by decide +kernel) (by decide +kernel)
theorem lk_X4_35 : Cond.fieldLink RX4 35 "NamePassingComparerModel" "need" "[I" ∈ wsG := wsG_mem 485 (by decide +kernel) (by decide +kernel)
theorem lk_X4_38 : Cond.fieldLink RX4 38 "NamePassingComparerModel" "length" "[I" ∈ wsG := wsG_mem 486 (by decide +kernel) (by decide +kernel)
theorem lk_X4_41 : Cond.fieldLink RX4 41 "NamePassingComparerModel" "count" "[I" ∈ wsG := wsG_mem 487 (by decide +kernel) (by decide +kernel)
theorem lk_X4_44 : Cond.fieldLink RX4 44 "NamePassingComparerModel" "moveOf" "[I" ∈ wsG := wsG_mem 488 (by decide +kernel) (by decide +kernel)
theorem lk_X4_47 : Cond.fieldLink RX4 47 "NamePassingComparerModel" "subject" "[I" ∈ wsG := wsG_mem 489 (by decide +kernel) (by decide +kernel)
theorem lk_X4_50 : Cond.fieldLink RX4 50 "NamePassingComparerModel" "object" "[I" ∈ wsG := wsG_mem 490 (by decide +kernel) (by decide +kernel)
theorem lk_X4_53 : Cond.fieldLink RX4 53 "NamePassingComparerModel" "target" "[I" ∈ wsG := wsG_mem 491 (by decide +kernel) (by decide +kernel)
theorem lk_X4_56 : Cond.fieldLink RX4 56 "NamePassingComparerModel" "values" "[I" ∈ wsG := wsG_mem 492 (by decide +kernel) (by decide +kernel)
theorem lk_X4_59 : Cond.fieldLink RX4 59 "NamePassingComparerModel" "fresh" "[I" ∈ wsG := wsG_mem 493 (by decide +kernel) (by decide +kernel)
theorem lk_X4_62 : Cond.fieldLink RX4 62 "NamePassingComparerModel" "stack" "[I" ∈ wsG := wsG_mem 494 (by decide +kernel) (by decide +kernel)
theorem lk_L_13 : Cond.methodLink RL 13 yX3_tau ∈ wsG := wsG_mem 174 (by decide +kernel) (by decide +kernel)
theorem mn_X3_tau : Cond.instanceMethod yX3_tau ∈ wsG := wsG_mem 175 (by decide +kernel) (by decide +kernel)
theorem mv_X3_tau : Cond.selects RX3 yX3_tau yX3_tau ∈ wsG := wsG_mem 176 (by decide +kernel) (by decide +kernel)
theorem mc_X3_tau : Cond.code yX3_tau cX3_tau 2 (some .int) ∈ wsG := wsG_mem 177 (by decide +kernel) (by decide +kernel)
theorem mn_X2_holds : Cond.instanceMethod yX2_holds ∈ wsG := wsG_mem 180 (by decide +kernel) (by decide +kernel)
theorem mv_X2_holds : Cond.selects RX2 yX2_holds yX2_holds ∈ wsG := wsG_mem 0 (by decide +kernel) (by decide +kernel)
theorem mc_X2_holds : Cond.code yX2_holds cX2_holds 2 (some .boolean) ∈ wsG := wsG_mem 181 (by decide +kernel) (by decide +kernel)
theorem mn_X2_build : Cond.instanceMethod yX2_build ∈ wsG := wsG_mem 184 (by decide +kernel) (by decide +kernel)
theorem mv_X2_build : Cond.selects RX2 yX2_build yX2_build ∈ wsG := wsG_mem 1 (by decide +kernel) (by decide +kernel)
theorem mc_X2_build : Cond.code yX2_build cX2_build 9 (some .int) ∈ wsG := wsG_mem 185 (by decide +kernel) (by decide +kernel)
theorem lk_X2_72 : Cond.methodLink RX2 72 Lib.Math.max.name ∈ wsG := wsG_mem 189 (by decide +kernel) (by decide +kernel)
theorem ms_Math_max : Cond.static Lib.Math.max.name ∈ wsG := wsG_mem 190 (by decide +kernel) (by decide +kernel)
theorem mt_java_lang_Math : Cond.initialized "java/lang/Math" ∈ wsG := wsG_mem 57 (by decide +kernel) (by decide +kernel)
theorem mc_Math_max : Cond.code Lib.Math.max.name Lib.Math.max.code 2 (some .int) ∈ wsG := wsG_mem 191 (by decide +kernel) (by decide +kernel)
theorem ms_X3_at : Cond.static yX3_at ∈ wsG := wsG_mem 187 (by decide +kernel) (by decide +kernel)
theorem mc_X3_at : Cond.code yX3_at cX3_at 2 (some .int) ∈ wsG := wsG_mem 188 (by decide +kernel) (by decide +kernel)
theorem lk_X2_78 : Cond.methodLink RX2 78 yX2_isAction ∈ wsG := wsG_mem 192 (by decide +kernel) (by decide +kernel)
theorem ms_X2_isAction : Cond.static yX2_isAction ∈ wsG := wsG_mem 193 (by decide +kernel) (by decide +kernel)
theorem mc_X2_isAction : Cond.code yX2_isAction cX2_isAction 1 (some .boolean) ∈ wsG := wsG_mem 194 (by decide +kernel) (by decide +kernel)
theorem lk_X2_82 : Cond.methodLink RX2 82 yX2_needFor ∈ wsG := wsG_mem 195 (by decide +kernel) (by decide +kernel)
theorem mn_X2_needFor : Cond.instanceMethod yX2_needFor ∈ wsG := wsG_mem 197 (by decide +kernel) (by decide +kernel)
theorem mv_X2_needFor : Cond.selects RX2 yX2_needFor yX2_needFor ∈ wsG := wsG_mem 2 (by decide +kernel) (by decide +kernel)
theorem mc_X2_needFor : Cond.code yX2_needFor cX2_needFor 9 (some .int) ∈ wsG := wsG_mem 198 (by decide +kernel) (by decide +kernel)
theorem lk_X2_86 : Cond.methodLink RX2 86 yX2_lengthFor ∈ wsG := wsG_mem 199 (by decide +kernel) (by decide +kernel)
theorem mn_X2_lengthFor : Cond.instanceMethod yX2_lengthFor ∈ wsG := wsG_mem 201 (by decide +kernel) (by decide +kernel)
theorem mv_X2_lengthFor : Cond.selects RX2 yX2_lengthFor yX2_lengthFor ∈ wsG := wsG_mem 3 (by decide +kernel) (by decide +kernel)
theorem mc_X2_lengthFor : Cond.code yX2_lengthFor cX2_lengthFor 5 (some .int) ∈ wsG := wsG_mem 202 (by decide +kernel) (by decide +kernel)
theorem lk_X2_90 : Cond.methodLink RX2 90 yX2_putActions ∈ wsG := wsG_mem 203 (by decide +kernel) (by decide +kernel)
theorem mn_X2_putActions : Cond.instanceMethod yX2_putActions ∈ wsG := wsG_mem 205 (by decide +kernel) (by decide +kernel)
theorem mv_X2_putActions : Cond.selects RX2 yX2_putActions yX2_putActions ∈ wsG := wsG_mem 4 (by decide +kernel) (by decide +kernel)
theorem mc_X2_putActions : Cond.code yX2_putActions cX2_putActions 9 none ∈ wsG := wsG_mem 206 (by decide +kernel) (by decide +kernel)
theorem ms_X3_put_ : Cond.static yX3_put_ ∈ wsG := wsG_mem 208 (by decide +kernel) (by decide +kernel)
theorem mc_X3_put_ : Cond.code yX3_put_ cX3_put_ 4 none ∈ wsG := wsG_mem 209 (by decide +kernel) (by decide +kernel)
theorem lk_X2_99 : Cond.methodLink RX2 99 yX2_copyActions ∈ wsG := wsG_mem 210 (by decide +kernel) (by decide +kernel)
theorem mn_X2_copyActions : Cond.instanceMethod yX2_copyActions ∈ wsG := wsG_mem 212 (by decide +kernel) (by decide +kernel)
theorem mv_X2_copyActions : Cond.selects RX2 yX2_copyActions yX2_copyActions ∈ wsG := wsG_mem 5 (by decide +kernel) (by decide +kernel)
theorem mc_X2_copyActions : Cond.code yX2_copyActions cX2_copyActions 9 none ∈ wsG := wsG_mem 213 (by decide +kernel) (by decide +kernel)
theorem ms_X3_at_ : Cond.static yX3_at_ ∈ wsG := wsG_mem 215 (by decide +kernel) (by decide +kernel)
theorem mc_X3_at_ : Cond.code yX3_at_ cX3_at_ 2 (some .long) ∈ wsG := wsG_mem 216 (by decide +kernel) (by decide +kernel)
theorem lk_L_17 : Cond.methodLink RL 17 yX4_tau ∈ wsG := wsG_mem 535 (by decide +kernel) (by decide +kernel)
theorem mn_X4_tau : Cond.instanceMethod yX4_tau ∈ wsG := wsG_mem 536 (by decide +kernel) (by decide +kernel)
theorem mv_X4_tau : Cond.selects RX4 yX4_tau yX4_tau ∈ wsG := wsG_mem 537 (by decide +kernel) (by decide +kernel)
theorem mc_X4_tau : Cond.code yX4_tau cX4_tau 2 (some .int) ∈ wsG := wsG_mem 538 (by decide +kernel) (by decide +kernel)
theorem lk_X4_77 : Cond.methodLink RX4 77 yX4_isProcess ∈ wsG := wsG_mem 539 (by decide +kernel) (by decide +kernel)
theorem mn_X4_isProcess : Cond.instanceMethod yX4_isProcess ∈ wsG := wsG_mem 541 (by decide +kernel) (by decide +kernel)
theorem mv_X4_isProcess : Cond.selects RX4 yX4_isProcess yX4_isProcess ∈ wsG := wsG_mem 27 (by decide +kernel) (by decide +kernel)
theorem mc_X4_isProcess : Cond.code yX4_isProcess cX4_isProcess 2 (some .boolean) ∈ wsG := wsG_mem 542 (by decide +kernel) (by decide +kernel)
theorem lk_X4_65 : Cond.methodLink RX4 65 yX4_in ∈ wsG := wsG_mem 543 (by decide +kernel) (by decide +kernel)
theorem ms_X4_in : Cond.static yX4_in ∈ wsG := wsG_mem 544 (by decide +kernel) (by decide +kernel)
theorem mc_X4_in : Cond.code yX4_in cX4_in 3 (some .boolean) ∈ wsG := wsG_mem 545 (by decide +kernel) (by decide +kernel)
theorem lk_X4_81 : Cond.methodLink RX4 81 yX4_builds ∈ wsG := wsG_mem 546 (by decide +kernel) (by decide +kernel)
theorem mn_X4_builds : Cond.instanceMethod yX4_builds ∈ wsG := wsG_mem 548 (by decide +kernel) (by decide +kernel)
theorem mv_X4_builds : Cond.selects RX4 yX4_builds yX4_builds ∈ wsG := wsG_mem 28 (by decide +kernel) (by decide +kernel)
theorem mc_X4_builds : Cond.code yX4_builds cX4_builds 10 (some .int) ∈ wsG := wsG_mem 549 (by decide +kernel) (by decide +kernel)
theorem lk_X4_69 : Cond.methodLink RX4 69 yX4_larger ∈ wsG := wsG_mem 550 (by decide +kernel) (by decide +kernel)
theorem ms_X4_larger : Cond.static yX4_larger ∈ wsG := wsG_mem 551 (by decide +kernel) (by decide +kernel)
theorem mc_X4_larger : Cond.code yX4_larger cX4_larger 2 (some .int) ∈ wsG := wsG_mem 552 (by decide +kernel) (by decide +kernel)
theorem lk_X4_73 : Cond.methodLink RX4 73 yX4_needed ∈ wsG := wsG_mem 553 (by decide +kernel) (by decide +kernel)
theorem ms_X4_needed : Cond.static yX4_needed ∈ wsG := wsG_mem 554 (by decide +kernel) (by decide +kernel)
theorem mc_X4_needed : Cond.code yX4_needed cX4_needed 1 (some .int) ∈ wsG := wsG_mem 555 (by decide +kernel) (by decide +kernel)
theorem lk_L_18 : Cond.methodLink RL 18 yX3_output ∈ wsG := wsG_mem 217 (by decide +kernel) (by decide +kernel)
theorem mn_X3_output : Cond.instanceMethod yX3_output ∈ wsG := wsG_mem 218 (by decide +kernel) (by decide +kernel)
theorem mv_X3_output : Cond.selects RX3 yX3_output yX3_output ∈ wsG := wsG_mem 219 (by decide +kernel) (by decide +kernel)
theorem mc_X3_output : Cond.code yX3_output cX3_output 4 (some .int) ∈ wsG := wsG_mem 220 (by decide +kernel) (by decide +kernel)
theorem lk_X3_33 : Cond.methodLink RX3 33 yX3_isName ∈ wsG := wsG_mem 221 (by decide +kernel) (by decide +kernel)
theorem ms_X3_isName : Cond.static yX3_isName ∈ wsG := wsG_mem 222 (by decide +kernel) (by decide +kernel)
theorem mc_X3_isName : Cond.code yX3_isName cX3_isName 1 (some .boolean) ∈ wsG := wsG_mem 223 (by decide +kernel) (by decide +kernel)
theorem lk_L_22 : Cond.methodLink RL 22 yX4_output ∈ wsG := wsG_mem 556 (by decide +kernel) (by decide +kernel)
theorem mn_X4_output : Cond.instanceMethod yX4_output ∈ wsG := wsG_mem 557 (by decide +kernel) (by decide +kernel)
theorem mv_X4_output : Cond.selects RX4 yX4_output yX4_output ∈ wsG := wsG_mem 558 (by decide +kernel) (by decide +kernel)
theorem mc_X4_output : Cond.code yX4_output cX4_output 4 (some .int) ∈ wsG := wsG_mem 559 (by decide +kernel) (by decide +kernel)
theorem lk_X4_85 : Cond.methodLink RX4 85 yX4_isName ∈ wsG := wsG_mem 560 (by decide +kernel) (by decide +kernel)
theorem ms_X4_isName : Cond.static yX4_isName ∈ wsG := wsG_mem 561 (by decide +kernel) (by decide +kernel)
theorem mc_X4_isName : Cond.code yX4_isName cX4_isName 1 (some .boolean) ∈ wsG := wsG_mem 562 (by decide +kernel) (by decide +kernel)
theorem lk_L_23 : Cond.methodLink RL 23 yX3_input ∈ wsG := wsG_mem 224 (by decide +kernel) (by decide +kernel)
theorem mn_X3_input : Cond.instanceMethod yX3_input ∈ wsG := wsG_mem 225 (by decide +kernel) (by decide +kernel)
theorem mv_X3_input : Cond.selects RX3 yX3_input yX3_input ∈ wsG := wsG_mem 226 (by decide +kernel) (by decide +kernel)
theorem mc_X3_input : Cond.code yX3_input cX3_input 3 (some .int) ∈ wsG := wsG_mem 227 (by decide +kernel) (by decide +kernel)
theorem lk_L_27 : Cond.methodLink RL 27 yX4_input ∈ wsG := wsG_mem 563 (by decide +kernel) (by decide +kernel)
theorem mn_X4_input : Cond.instanceMethod yX4_input ∈ wsG := wsG_mem 564 (by decide +kernel) (by decide +kernel)
theorem mv_X4_input : Cond.selects RX4 yX4_input yX4_input ∈ wsG := wsG_mem 565 (by decide +kernel) (by decide +kernel)
theorem mc_X4_input : Cond.code yX4_input cX4_input 3 (some .int) ∈ wsG := wsG_mem 566 (by decide +kernel) (by decide +kernel)
theorem lk_L_28 : Cond.methodLink RL 28 yX3_match ∈ wsG := wsG_mem 228 (by decide +kernel) (by decide +kernel)
theorem mn_X3_match : Cond.instanceMethod yX3_match ∈ wsG := wsG_mem 229 (by decide +kernel) (by decide +kernel)
theorem mv_X3_match : Cond.selects RX3 yX3_match yX3_match ∈ wsG := wsG_mem 230 (by decide +kernel) (by decide +kernel)
theorem mc_X3_match : Cond.code yX3_match cX3_match 4 (some .int) ∈ wsG := wsG_mem 231 (by decide +kernel) (by decide +kernel)
theorem lk_L_31 : Cond.methodLink RL 31 yX4_match ∈ wsG := wsG_mem 567 (by decide +kernel) (by decide +kernel)
theorem mn_X4_match : Cond.instanceMethod yX4_match ∈ wsG := wsG_mem 568 (by decide +kernel) (by decide +kernel)
theorem mv_X4_match : Cond.selects RX4 yX4_match yX4_match ∈ wsG := wsG_mem 569 (by decide +kernel) (by decide +kernel)
theorem mc_X4_match : Cond.code yX4_match cX4_match 4 (some .int) ∈ wsG := wsG_mem 570 (by decide +kernel) (by decide +kernel)
theorem lk_L_32 : Cond.methodLink RL 32 yX3_sum ∈ wsG := wsG_mem 232 (by decide +kernel) (by decide +kernel)
theorem mn_X3_sum : Cond.instanceMethod yX3_sum ∈ wsG := wsG_mem 233 (by decide +kernel) (by decide +kernel)
theorem mv_X3_sum : Cond.selects RX3 yX3_sum yX3_sum ∈ wsG := wsG_mem 234 (by decide +kernel) (by decide +kernel)
theorem mc_X3_sum : Cond.code yX3_sum cX3_sum 3 (some .int) ∈ wsG := wsG_mem 235 (by decide +kernel) (by decide +kernel)
theorem lk_L_35 : Cond.methodLink RL 35 yX4_sum ∈ wsG := wsG_mem 571 (by decide +kernel) (by decide +kernel)
theorem mn_X4_sum : Cond.instanceMethod yX4_sum ∈ wsG := wsG_mem 572 (by decide +kernel) (by decide +kernel)
theorem mv_X4_sum : Cond.selects RX4 yX4_sum yX4_sum ∈ wsG := wsG_mem 573 (by decide +kernel) (by decide +kernel)
theorem mc_X4_sum : Cond.code yX4_sum cX4_sum 3 (some .int) ∈ wsG := wsG_mem 574 (by decide +kernel) (by decide +kernel)
theorem lk_L_36 : Cond.methodLink RL 36 yX3_removeLast ∈ wsG := wsG_mem 236 (by decide +kernel) (by decide +kernel)
theorem mn_X3_removeLast : Cond.instanceMethod yX3_removeLast ∈ wsG := wsG_mem 237 (by decide +kernel) (by decide +kernel)
theorem mv_X3_removeLast : Cond.selects RX3 yX3_removeLast yX3_removeLast ∈ wsG := wsG_mem 238 (by decide +kernel) (by decide +kernel)
theorem mc_X3_removeLast : Cond.code yX3_removeLast cX3_removeLast 2 (some .int) ∈ wsG := wsG_mem 239 (by decide +kernel) (by decide +kernel)
theorem mn_X0_forget : Cond.instanceMethod yX0_forget ∈ wsG := wsG_mem 242 (by decide +kernel) (by decide +kernel)
theorem mv_X0_forget : Cond.selects RX0 yX0_forget yX0_forget ∈ wsG := wsG_mem 6 (by decide +kernel) (by decide +kernel)
theorem mc_X0_forget : Cond.code yX0_forget cX0_forget 5 none ∈ wsG := wsG_mem 243 (by decide +kernel) (by decide +kernel)
theorem lk_X0_19 : Cond.methodLink RX0 19 yX0_firstPlace ∈ wsG := wsG_mem 244 (by decide +kernel) (by decide +kernel)
theorem ms_X0_firstPlace : Cond.static yX0_firstPlace ∈ wsG := wsG_mem 245 (by decide +kernel) (by decide +kernel)
theorem mc_X0_firstPlace : Cond.code yX0_firstPlace cX0_firstPlace 1 (some .int) ∈ wsG := wsG_mem 246 (by decide +kernel) (by decide +kernel)
theorem lk_L_40 : Cond.methodLink RL 40 yX4_removeLast ∈ wsG := wsG_mem 575 (by decide +kernel) (by decide +kernel)
theorem mn_X4_removeLast : Cond.instanceMethod yX4_removeLast ∈ wsG := wsG_mem 576 (by decide +kernel) (by decide +kernel)
theorem mv_X4_removeLast : Cond.selects RX4 yX4_removeLast yX4_removeLast ∈ wsG := wsG_mem 577 (by decide +kernel) (by decide +kernel)
theorem mc_X4_removeLast : Cond.code yX4_removeLast cX4_removeLast 1 (some .int) ∈ wsG := wsG_mem 578 (by decide +kernel) (by decide +kernel)
theorem lk_L_41 : Cond.methodLink RL 41 yX3_processCount ∈ wsG := wsG_mem 248 (by decide +kernel) (by decide +kernel)
theorem mn_X3_processCount : Cond.instanceMethod yX3_processCount ∈ wsG := wsG_mem 249 (by decide +kernel) (by decide +kernel)
theorem mv_X3_processCount : Cond.selects RX3 yX3_processCount yX3_processCount ∈ wsG := wsG_mem 250 (by decide +kernel) (by decide +kernel)
theorem mc_X3_processCount : Cond.code yX3_processCount cX3_processCount 1 (some .int) ∈ wsG := wsG_mem 251 (by decide +kernel) (by decide +kernel)
theorem lk_L_44 : Cond.methodLink RL 44 yX4_processCount ∈ wsG := wsG_mem 579 (by decide +kernel) (by decide +kernel)
theorem mn_X4_processCount : Cond.instanceMethod yX4_processCount ∈ wsG := wsG_mem 580 (by decide +kernel) (by decide +kernel)
theorem mv_X4_processCount : Cond.selects RX4 yX4_processCount yX4_processCount ∈ wsG := wsG_mem 581 (by decide +kernel) (by decide +kernel)
theorem mc_X4_processCount : Cond.code yX4_processCount cX4_processCount 1 (some .int) ∈ wsG := wsG_mem 582 (by decide +kernel) (by decide +kernel)
theorem lk_L_45 : Cond.methodLink RL 45 yX3_kindOf ∈ wsG := wsG_mem 252 (by decide +kernel) (by decide +kernel)
theorem mn_X3_kindOf : Cond.instanceMethod yX3_kindOf ∈ wsG := wsG_mem 253 (by decide +kernel) (by decide +kernel)
theorem mv_X3_kindOf : Cond.selects RX3 yX3_kindOf yX3_kindOf ∈ wsG := wsG_mem 254 (by decide +kernel) (by decide +kernel)
theorem mc_X3_kindOf : Cond.code yX3_kindOf cX3_kindOf 2 (some .int) ∈ wsG := wsG_mem 255 (by decide +kernel) (by decide +kernel)
theorem lk_X3_48 : Cond.methodLink RX3 48 yX3_at ∈ wsG := wsG_mem 256 (by decide +kernel) (by decide +kernel)
theorem lk_L_48 : Cond.methodLink RL 48 yX4_kindOf ∈ wsG := wsG_mem 583 (by decide +kernel) (by decide +kernel)
theorem mn_X4_kindOf : Cond.instanceMethod yX4_kindOf ∈ wsG := wsG_mem 584 (by decide +kernel) (by decide +kernel)
theorem mv_X4_kindOf : Cond.selects RX4 yX4_kindOf yX4_kindOf ∈ wsG := wsG_mem 585 (by decide +kernel) (by decide +kernel)
theorem mc_X4_kindOf : Cond.code yX4_kindOf cX4_kindOf 2 (some .int) ∈ wsG := wsG_mem 586 (by decide +kernel) (by decide +kernel)
theorem lk_L_49 : Cond.methodLink RL 49 yX3_partOf ∈ wsG := wsG_mem 257 (by decide +kernel) (by decide +kernel)
theorem mn_X3_partOf : Cond.instanceMethod yX3_partOf ∈ wsG := wsG_mem 258 (by decide +kernel) (by decide +kernel)
theorem mv_X3_partOf : Cond.selects RX3 yX3_partOf yX3_partOf ∈ wsG := wsG_mem 259 (by decide +kernel) (by decide +kernel)
theorem mc_X3_partOf : Cond.code yX3_partOf cX3_partOf 3 (some .int) ∈ wsG := wsG_mem 260 (by decide +kernel) (by decide +kernel)
theorem ms_X2_partsOfKind : Cond.static yX2_partsOfKind ∈ wsG := wsG_mem 262 (by decide +kernel) (by decide +kernel)
theorem mc_X2_partsOfKind : Cond.code yX2_partsOfKind cX2_partsOfKind 1 (some .int) ∈ wsG := wsG_mem 263 (by decide +kernel) (by decide +kernel)
theorem lk_L_52 : Cond.methodLink RL 52 yX4_partOf ∈ wsG := wsG_mem 587 (by decide +kernel) (by decide +kernel)
theorem mn_X4_partOf : Cond.instanceMethod yX4_partOf ∈ wsG := wsG_mem 588 (by decide +kernel) (by decide +kernel)
theorem mv_X4_partOf : Cond.selects RX4 yX4_partOf yX4_partOf ∈ wsG := wsG_mem 589 (by decide +kernel) (by decide +kernel)
theorem mc_X4_partOf : Cond.code yX4_partOf cX4_partOf 4 (some .int) ∈ wsG := wsG_mem 590 (by decide +kernel) (by decide +kernel)
theorem lk_L_53 : Cond.methodLink RL 53 yX3_depthOf ∈ wsG := wsG_mem 264 (by decide +kernel) (by decide +kernel)
theorem mn_X3_depthOf : Cond.instanceMethod yX3_depthOf ∈ wsG := wsG_mem 265 (by decide +kernel) (by decide +kernel)
theorem mv_X3_depthOf : Cond.selects RX3 yX3_depthOf yX3_depthOf ∈ wsG := wsG_mem 266 (by decide +kernel) (by decide +kernel)
theorem mc_X3_depthOf : Cond.code yX3_depthOf cX3_depthOf 2 (some .int) ∈ wsG := wsG_mem 267 (by decide +kernel) (by decide +kernel)
theorem lk_L_56 : Cond.methodLink RL 56 yX4_depthOf ∈ wsG := wsG_mem 591 (by decide +kernel) (by decide +kernel)
theorem mn_X4_depthOf : Cond.instanceMethod yX4_depthOf ∈ wsG := wsG_mem 592 (by decide +kernel) (by decide +kernel)
theorem mv_X4_depthOf : Cond.selects RX4 yX4_depthOf yX4_depthOf ∈ wsG := wsG_mem 593 (by decide +kernel) (by decide +kernel)
theorem mc_X4_depthOf : Cond.code yX4_depthOf cX4_depthOf 2 (some .int) ∈ wsG := wsG_mem 594 (by decide +kernel) (by decide +kernel)
theorem lk_L_57 : Cond.methodLink RL 57 yX3_needOf ∈ wsG := wsG_mem 268 (by decide +kernel) (by decide +kernel)
theorem mn_X3_needOf : Cond.instanceMethod yX3_needOf ∈ wsG := wsG_mem 269 (by decide +kernel) (by decide +kernel)
theorem mv_X3_needOf : Cond.selects RX3 yX3_needOf yX3_needOf ∈ wsG := wsG_mem 270 (by decide +kernel) (by decide +kernel)
theorem mc_X3_needOf : Cond.code yX3_needOf cX3_needOf 2 (some .int) ∈ wsG := wsG_mem 271 (by decide +kernel) (by decide +kernel)
theorem lk_L_60 : Cond.methodLink RL 60 yX4_needOf ∈ wsG := wsG_mem 595 (by decide +kernel) (by decide +kernel)
theorem mn_X4_needOf : Cond.instanceMethod yX4_needOf ∈ wsG := wsG_mem 596 (by decide +kernel) (by decide +kernel)
theorem mv_X4_needOf : Cond.selects RX4 yX4_needOf yX4_needOf ∈ wsG := wsG_mem 597 (by decide +kernel) (by decide +kernel)
theorem mc_X4_needOf : Cond.code yX4_needOf cX4_needOf 2 (some .int) ∈ wsG := wsG_mem 598 (by decide +kernel) (by decide +kernel)
theorem lk_L_61 : Cond.methodLink RL 61 yX3_textLength ∈ wsG := wsG_mem 272 (by decide +kernel) (by decide +kernel)
theorem mn_X3_textLength : Cond.instanceMethod yX3_textLength ∈ wsG := wsG_mem 273 (by decide +kernel) (by decide +kernel)
theorem mv_X3_textLength : Cond.selects RX3 yX3_textLength yX3_textLength ∈ wsG := wsG_mem 274 (by decide +kernel) (by decide +kernel)
theorem mc_X3_textLength : Cond.code yX3_textLength cX3_textLength 2 (some .int) ∈ wsG := wsG_mem 275 (by decide +kernel) (by decide +kernel)
theorem lk_L_64 : Cond.methodLink RL 64 yX4_textLength ∈ wsG := wsG_mem 599 (by decide +kernel) (by decide +kernel)
theorem mn_X4_textLength : Cond.instanceMethod yX4_textLength ∈ wsG := wsG_mem 600 (by decide +kernel) (by decide +kernel)
theorem mv_X4_textLength : Cond.selects RX4 yX4_textLength yX4_textLength ∈ wsG := wsG_mem 601 (by decide +kernel) (by decide +kernel)
theorem mc_X4_textLength : Cond.code yX4_textLength cX4_textLength 2 (some .int) ∈ wsG := wsG_mem 602 (by decide +kernel) (by decide +kernel)
theorem lk_L_65 : Cond.methodLink RL 65 yX3_textAt ∈ wsG := wsG_mem 276 (by decide +kernel) (by decide +kernel)
theorem mn_X3_textAt : Cond.instanceMethod yX3_textAt ∈ wsG := wsG_mem 277 (by decide +kernel) (by decide +kernel)
theorem mv_X3_textAt : Cond.selects RX3 yX3_textAt yX3_textAt ∈ wsG := wsG_mem 278 (by decide +kernel) (by decide +kernel)
theorem mc_X3_textAt : Cond.code yX3_textAt cX3_textAt 3 (some .int) ∈ wsG := wsG_mem 279 (by decide +kernel) (by decide +kernel)
theorem mn_X2_characterOf : Cond.instanceMethod yX2_characterOf ∈ wsG := wsG_mem 282 (by decide +kernel) (by decide +kernel)
theorem mv_X2_characterOf : Cond.selects RX2 yX2_characterOf yX2_characterOf ∈ wsG := wsG_mem 7 (by decide +kernel) (by decide +kernel)
theorem mc_X2_characterOf : Cond.code yX2_characterOf cX2_characterOf 11 (some .int) ∈ wsG := wsG_mem 283 (by decide +kernel) (by decide +kernel)
theorem lk_X2_129 : Cond.methodLink RX2 129 yX2_headCharacter ∈ wsG := wsG_mem 284 (by decide +kernel) (by decide +kernel)
theorem mn_X2_headCharacter : Cond.instanceMethod yX2_headCharacter ∈ wsG := wsG_mem 286 (by decide +kernel) (by decide +kernel)
theorem mv_X2_headCharacter : Cond.selects RX2 yX2_headCharacter yX2_headCharacter ∈ wsG := wsG_mem 8 (by decide +kernel) (by decide +kernel)
theorem mc_X2_headCharacter : Cond.code yX2_headCharacter cX2_headCharacter 5 (some .int) ∈ wsG := wsG_mem 287 (by decide +kernel) (by decide +kernel)
theorem lk_X2_132 : Cond.methodLink RX2 132 yJ0_charAt_5068e ∈ wsG := wsG_mem 288 (by decide +kernel) (by decide +kernel)
theorem mn_J0_charAt_5068e : Cond.instanceMethod yJ0_charAt_5068e ∈ wsG := wsG_mem 289 (by decide +kernel) (by decide +kernel)
theorem mv_J0_charAt_5068e : Cond.selects RJ0 yJ0_charAt_5068e yJ0_charAt_5068e ∈ wsG := wsG_mem 290 (by decide +kernel) (by decide +kernel)
theorem mc_J0_charAt_5068e : Cond.code yJ0_charAt_5068e cJ0_charAt_5068e 2 (some .char) ∈ wsG := wsG_mem 291 (by decide +kernel) (by decide +kernel)
theorem lk_J0_492 : Cond.methodLink RJ0 492 yJ0_isLatin1_aae02 ∈ wsG := wsG_mem 292 (by decide +kernel) (by decide +kernel)
theorem mn_J0_isLatin1_aae02 : Cond.instanceMethod yJ0_isLatin1_aae02 ∈ wsG := wsG_mem 293 (by decide +kernel) (by decide +kernel)
theorem mv_J0_isLatin1_aae02 : Cond.selects RJ0 yJ0_isLatin1_aae02 yJ0_isLatin1_aae02 ∈ wsG := wsG_mem 294 (by decide +kernel) (by decide +kernel)
theorem mc_J0_isLatin1_aae02 : Cond.code yJ0_isLatin1_aae02 cJ0_isLatin1_aae02 1 (some .boolean) ∈ wsG := wsG_mem 295 (by decide +kernel) (by decide +kernel)
theorem lk_J0_495 : Cond.methodLink RJ0 495 yJ1_charAt_3b067 ∈ wsG := wsG_mem 296 (by decide +kernel) (by decide +kernel)
theorem ms_J1_charAt_3b067 : Cond.static yJ1_charAt_3b067 ∈ wsG := wsG_mem 297 (by decide +kernel) (by decide +kernel)
theorem mt_J1 : Cond.initialized RJ1 ∈ wsG := wsG_mem 58 (by decide +kernel) (by decide +kernel)
theorem mc_J1_charAt_3b067 : Cond.code yJ1_charAt_3b067 cJ1_charAt_3b067 2 (some .char) ∈ wsG := wsG_mem 298 (by decide +kernel) (by decide +kernel)
theorem lk_J1_9 : Cond.methodLink RJ1 9 yJ0_checkIndex_df160 ∈ wsG := wsG_mem 299 (by decide +kernel) (by decide +kernel)
theorem ms_J0_checkIndex_df160 : Cond.static yJ0_checkIndex_df160 ∈ wsG := wsG_mem 300 (by decide +kernel) (by decide +kernel)
theorem mc_J0_checkIndex_df160 : Cond.code yJ0_checkIndex_df160 cJ0_checkIndex_df160 2 none ∈ wsG := wsG_mem 301 (by decide +kernel) (by decide +kernel)
theorem lk_J0_1053 : Cond.fieldLink RJ0 1053 "jdk/internal/util/Preconditions" "SIOOBE_FORMATTER" "Ljava/util/function/BiFunction;" ∈ wsG := wsG_mem 302 (by decide +kernel) (by decide +kernel)
theorem lk_J0_1059 : Cond.methodLink RJ0 1059 yJ3_checkIndex_8e157 ∈ wsG := wsG_mem 304 (by decide +kernel) (by decide +kernel)
theorem ms_J3_checkIndex_8e157 : Cond.static yJ3_checkIndex_8e157 ∈ wsG := wsG_mem 305 (by decide +kernel) (by decide +kernel)
theorem mt_J3 : Cond.initialized RJ3 ∈ wsG := wsG_mem 59 (by decide +kernel) (by decide +kernel)
theorem mc_J3_checkIndex_8e157 : Cond.code yJ3_checkIndex_8e157 cJ3_checkIndex_8e157 3 (some .int) ∈ wsG := wsG_mem 306 (by decide +kernel) (by decide +kernel)
theorem lk_J0_498 : Cond.methodLink RJ0 498 yJ2_charAt_3b067 ∈ wsG := wsG_mem 307 (by decide +kernel) (by decide +kernel)
theorem ms_J2_charAt_3b067 : Cond.static yJ2_charAt_3b067 ∈ wsG := wsG_mem 308 (by decide +kernel) (by decide +kernel)
theorem mt_J2 : Cond.initialized RJ2 ∈ wsG := wsG_mem 60 (by decide +kernel) (by decide +kernel)
theorem mc_J2_charAt_3b067 : Cond.code yJ2_charAt_3b067 cJ2_charAt_3b067 2 (some .char) ∈ wsG := wsG_mem 309 (by decide +kernel) (by decide +kernel)
theorem lk_J2_67 : Cond.methodLink RJ2 67 yJ2_checkIndex_2214a ∈ wsG := wsG_mem 310 (by decide +kernel) (by decide +kernel)
theorem ms_J2_checkIndex_2214a : Cond.static yJ2_checkIndex_2214a ∈ wsG := wsG_mem 311 (by decide +kernel) (by decide +kernel)
theorem mc_J2_checkIndex_2214a : Cond.code yJ2_checkIndex_2214a cJ2_checkIndex_2214a 2 none ∈ wsG := wsG_mem 312 (by decide +kernel) (by decide +kernel)
theorem lk_J2_48 : Cond.methodLink RJ2 48 yJ2_length_9d52b ∈ wsG := wsG_mem 313 (by decide +kernel) (by decide +kernel)
theorem ms_J2_length_9d52b : Cond.static yJ2_length_9d52b ∈ wsG := wsG_mem 314 (by decide +kernel) (by decide +kernel)
theorem mc_J2_length_9d52b : Cond.code yJ2_length_9d52b cJ2_length_9d52b 1 (some .int) ∈ wsG := wsG_mem 315 (by decide +kernel) (by decide +kernel)
theorem lk_J2_414 : Cond.methodLink RJ2 414 yJ0_checkIndex_df160 ∈ wsG := wsG_mem 316 (by decide +kernel) (by decide +kernel)
theorem lk_J2_71 : Cond.methodLink RJ2 71 yJ2_getChar_3b067 ∈ wsG := wsG_mem 317 (by decide +kernel) (by decide +kernel)
theorem ms_J2_getChar_3b067 : Cond.static yJ2_getChar_3b067 ∈ wsG := wsG_mem 318 (by decide +kernel) (by decide +kernel)
theorem mc_J2_getChar_3b067 : Cond.code yJ2_getChar_3b067 cJ2_getChar_3b067 2 (some .char) ∈ wsG := wsG_mem 319 (by decide +kernel) (by decide +kernel)
theorem lk_J2_44 : Cond.fieldLink RJ2 44 "java/lang/StringUTF16" "$assertionsDisabled" "Z" ∈ wsG := wsG_mem 320 (by decide +kernel) (by decide +kernel)
theorem lk_J2_59 : Cond.fieldLink RJ2 59 "java/lang/StringUTF16" "HI_BYTE_SHIFT" "I" ∈ wsG := wsG_mem 322 (by decide +kernel) (by decide +kernel)
theorem lk_J2_63 : Cond.fieldLink RJ2 63 "java/lang/StringUTF16" "LO_BYTE_SHIFT" "I" ∈ wsG := wsG_mem 324 (by decide +kernel) (by decide +kernel)
theorem lk_X2_136 : Cond.methodLink RX2 136 yX2_letterOf ∈ wsG := wsG_mem 326 (by decide +kernel) (by decide +kernel)
theorem ms_X2_letterOf : Cond.static yX2_letterOf ∈ wsG := wsG_mem 327 (by decide +kernel) (by decide +kernel)
theorem mc_X2_letterOf : Cond.code yX2_letterOf cX2_letterOf 1 (some .int) ∈ wsG := wsG_mem 328 (by decide +kernel) (by decide +kernel)
theorem lk_L_68 : Cond.methodLink RL 68 yX4_textAt ∈ wsG := wsG_mem 603 (by decide +kernel) (by decide +kernel)
theorem mn_X4_textAt : Cond.instanceMethod yX4_textAt ∈ wsG := wsG_mem 604 (by decide +kernel) (by decide +kernel)
theorem mv_X4_textAt : Cond.selects RX4 yX4_textAt yX4_textAt ∈ wsG := wsG_mem 605 (by decide +kernel) (by decide +kernel)
theorem mc_X4_textAt : Cond.code yX4_textAt cX4_textAt 7 (some .int) ∈ wsG := wsG_mem 606 (by decide +kernel) (by decide +kernel)
theorem lk_X4_91 : Cond.methodLink RX4 91 yX4_head ∈ wsG := wsG_mem 607 (by decide +kernel) (by decide +kernel)
theorem mn_X4_head : Cond.instanceMethod yX4_head ∈ wsG := wsG_mem 609 (by decide +kernel) (by decide +kernel)
theorem mv_X4_head : Cond.selects RX4 yX4_head yX4_head ∈ wsG := wsG_mem 29 (by decide +kernel) (by decide +kernel)
theorem mc_X4_head : Cond.code yX4_head cX4_head 3 (some .int) ∈ wsG := wsG_mem 610 (by decide +kernel) (by decide +kernel)
theorem lk_X4_88 : Cond.methodLink RX4 88 yX4_sign ∈ wsG := wsG_mem 611 (by decide +kernel) (by decide +kernel)
theorem ms_X4_sign : Cond.static yX4_sign ∈ wsG := wsG_mem 612 (by decide +kernel) (by decide +kernel)
theorem mc_X4_sign : Cond.code yX4_sign cX4_sign 1 (some .int) ∈ wsG := wsG_mem 613 (by decide +kernel) (by decide +kernel)
theorem lk_L_69 : Cond.methodLink RL 69 yX3_moveCount ∈ wsG := wsG_mem 329 (by decide +kernel) (by decide +kernel)
theorem mn_X3_moveCount : Cond.instanceMethod yX3_moveCount ∈ wsG := wsG_mem 330 (by decide +kernel) (by decide +kernel)
theorem mv_X3_moveCount : Cond.selects RX3 yX3_moveCount yX3_moveCount ∈ wsG := wsG_mem 331 (by decide +kernel) (by decide +kernel)
theorem mc_X3_moveCount : Cond.code yX3_moveCount cX3_moveCount 2 (some .int) ∈ wsG := wsG_mem 332 (by decide +kernel) (by decide +kernel)
theorem mn_X2_isClosed : Cond.instanceMethod yX2_isClosed ∈ wsG := wsG_mem 335 (by decide +kernel) (by decide +kernel)
theorem mv_X2_isClosed : Cond.selects RX2 yX2_isClosed yX2_isClosed ∈ wsG := wsG_mem 9 (by decide +kernel) (by decide +kernel)
theorem mc_X2_isClosed : Cond.code yX2_isClosed cX2_isClosed 2 (some .boolean) ∈ wsG := wsG_mem 336 (by decide +kernel) (by decide +kernel)
theorem mn_X2_movesOf : Cond.instanceMethod yX2_movesOf ∈ wsG := wsG_mem 339 (by decide +kernel) (by decide +kernel)
theorem mv_X2_movesOf : Cond.selects RX2 yX2_movesOf yX2_movesOf ∈ wsG := wsG_mem 10 (by decide +kernel) (by decide +kernel)
theorem mc_X2_movesOf : Cond.code yX2_movesOf cX2_movesOf 4 (some .int) ∈ wsG := wsG_mem 340 (by decide +kernel) (by decide +kernel)
theorem lk_X2_114 : Cond.methodLink RX2 114 yX2_actionIn ∈ wsG := wsG_mem 341 (by decide +kernel) (by decide +kernel)
theorem mn_X2_actionIn : Cond.instanceMethod yX2_actionIn ∈ wsG := wsG_mem 343 (by decide +kernel) (by decide +kernel)
theorem mv_X2_actionIn : Cond.selects RX2 yX2_actionIn yX2_actionIn ∈ wsG := wsG_mem 11 (by decide +kernel) (by decide +kernel)
theorem mc_X2_actionIn : Cond.code yX2_actionIn cX2_actionIn 5 (some .int) ∈ wsG := wsG_mem 344 (by decide +kernel) (by decide +kernel)
theorem lk_X2_110 : Cond.methodLink RX2 110 yX2_isOpen ∈ wsG := wsG_mem 345 (by decide +kernel) (by decide +kernel)
theorem ms_X2_isOpen : Cond.static yX2_isOpen ∈ wsG := wsG_mem 346 (by decide +kernel) (by decide +kernel)
theorem mc_X2_isOpen : Cond.code yX2_isOpen cX2_isOpen 6 (some .boolean) ∈ wsG := wsG_mem 347 (by decide +kernel) (by decide +kernel)
theorem ms_X1_areEqual : Cond.static yX1_areEqual ∈ wsG := wsG_mem 349 (by decide +kernel) (by decide +kernel)
theorem mt_X1 : Cond.initialized RX1 ∈ wsG := wsG_mem 61 (by decide +kernel) (by decide +kernel)
theorem mc_X1_areEqual : Cond.code yX1_areEqual cX1_areEqual 3 (some .boolean) ∈ wsG := wsG_mem 350 (by decide +kernel) (by decide +kernel)
theorem lk_X1_11 : Cond.methodLink RX1 11 yX1_valueOf ∈ wsG := wsG_mem 351 (by decide +kernel) (by decide +kernel)
theorem ms_X1_valueOf : Cond.static yX1_valueOf ∈ wsG := wsG_mem 352 (by decide +kernel) (by decide +kernel)
theorem mc_X1_valueOf : Cond.code yX1_valueOf cX1_valueOf 2 (some .int) ∈ wsG := wsG_mem 353 (by decide +kernel) (by decide +kernel)
theorem lk_L_72 : Cond.methodLink RL 72 yX4_moveCount ∈ wsG := wsG_mem 614 (by decide +kernel) (by decide +kernel)
theorem mn_X4_moveCount : Cond.instanceMethod yX4_moveCount ∈ wsG := wsG_mem 615 (by decide +kernel) (by decide +kernel)
theorem mv_X4_moveCount : Cond.selects RX4 yX4_moveCount yX4_moveCount ∈ wsG := wsG_mem 616 (by decide +kernel) (by decide +kernel)
theorem mc_X4_moveCount : Cond.code yX4_moveCount cX4_moveCount 3 (some .int) ∈ wsG := wsG_mem 617 (by decide +kernel) (by decide +kernel)
theorem lk_X4_97 : Cond.methodLink RX4 97 yX4_errorOf ∈ wsG := wsG_mem 618 (by decide +kernel) (by decide +kernel)
theorem mn_X4_errorOf : Cond.instanceMethod yX4_errorOf ∈ wsG := wsG_mem 620 (by decide +kernel) (by decide +kernel)
theorem mv_X4_errorOf : Cond.selects RX4 yX4_errorOf yX4_errorOf ∈ wsG := wsG_mem 30 (by decide +kernel) (by decide +kernel)
theorem mc_X4_errorOf : Cond.code yX4_errorOf cX4_errorOf 3 (some .int) ∈ wsG := wsG_mem 621 (by decide +kernel) (by decide +kernel)
theorem lk_X4_100 : Cond.methodLink RX4 100 yX4_lists ∈ wsG := wsG_mem 622 (by decide +kernel) (by decide +kernel)
theorem mn_X4_lists : Cond.instanceMethod yX4_lists ∈ wsG := wsG_mem 624 (by decide +kernel) (by decide +kernel)
theorem mv_X4_lists : Cond.selects RX4 yX4_lists yX4_lists ∈ wsG := wsG_mem 31 (by decide +kernel) (by decide +kernel)
theorem mc_X4_lists : Cond.code yX4_lists cX4_lists 9 none ∈ wsG := wsG_mem 625 (by decide +kernel) (by decide +kernel)
theorem lk_X4_94 : Cond.methodLink RX4 94 yX4_valueOf ∈ wsG := wsG_mem 626 (by decide +kernel) (by decide +kernel)
theorem ms_X4_valueOf : Cond.static yX4_valueOf ∈ wsG := wsG_mem 627 (by decide +kernel) (by decide +kernel)
theorem mc_X4_valueOf : Cond.code yX4_valueOf cX4_valueOf 4 (some .int) ∈ wsG := wsG_mem 628 (by decide +kernel) (by decide +kernel)
theorem lk_L_73 : Cond.methodLink RL 73 yX3_moveKind ∈ wsG := wsG_mem 354 (by decide +kernel) (by decide +kernel)
theorem mn_X3_moveKind : Cond.instanceMethod yX3_moveKind ∈ wsG := wsG_mem 355 (by decide +kernel) (by decide +kernel)
theorem mv_X3_moveKind : Cond.selects RX3 yX3_moveKind yX3_moveKind ∈ wsG := wsG_mem 356 (by decide +kernel) (by decide +kernel)
theorem mc_X3_moveKind : Cond.code yX3_moveKind cX3_moveKind 4 (some .int) ∈ wsG := wsG_mem 357 (by decide +kernel) (by decide +kernel)
theorem lk_X3_81 : Cond.methodLink RX3 81 yX3_actionOrError ∈ wsG := wsG_mem 358 (by decide +kernel) (by decide +kernel)
theorem mn_X3_actionOrError : Cond.instanceMethod yX3_actionOrError ∈ wsG := wsG_mem 360 (by decide +kernel) (by decide +kernel)
theorem mv_X3_actionOrError : Cond.selects RX3 yX3_actionOrError yX3_actionOrError ∈ wsG := wsG_mem 12 (by decide +kernel) (by decide +kernel)
theorem mc_X3_actionOrError : Cond.code yX3_actionOrError cX3_actionOrError 3 (some .int) ∈ wsG := wsG_mem 361 (by decide +kernel) (by decide +kernel)
theorem mn_X2_actionOf : Cond.instanceMethod yX2_actionOf ∈ wsG := wsG_mem 364 (by decide +kernel) (by decide +kernel)
theorem mv_X2_actionOf : Cond.selects RX2 yX2_actionOf yX2_actionOf ∈ wsG := wsG_mem 13 (by decide +kernel) (by decide +kernel)
theorem mc_X2_actionOf : Cond.code yX2_actionOf cX2_actionOf 6 (some .int) ∈ wsG := wsG_mem 365 (by decide +kernel) (by decide +kernel)
theorem lk_L_76 : Cond.methodLink RL 76 yX4_moveKind ∈ wsG := wsG_mem 629 (by decide +kernel) (by decide +kernel)
theorem mn_X4_moveKind : Cond.instanceMethod yX4_moveKind ∈ wsG := wsG_mem 630 (by decide +kernel) (by decide +kernel)
theorem mv_X4_moveKind : Cond.selects RX4 yX4_moveKind yX4_moveKind ∈ wsG := wsG_mem 631 (by decide +kernel) (by decide +kernel)
theorem mc_X4_moveKind : Cond.code yX4_moveKind cX4_moveKind 4 (some .int) ∈ wsG := wsG_mem 632 (by decide +kernel) (by decide +kernel)
theorem lk_X4_104 : Cond.methodLink RX4 104 yX4_moveError ∈ wsG := wsG_mem 633 (by decide +kernel) (by decide +kernel)
theorem mn_X4_moveError : Cond.instanceMethod yX4_moveError ∈ wsG := wsG_mem 635 (by decide +kernel) (by decide +kernel)
theorem mv_X4_moveError : Cond.selects RX4 yX4_moveError yX4_moveError ∈ wsG := wsG_mem 32 (by decide +kernel) (by decide +kernel)
theorem mc_X4_moveError : Cond.code yX4_moveError cX4_moveError 4 (some .int) ∈ wsG := wsG_mem 636 (by decide +kernel) (by decide +kernel)
theorem lk_L_77 : Cond.methodLink RL 77 yX3_moveNames ∈ wsG := wsG_mem 366 (by decide +kernel) (by decide +kernel)
theorem mn_X3_moveNames : Cond.instanceMethod yX3_moveNames ∈ wsG := wsG_mem 367 (by decide +kernel) (by decide +kernel)
theorem mv_X3_moveNames : Cond.selects RX3 yX3_moveNames yX3_moveNames ∈ wsG := wsG_mem 368 (by decide +kernel) (by decide +kernel)
theorem mc_X3_moveNames : Cond.code yX3_moveNames cX3_moveNames 7 (some .int) ∈ wsG := wsG_mem 369 (by decide +kernel) (by decide +kernel)
theorem lk_L_80 : Cond.methodLink RL 80 yX4_moveNames ∈ wsG := wsG_mem 637 (by decide +kernel) (by decide +kernel)
theorem mn_X4_moveNames : Cond.instanceMethod yX4_moveNames ∈ wsG := wsG_mem 638 (by decide +kernel) (by decide +kernel)
theorem mv_X4_moveNames : Cond.selects RX4 yX4_moveNames yX4_moveNames ∈ wsG := wsG_mem 639 (by decide +kernel) (by decide +kernel)
theorem mc_X4_moveNames : Cond.code yX4_moveNames cX4_moveNames 4 (some .int) ∈ wsG := wsG_mem 640 (by decide +kernel) (by decide +kernel)
theorem lk_L_81 : Cond.methodLink RL 81 yX3_moveTarget ∈ wsG := wsG_mem 370 (by decide +kernel) (by decide +kernel)
theorem mn_X3_moveTarget : Cond.instanceMethod yX3_moveTarget ∈ wsG := wsG_mem 371 (by decide +kernel) (by decide +kernel)
theorem mv_X3_moveTarget : Cond.selects RX3 yX3_moveTarget yX3_moveTarget ∈ wsG := wsG_mem 372 (by decide +kernel) (by decide +kernel)
theorem mc_X3_moveTarget : Cond.code yX3_moveTarget cX3_moveTarget 4 (some .int) ∈ wsG := wsG_mem 373 (by decide +kernel) (by decide +kernel)
theorem lk_L_84 : Cond.methodLink RL 84 yX4_moveTarget ∈ wsG := wsG_mem 641 (by decide +kernel) (by decide +kernel)
theorem mn_X4_moveTarget : Cond.instanceMethod yX4_moveTarget ∈ wsG := wsG_mem 642 (by decide +kernel) (by decide +kernel)
theorem mv_X4_moveTarget : Cond.selects RX4 yX4_moveTarget yX4_moveTarget ∈ wsG := wsG_mem 643 (by decide +kernel) (by decide +kernel)
theorem mc_X4_moveTarget : Cond.code yX4_moveTarget cX4_moveTarget 4 (some .int) ∈ wsG := wsG_mem 644 (by decide +kernel) (by decide +kernel)
theorem lk_L_85 : Cond.methodLink RL 85 yX3_areRelated ∈ wsG := wsG_mem 374 (by decide +kernel) (by decide +kernel)
theorem mn_X3_areRelated : Cond.instanceMethod yX3_areRelated ∈ wsG := wsG_mem 375 (by decide +kernel) (by decide +kernel)
theorem mv_X3_areRelated : Cond.selects RX3 yX3_areRelated yX3_areRelated ∈ wsG := wsG_mem 376 (by decide +kernel) (by decide +kernel)
theorem mc_X3_areRelated : Cond.code yX3_areRelated cX3_areRelated 5 (some .int) ∈ wsG := wsG_mem 377 (by decide +kernel) (by decide +kernel)
theorem lk_X3_90 : Cond.methodLink RX3 90 yX3_errorOfPair ∈ wsG := wsG_mem 378 (by decide +kernel) (by decide +kernel)
theorem mn_X3_errorOfPair : Cond.instanceMethod yX3_errorOfPair ∈ wsG := wsG_mem 380 (by decide +kernel) (by decide +kernel)
theorem mv_X3_errorOfPair : Cond.selects RX3 yX3_errorOfPair yX3_errorOfPair ∈ wsG := wsG_mem 14 (by decide +kernel) (by decide +kernel)
theorem mc_X3_errorOfPair : Cond.code yX3_errorOfPair cX3_errorOfPair 4 (some .int) ∈ wsG := wsG_mem 381 (by decide +kernel) (by decide +kernel)
theorem lk_X3_103 : Cond.methodLink RX3 103 yX3_isRelation ∈ wsG := wsG_mem 382 (by decide +kernel) (by decide +kernel)
theorem ms_X3_isRelation : Cond.static yX3_isRelation ∈ wsG := wsG_mem 383 (by decide +kernel) (by decide +kernel)
theorem mc_X3_isRelation : Cond.code yX3_isRelation cX3_isRelation 1 (some .boolean) ∈ wsG := wsG_mem 384 (by decide +kernel) (by decide +kernel)
theorem mn_X0_roundsOf : Cond.instanceMethod yX0_roundsOf ∈ wsG := wsG_mem 387 (by decide +kernel) (by decide +kernel)
theorem mv_X0_roundsOf : Cond.selects RX0 yX0_roundsOf yX0_roundsOf ∈ wsG := wsG_mem 15 (by decide +kernel) (by decide +kernel)
theorem mc_X0_roundsOf : Cond.code yX0_roundsOf cX0_roundsOf 5 (some .int) ∈ wsG := wsG_mem 388 (by decide +kernel) (by decide +kernel)
theorem lk_X0_29 : Cond.methodLink RX0 29 yX0_worth ∈ wsG := wsG_mem 389 (by decide +kernel) (by decide +kernel)
theorem mn_X0_worth : Cond.instanceMethod yX0_worth ∈ wsG := wsG_mem 391 (by decide +kernel) (by decide +kernel)
theorem mv_X0_worth : Cond.selects RX0 yX0_worth yX0_worth ∈ wsG := wsG_mem 16 (by decide +kernel) (by decide +kernel)
theorem mc_X0_worth : Cond.code yX0_worth cX0_worth 11 (some .int) ∈ wsG := wsG_mem 392 (by decide +kernel) (by decide +kernel)
theorem lk_X0_67 : Cond.methodLink RX0 67 Lib.Math.min.name ∈ wsG := wsG_mem 404 (by decide +kernel) (by decide +kernel)
theorem ms_Math_min : Cond.static Lib.Math.min.name ∈ wsG := wsG_mem 405 (by decide +kernel) (by decide +kernel)
theorem mc_Math_min : Cond.code Lib.Math.min.name Lib.Math.min.code 2 (some .int) ∈ wsG := wsG_mem 406 (by decide +kernel) (by decide +kernel)
theorem lk_X0_57 : Cond.methodLink RX0 57 yX0_placeOf ∈ wsG := wsG_mem 393 (by decide +kernel) (by decide +kernel)
theorem ms_X0_placeOf : Cond.static yX0_placeOf ∈ wsG := wsG_mem 394 (by decide +kernel) (by decide +kernel)
theorem mc_X0_placeOf : Cond.code yX0_placeOf cX0_placeOf 6 (some .int) ∈ wsG := wsG_mem 395 (by decide +kernel) (by decide +kernel)
theorem lk_X0_79 : Cond.methodLink RX0 79 Lib.Math.max.name ∈ wsG := wsG_mem 403 (by decide +kernel) (by decide +kernel)
theorem lk_X0_107 : Cond.methodLink RX0 107 yX0_viewOf ∈ wsG := wsG_mem 396 (by decide +kernel) (by decide +kernel)
theorem ms_X0_viewOf : Cond.static yX0_viewOf ∈ wsG := wsG_mem 397 (by decide +kernel) (by decide +kernel)
theorem mc_X0_viewOf : Cond.code yX0_viewOf cX0_viewOf 3 (some .int) ∈ wsG := wsG_mem 398 (by decide +kernel) (by decide +kernel)
theorem ms_X1_with : Cond.static yX1_with ∈ wsG := wsG_mem 401 (by decide +kernel) (by decide +kernel)
theorem mc_X1_with : Cond.code yX1_with cX1_with 2 (some .int) ∈ wsG := wsG_mem 402 (by decide +kernel) (by decide +kernel)
theorem lk_X0_64 : Cond.methodLink RX0 64 yX0_sideWorth ∈ wsG := wsG_mem 408 (by decide +kernel) (by decide +kernel)
theorem mn_X0_sideWorth : Cond.instanceMethod yX0_sideWorth ∈ wsG := wsG_mem 410 (by decide +kernel) (by decide +kernel)
theorem mv_X0_sideWorth : Cond.selects RX0 yX0_sideWorth yX0_sideWorth ∈ wsG := wsG_mem 17 (by decide +kernel) (by decide +kernel)
theorem mc_X0_answerWorth : Cond.code yX0_answerWorth cX0_answerWorth 15 (some .int) ∈ wsG := wsG_mem 441 (by decide +kernel) (by decide +kernel)
theorem ms_X1_nextFresh : Cond.static yX1_nextFresh ∈ wsG := wsG_mem 422 (by decide +kernel) (by decide +kernel)
theorem mc_X1_nextFresh : Cond.code yX1_nextFresh cX1_nextFresh 3 (some .int) ∈ wsG := wsG_mem 423 (by decide +kernel) (by decide +kernel)
theorem lk_X1_15 : Cond.methodLink RX1 15 Lib.Math.max.name ∈ wsG := wsG_mem 424 (by decide +kernel) (by decide +kernel)
theorem mc_X0_attackWorth : Cond.code yX0_attackWorth cX0_attackWorth 11 (some .int) ∈ wsG := wsG_mem 432 (by decide +kernel) (by decide +kernel)
theorem lk_X0_72 : Cond.methodLink RX0 72 yX0_agree ∈ wsG := wsG_mem 433 (by decide +kernel) (by decide +kernel)
theorem mn_X0_agree : Cond.instanceMethod yX0_agree ∈ wsG := wsG_mem 435 (by decide +kernel) (by decide +kernel)
theorem mv_X0_agree : Cond.selects RX0 yX0_agree yX0_agree ∈ wsG := wsG_mem 22 (by decide +kernel) (by decide +kernel)
theorem mc_X0_agree : Cond.code yX0_agree cX0_agree 6 (some .boolean) ∈ wsG := wsG_mem 436 (by decide +kernel) (by decide +kernel)
theorem lk_X0_76 : Cond.methodLink RX0 76 yX0_answerWorth ∈ wsG := wsG_mem 438 (by decide +kernel) (by decide +kernel)
theorem mn_X0_answerWorth : Cond.instanceMethod yX0_answerWorth ∈ wsG := wsG_mem 440 (by decide +kernel) (by decide +kernel)
theorem mv_X0_answerWorth : Cond.selects RX0 yX0_answerWorth yX0_answerWorth ∈ wsG := wsG_mem 23 (by decide +kernel) (by decide +kernel)
theorem mc_X0_sideWorth : Cond.code yX0_sideWorth cX0_sideWorth 12 (some .int) ∈ wsG := wsG_mem 411 (by decide +kernel) (by decide +kernel)
theorem lk_X0_46 : Cond.methodLink RX0 46 yX0_lastChoice ∈ wsG := wsG_mem 413 (by decide +kernel) (by decide +kernel)
theorem mn_X0_lastChoice : Cond.instanceMethod yX0_lastChoice ∈ wsG := wsG_mem 415 (by decide +kernel) (by decide +kernel)
theorem mv_X0_lastChoice : Cond.selects RX0 yX0_lastChoice yX0_lastChoice ∈ wsG := wsG_mem 18 (by decide +kernel) (by decide +kernel)
theorem mc_X0_lastChoice : Cond.code yX0_lastChoice cX0_lastChoice 4 (some .int) ∈ wsG := wsG_mem 416 (by decide +kernel) (by decide +kernel)
theorem lk_X0_103 : Cond.methodLink RX0 103 yX0_isChosenWith ∈ wsG := wsG_mem 417 (by decide +kernel) (by decide +kernel)
theorem mn_X0_isChosenWith : Cond.instanceMethod yX0_isChosenWith ∈ wsG := wsG_mem 419 (by decide +kernel) (by decide +kernel)
theorem mv_X0_isChosenWith : Cond.selects RX0 yX0_isChosenWith yX0_isChosenWith ∈ wsG := wsG_mem 19 (by decide +kernel) (by decide +kernel)
theorem mc_X0_isChosenWith : Cond.code yX0_isChosenWith cX0_isChosenWith 3 (some .boolean) ∈ wsG := wsG_mem 420 (by decide +kernel) (by decide +kernel)
theorem lk_X0_49 : Cond.methodLink RX0 49 yX0_firstChoice ∈ wsG := wsG_mem 425 (by decide +kernel) (by decide +kernel)
theorem mn_X0_firstChoice : Cond.instanceMethod yX0_firstChoice ∈ wsG := wsG_mem 427 (by decide +kernel) (by decide +kernel)
theorem mv_X0_firstChoice : Cond.selects RX0 yX0_firstChoice yX0_firstChoice ∈ wsG := wsG_mem 20 (by decide +kernel) (by decide +kernel)
theorem mc_X0_firstChoice : Cond.code yX0_firstChoice cX0_firstChoice 3 (some .int) ∈ wsG := wsG_mem 428 (by decide +kernel) (by decide +kernel)
theorem lk_X0_53 : Cond.methodLink RX0 53 yX0_attackWorth ∈ wsG := wsG_mem 429 (by decide +kernel) (by decide +kernel)
theorem mn_X0_attackWorth : Cond.instanceMethod yX0_attackWorth ∈ wsG := wsG_mem 431 (by decide +kernel) (by decide +kernel)
theorem mv_X0_attackWorth : Cond.selects RX0 yX0_attackWorth yX0_attackWorth ∈ wsG := wsG_mem 21 (by decide +kernel) (by decide +kernel)
theorem lk_L_88 : Cond.methodLink RL 88 yX4_areRelated ∈ wsG := wsG_mem 645 (by decide +kernel) (by decide +kernel)
theorem mn_X4_areRelated : Cond.instanceMethod yX4_areRelated ∈ wsG := wsG_mem 646 (by decide +kernel) (by decide +kernel)
theorem mv_X4_areRelated : Cond.selects RX4 yX4_areRelated yX4_areRelated ∈ wsG := wsG_mem 647 (by decide +kernel) (by decide +kernel)
theorem mc_X4_areRelated : Cond.code yX4_areRelated cX4_areRelated 5 (some .int) ∈ wsG := wsG_mem 648 (by decide +kernel) (by decide +kernel)
theorem lk_X4_156 : Cond.methodLink RX4 156 yX4_pairError ∈ wsG := wsG_mem 649 (by decide +kernel) (by decide +kernel)
theorem mn_X4_pairError : Cond.instanceMethod yX4_pairError ∈ wsG := wsG_mem 651 (by decide +kernel) (by decide +kernel)
theorem mv_X4_pairError : Cond.selects RX4 yX4_pairError yX4_pairError ∈ wsG := wsG_mem 33 (by decide +kernel) (by decide +kernel)
theorem mc_X4_pairError : Cond.code yX4_pairError cX4_pairError 4 (some .int) ∈ wsG := wsG_mem 652 (by decide +kernel) (by decide +kernel)
theorem lk_X4_107 : Cond.fieldLink RX4 107 "NamePassingComparerModel" "relation" "I" ∈ wsG := wsG_mem 495 (by decide +kernel) (by decide +kernel)
theorem lk_X4_159 : Cond.methodLink RX4 159 yX4_separated ∈ wsG := wsG_mem 653 (by decide +kernel) (by decide +kernel)
theorem mn_X4_separated : Cond.instanceMethod yX4_separated ∈ wsG := wsG_mem 655 (by decide +kernel) (by decide +kernel)
theorem mv_X4_separated : Cond.selects RX4 yX4_separated yX4_separated ∈ wsG := wsG_mem 34 (by decide +kernel) (by decide +kernel)
theorem mc_X4_separated : Cond.code yX4_separated cX4_separated 4 (some .int) ∈ wsG := wsG_mem 656 (by decide +kernel) (by decide +kernel)
theorem lk_X4_150 : Cond.methodLink RX4 150 yX4_starts ∈ wsG := wsG_mem 657 (by decide +kernel) (by decide +kernel)
theorem mn_X4_starts : Cond.instanceMethod yX4_starts ∈ wsG := wsG_mem 659 (by decide +kernel) (by decide +kernel)
theorem mv_X4_starts : Cond.selects RX4 yX4_starts yX4_starts ∈ wsG := wsG_mem 35 (by decide +kernel) (by decide +kernel)
theorem mc_X4_starts : Cond.code yX4_starts cX4_starts 4 none ∈ wsG := wsG_mem 660 (by decide +kernel) (by decide +kernel)
theorem lk_X4_153 : Cond.methodLink RX4 153 yX4_wins ∈ wsG := wsG_mem 661 (by decide +kernel) (by decide +kernel)
theorem mn_X4_wins : Cond.instanceMethod yX4_wins ∈ wsG := wsG_mem 663 (by decide +kernel) (by decide +kernel)
theorem mv_X4_wins : Cond.selects RX4 yX4_wins yX4_wins ∈ wsG := wsG_mem 36 (by decide +kernel) (by decide +kernel)
theorem mc_X4_wins : Cond.code yX4_wins cX4_wins 2 (some .boolean) ∈ wsG := wsG_mem 664 (by decide +kernel) (by decide +kernel)
theorem lk_X4_131 : Cond.methodLink RX4 131 yX4_wins1 ∈ wsG := wsG_mem 665 (by decide +kernel) (by decide +kernel)
theorem mn_X4_wins1 : Cond.instanceMethod yX4_wins1 ∈ wsG := wsG_mem 667 (by decide +kernel) (by decide +kernel)
theorem mv_X4_wins1 : Cond.selects RX4 yX4_wins1 yX4_wins1 ∈ wsG := wsG_mem 37 (by decide +kernel) (by decide +kernel)
theorem mc_X4_wins1 : Cond.code yX4_wins1 cX4_wins1 4 (some .boolean) ∈ wsG := wsG_mem 668 (by decide +kernel) (by decide +kernel)
theorem lk_X4_110 : Cond.methodLink RX4 110 yX4_lowest ∈ wsG := wsG_mem 669 (by decide +kernel) (by decide +kernel)
theorem mn_X4_lowest : Cond.instanceMethod yX4_lowest ∈ wsG := wsG_mem 671 (by decide +kernel) (by decide +kernel)
theorem mv_X4_lowest : Cond.selects RX4 yX4_lowest yX4_lowest ∈ wsG := wsG_mem 38 (by decide +kernel) (by decide +kernel)
theorem mc_X4_lowest : Cond.code yX4_lowest cX4_lowest 4 (some .int) ∈ wsG := wsG_mem 672 (by decide +kernel) (by decide +kernel)
theorem lk_X4_118 : Cond.methodLink RX4 118 yX4_highest ∈ wsG := wsG_mem 673 (by decide +kernel) (by decide +kernel)
theorem mn_X4_highest : Cond.instanceMethod yX4_highest ∈ wsG := wsG_mem 675 (by decide +kernel) (by decide +kernel)
theorem mv_X4_highest : Cond.selects RX4 yX4_highest yX4_highest ∈ wsG := wsG_mem 39 (by decide +kernel) (by decide +kernel)
theorem mc_X4_highest : Cond.code yX4_highest cX4_highest 5 (some .int) ∈ wsG := wsG_mem 676 (by decide +kernel) (by decide +kernel)
theorem lk_X4_121 : Cond.methodLink RX4 121 yX4_holds1 ∈ wsG := wsG_mem 677 (by decide +kernel) (by decide +kernel)
theorem mn_X4_holds1 : Cond.instanceMethod yX4_holds1 ∈ wsG := wsG_mem 679 (by decide +kernel) (by decide +kernel)
theorem mv_X4_holds1 : Cond.selects RX4 yX4_holds1 yX4_holds1 ∈ wsG := wsG_mem 40 (by decide +kernel) (by decide +kernel)
theorem mc_X4_holds1 : Cond.code yX4_holds1 cX4_holds1 6 (some .boolean) ∈ wsG := wsG_mem 680 (by decide +kernel) (by decide +kernel)
theorem lk_X4_114 : Cond.methodLink RX4 114 yX4_answers ∈ wsG := wsG_mem 681 (by decide +kernel) (by decide +kernel)
theorem mn_X4_answers : Cond.instanceMethod yX4_answers ∈ wsG := wsG_mem 683 (by decide +kernel) (by decide +kernel)
theorem mv_X4_answers : Cond.selects RX4 yX4_answers yX4_answers ∈ wsG := wsG_mem 41 (by decide +kernel) (by decide +kernel)
theorem mc_X4_answers : Cond.code yX4_answers cX4_answers 8 (some .boolean) ∈ wsG := wsG_mem 684 (by decide +kernel) (by decide +kernel)
theorem lk_X4_141 : Cond.methodLink RX4 141 yX4_wins2 ∈ wsG := wsG_mem 685 (by decide +kernel) (by decide +kernel)
theorem mn_X4_wins2 : Cond.instanceMethod yX4_wins2 ∈ wsG := wsG_mem 687 (by decide +kernel) (by decide +kernel)
theorem mv_X4_wins2 : Cond.selects RX4 yX4_wins2 yX4_wins2 ∈ wsG := wsG_mem 42 (by decide +kernel) (by decide +kernel)
theorem mc_X4_wins2 : Cond.code yX4_wins2 cX4_wins2 4 (some .boolean) ∈ wsG := wsG_mem 688 (by decide +kernel) (by decide +kernel)
theorem lk_X4_135 : Cond.methodLink RX4 135 yX4_holds2 ∈ wsG := wsG_mem 689 (by decide +kernel) (by decide +kernel)
theorem mn_X4_holds2 : Cond.instanceMethod yX4_holds2 ∈ wsG := wsG_mem 691 (by decide +kernel) (by decide +kernel)
theorem mv_X4_holds2 : Cond.selects RX4 yX4_holds2 yX4_holds2 ∈ wsG := wsG_mem 43 (by decide +kernel) (by decide +kernel)
theorem mc_X4_holds2 : Cond.code yX4_holds2 cX4_holds2 6 (some .boolean) ∈ wsG := wsG_mem 692 (by decide +kernel) (by decide +kernel)
theorem lk_X4_124 : Cond.methodLink RX4 124 yX4_follows2 ∈ wsG := wsG_mem 693 (by decide +kernel) (by decide +kernel)
theorem mn_X4_follows2 : Cond.instanceMethod yX4_follows2 ∈ wsG := wsG_mem 695 (by decide +kernel) (by decide +kernel)
theorem mv_X4_follows2 : Cond.selects RX4 yX4_follows2 yX4_follows2 ∈ wsG := wsG_mem 44 (by decide +kernel) (by decide +kernel)
theorem mc_X4_follows2 : Cond.code yX4_follows2 cX4_follows2 6 (some .boolean) ∈ wsG := wsG_mem 696 (by decide +kernel) (by decide +kernel)
theorem lk_X4_127 : Cond.methodLink RX4 127 yX4_next ∈ wsG := wsG_mem 697 (by decide +kernel) (by decide +kernel)
theorem mn_X4_next : Cond.instanceMethod yX4_next ∈ wsG := wsG_mem 699 (by decide +kernel) (by decide +kernel)
theorem mv_X4_next : Cond.selects RX4 yX4_next yX4_next ∈ wsG := wsG_mem 45 (by decide +kernel) (by decide +kernel)
theorem mc_X4_next : Cond.code yX4_next cX4_next 10 none ∈ wsG := wsG_mem 700 (by decide +kernel) (by decide +kernel)
theorem lk_X4_147 : Cond.methodLink RX4 147 yX4_wins3 ∈ wsG := wsG_mem 701 (by decide +kernel) (by decide +kernel)
theorem mn_X4_wins3 : Cond.instanceMethod yX4_wins3 ∈ wsG := wsG_mem 703 (by decide +kernel) (by decide +kernel)
theorem mv_X4_wins3 : Cond.selects RX4 yX4_wins3 yX4_wins3 ∈ wsG := wsG_mem 46 (by decide +kernel) (by decide +kernel)
theorem mc_X4_wins3 : Cond.code yX4_wins3 cX4_wins3 4 (some .boolean) ∈ wsG := wsG_mem 704 (by decide +kernel) (by decide +kernel)
theorem lk_X4_144 : Cond.methodLink RX4 144 yX4_holds3 ∈ wsG := wsG_mem 705 (by decide +kernel) (by decide +kernel)
theorem mn_X4_holds3 : Cond.instanceMethod yX4_holds3 ∈ wsG := wsG_mem 707 (by decide +kernel) (by decide +kernel)
theorem mv_X4_holds3 : Cond.selects RX4 yX4_holds3 yX4_holds3 ∈ wsG := wsG_mem 47 (by decide +kernel) (by decide +kernel)
theorem mc_X4_holds3 : Cond.code yX4_holds3 cX4_holds3 6 (some .boolean) ∈ wsG := wsG_mem 708 (by decide +kernel) (by decide +kernel)
theorem lk_X4_138 : Cond.methodLink RX4 138 yX4_follows3 ∈ wsG := wsG_mem 709 (by decide +kernel) (by decide +kernel)
theorem mn_X4_follows3 : Cond.instanceMethod yX4_follows3 ∈ wsG := wsG_mem 711 (by decide +kernel) (by decide +kernel)
theorem mv_X4_follows3 : Cond.selects RX4 yX4_follows3 yX4_follows3 ∈ wsG := wsG_mem 48 (by decide +kernel) (by decide +kernel)
theorem mc_X4_follows3 : Cond.code yX4_follows3 cX4_follows3 6 (some .boolean) ∈ wsG := wsG_mem 712 (by decide +kernel) (by decide +kernel)
theorem lk_L_89 : Cond.methodLink RL 89 yX3_rounds ∈ wsG := wsG_mem 442 (by decide +kernel) (by decide +kernel)
theorem mn_X3_rounds : Cond.instanceMethod yX3_rounds ∈ wsG := wsG_mem 443 (by decide +kernel) (by decide +kernel)
theorem mv_X3_rounds : Cond.selects RX3 yX3_rounds yX3_rounds ∈ wsG := wsG_mem 444 (by decide +kernel) (by decide +kernel)
theorem mc_X3_rounds : Cond.code yX3_rounds cX3_rounds 5 (some .int) ∈ wsG := wsG_mem 445 (by decide +kernel) (by decide +kernel)
theorem lk_L_92 : Cond.methodLink RL 92 yX4_rounds ∈ wsG := wsG_mem 713 (by decide +kernel) (by decide +kernel)
theorem mn_X4_rounds : Cond.instanceMethod yX4_rounds ∈ wsG := wsG_mem 714 (by decide +kernel) (by decide +kernel)
theorem mv_X4_rounds : Cond.selects RX4 yX4_rounds yX4_rounds ∈ wsG := wsG_mem 715 (by decide +kernel) (by decide +kernel)
theorem mc_X4_rounds : Cond.code yX4_rounds cX4_rounds 6 (some .int) ∈ wsG := wsG_mem 716 (by decide +kernel) (by decide +kernel)
theorem lk_L_93 : Cond.methodLink RL 93 yX3_firstAttack ∈ wsG := wsG_mem 446 (by decide +kernel) (by decide +kernel)
theorem mn_X3_firstAttack : Cond.instanceMethod yX3_firstAttack ∈ wsG := wsG_mem 447 (by decide +kernel) (by decide +kernel)
theorem mv_X3_firstAttack : Cond.selects RX3 yX3_firstAttack yX3_firstAttack ∈ wsG := wsG_mem 448 (by decide +kernel) (by decide +kernel)
theorem mc_X3_firstAttack : Cond.code yX3_firstAttack cX3_firstAttack 5 (some .int) ∈ wsG := wsG_mem 449 (by decide +kernel) (by decide +kernel)
theorem mn_X0_attackOf : Cond.instanceMethod yX0_attackOf ∈ wsG := wsG_mem 452 (by decide +kernel) (by decide +kernel)
theorem mv_X0_attackOf : Cond.selects RX0 yX0_attackOf yX0_attackOf ∈ wsG := wsG_mem 24 (by decide +kernel) (by decide +kernel)
theorem mc_X0_attackOf : Cond.code yX0_attackOf cX0_attackOf 7 (some .int) ∈ wsG := wsG_mem 453 (by decide +kernel) (by decide +kernel)
theorem lk_X0_33 : Cond.methodLink RX0 33 yX0_roundsOf ∈ wsG := wsG_mem 454 (by decide +kernel) (by decide +kernel)
theorem lk_X0_37 : Cond.methodLink RX0 37 yX0_attackWith ∈ wsG := wsG_mem 455 (by decide +kernel) (by decide +kernel)
theorem mn_X0_attackWith : Cond.instanceMethod yX0_attackWith ∈ wsG := wsG_mem 457 (by decide +kernel) (by decide +kernel)
theorem mv_X0_attackWith : Cond.selects RX0 yX0_attackWith yX0_attackWith ∈ wsG := wsG_mem 25 (by decide +kernel) (by decide +kernel)
theorem mc_X0_attackWith : Cond.code yX0_attackWith cX0_attackWith 11 (some .int) ∈ wsG := wsG_mem 458 (by decide +kernel) (by decide +kernel)
theorem lk_L_96 : Cond.methodLink RL 96 yX4_firstAttack ∈ wsG := wsG_mem 717 (by decide +kernel) (by decide +kernel)
theorem mn_X4_firstAttack : Cond.instanceMethod yX4_firstAttack ∈ wsG := wsG_mem 718 (by decide +kernel) (by decide +kernel)
theorem mv_X4_firstAttack : Cond.selects RX4 yX4_firstAttack yX4_firstAttack ∈ wsG := wsG_mem 719 (by decide +kernel) (by decide +kernel)
theorem mc_X4_firstAttack : Cond.code yX4_firstAttack cX4_firstAttack 9 (some .int) ∈ wsG := wsG_mem 720 (by decide +kernel) (by decide +kernel)
theorem lk_X4_162 : Cond.methodLink RX4 162 yX4_holds ∈ wsG := wsG_mem 721 (by decide +kernel) (by decide +kernel)
theorem mn_X4_holds : Cond.instanceMethod yX4_holds ∈ wsG := wsG_mem 723 (by decide +kernel) (by decide +kernel)
theorem mv_X4_holds : Cond.selects RX4 yX4_holds yX4_holds ∈ wsG := wsG_mem 49 (by decide +kernel) (by decide +kernel)
theorem mc_X4_holds : Cond.code yX4_holds cX4_holds 5 (some .boolean) ∈ wsG := wsG_mem 724 (by decide +kernel) (by decide +kernel)
theorem lk_L_97 : Cond.methodLink RL 97 yX3_representative ∈ wsG := wsG_mem 459 (by decide +kernel) (by decide +kernel)
theorem mn_X3_representative : Cond.instanceMethod yX3_representative ∈ wsG := wsG_mem 460 (by decide +kernel) (by decide +kernel)
theorem mv_X3_representative : Cond.selects RX3 yX3_representative yX3_representative ∈ wsG := wsG_mem 461 (by decide +kernel) (by decide +kernel)
theorem mc_X3_representative : Cond.code yX3_representative cX3_representative 4 (some .int) ∈ wsG := wsG_mem 462 (by decide +kernel) (by decide +kernel)
theorem lk_X3_100 : Cond.methodLink RX3 100 yX3_lowestRelated ∈ wsG := wsG_mem 463 (by decide +kernel) (by decide +kernel)
theorem mn_X3_lowestRelated : Cond.instanceMethod yX3_lowestRelated ∈ wsG := wsG_mem 465 (by decide +kernel) (by decide +kernel)
theorem mv_X3_lowestRelated : Cond.selects RX3 yX3_lowestRelated yX3_lowestRelated ∈ wsG := wsG_mem 26 (by decide +kernel) (by decide +kernel)
theorem mc_X3_lowestRelated : Cond.code yX3_lowestRelated cX3_lowestRelated 4 (some .int) ∈ wsG := wsG_mem 466 (by decide +kernel) (by decide +kernel)
theorem lk_L_100 : Cond.methodLink RL 100 yX4_representative ∈ wsG := wsG_mem 725 (by decide +kernel) (by decide +kernel)
theorem mn_X4_representative : Cond.instanceMethod yX4_representative ∈ wsG := wsG_mem 726 (by decide +kernel) (by decide +kernel)
theorem mv_X4_representative : Cond.selects RX4 yX4_representative yX4_representative ∈ wsG := wsG_mem 727 (by decide +kernel) (by decide +kernel)
theorem mc_X4_representative : Cond.code yX4_representative cX4_representative 4 (some .int) ∈ wsG := wsG_mem 728 (by decide +kernel) (by decide +kernel)
theorem lk_X4_165 : Cond.methodLink RX4 165 yX4_least ∈ wsG := wsG_mem 729 (by decide +kernel) (by decide +kernel)
theorem mn_X4_least : Cond.instanceMethod yX4_least ∈ wsG := wsG_mem 731 (by decide +kernel) (by decide +kernel)
theorem mv_X4_least : Cond.selects RX4 yX4_least yX4_least ∈ wsG := wsG_mem 50 (by decide +kernel) (by decide +kernel)
theorem mc_X4_least : Cond.code yX4_least cX4_least 3 (some .int) ∈ wsG := wsG_mem 732 (by decide +kernel) (by decide +kernel)
theorem lk_L_101 : Cond.methodLink RL 101 yX3_classCount ∈ wsG := wsG_mem 467 (by decide +kernel) (by decide +kernel)
theorem mn_X3_classCount : Cond.instanceMethod yX3_classCount ∈ wsG := wsG_mem 468 (by decide +kernel) (by decide +kernel)
theorem mv_X3_classCount : Cond.selects RX3 yX3_classCount yX3_classCount ∈ wsG := wsG_mem 469 (by decide +kernel) (by decide +kernel)
theorem mc_X3_classCount : Cond.code yX3_classCount cX3_classCount 4 (some .int) ∈ wsG := wsG_mem 470 (by decide +kernel) (by decide +kernel)
theorem lk_L_104 : Cond.methodLink RL 104 yX4_classCount ∈ wsG := wsG_mem 733 (by decide +kernel) (by decide +kernel)
theorem mn_X4_classCount : Cond.instanceMethod yX4_classCount ∈ wsG := wsG_mem 734 (by decide +kernel) (by decide +kernel)
theorem mv_X4_classCount : Cond.selects RX4 yX4_classCount yX4_classCount ∈ wsG := wsG_mem 735 (by decide +kernel) (by decide +kernel)
theorem mc_X4_classCount : Cond.code yX4_classCount cX4_classCount 4 (some .int) ∈ wsG := wsG_mem 736 (by decide +kernel) (by decide +kernel)
theorem ly_X0_0 : u_lay RX0 TX0 0 ∈ wsG := wsG_mem 162 (by decide +kernel) (by decide +kernel)
theorem ly_X0_1 : u_lay RX0 TX0 1 ∈ wsG := wsG_mem 164 (by decide +kernel) (by decide +kernel)
theorem ig_X0 : ∀ w ∈ u_ws RX0 TX0 2, w ∈ wsG := by
  intro w hw
  obtain ⟨k, hk, rfl⟩ := List.mem_map.mp hw
  have hk := List.mem_range.mp hk
  match k, hk with
  | 0, _ => exact ly_X0_0
  | 1, _ => exact ly_X0_1
  | k + 2, hk => exact absurd hk (by omega)
theorem ly_X2_0 : u_lay RX2 TX2 0 ∈ wsG := wsG_mem 126 (by decide +kernel) (by decide +kernel)
theorem ly_X2_1 : u_lay RX2 TX2 1 ∈ wsG := wsG_mem 128 (by decide +kernel) (by decide +kernel)
theorem ly_X2_2 : u_lay RX2 TX2 2 ∈ wsG := wsG_mem 130 (by decide +kernel) (by decide +kernel)
theorem ly_X2_3 : u_lay RX2 TX2 3 ∈ wsG := wsG_mem 132 (by decide +kernel) (by decide +kernel)
theorem ly_X2_4 : u_lay RX2 TX2 4 ∈ wsG := wsG_mem 134 (by decide +kernel) (by decide +kernel)
theorem ly_X2_5 : u_lay RX2 TX2 5 ∈ wsG := wsG_mem 136 (by decide +kernel) (by decide +kernel)
theorem ly_X2_6 : u_lay RX2 TX2 6 ∈ wsG := wsG_mem 138 (by decide +kernel) (by decide +kernel)
theorem ly_X2_7 : u_lay RX2 TX2 7 ∈ wsG := wsG_mem 140 (by decide +kernel) (by decide +kernel)
theorem ly_X2_8 : u_lay RX2 TX2 8 ∈ wsG := wsG_mem 142 (by decide +kernel) (by decide +kernel)
theorem ly_X2_9 : u_lay RX2 TX2 9 ∈ wsG := wsG_mem 144 (by decide +kernel) (by decide +kernel)
theorem ly_X2_10 : u_lay RX2 TX2 10 ∈ wsG := wsG_mem 146 (by decide +kernel) (by decide +kernel)
theorem ly_X2_11 : u_lay RX2 TX2 11 ∈ wsG := wsG_mem 148 (by decide +kernel) (by decide +kernel)
theorem ig_X2 : ∀ w ∈ u_ws RX2 TX2 12, w ∈ wsG := by
  intro w hw
  obtain ⟨k, hk, rfl⟩ := List.mem_map.mp hw
  have hk := List.mem_range.mp hk
  match k, hk with
  | 0, _ => exact ly_X2_0
  | 1, _ => exact ly_X2_1
  | 2, _ => exact ly_X2_2
  | 3, _ => exact ly_X2_3
  | 4, _ => exact ly_X2_4
  | 5, _ => exact ly_X2_5
  | 6, _ => exact ly_X2_6
  | 7, _ => exact ly_X2_7
  | 8, _ => exact ly_X2_8
  | 9, _ => exact ly_X2_9
  | 10, _ => exact ly_X2_10
  | 11, _ => exact ly_X2_11
  | k + 12, hk => exact absurd hk (by omega)
theorem ly_X3_0 : u_lay RX3 TX3 0 ∈ wsG := wsG_mem 169 (by decide +kernel) (by decide +kernel)
theorem ly_X3_1 : u_lay RX3 TX3 1 ∈ wsG := wsG_mem 171 (by decide +kernel) (by decide +kernel)
theorem ig_X3 : ∀ w ∈ u_ws RX3 TX3 2, w ∈ wsG := by
  intro w hw
  obtain ⟨k, hk, rfl⟩ := List.mem_map.mp hw
  have hk := List.mem_range.mp hk
  match k, hk with
  | 0, _ => exact ly_X3_0
  | 1, _ => exact ly_X3_1
  | k + 2, hk => exact absurd hk (by omega)
theorem ly_X4_0 : u_lay RX4 TX4 0 ∈ wsG := wsG_mem 496 (by decide +kernel) (by decide +kernel)
theorem ly_X4_1 : u_lay RX4 TX4 1 ∈ wsG := wsG_mem 498 (by decide +kernel) (by decide +kernel)
theorem ly_X4_2 : u_lay RX4 TX4 2 ∈ wsG := wsG_mem 500 (by decide +kernel) (by decide +kernel)
theorem ly_X4_3 : u_lay RX4 TX4 3 ∈ wsG := wsG_mem 502 (by decide +kernel) (by decide +kernel)
theorem ly_X4_4 : u_lay RX4 TX4 4 ∈ wsG := wsG_mem 504 (by decide +kernel) (by decide +kernel)
theorem ly_X4_5 : u_lay RX4 TX4 5 ∈ wsG := wsG_mem 506 (by decide +kernel) (by decide +kernel)
theorem ly_X4_6 : u_lay RX4 TX4 6 ∈ wsG := wsG_mem 508 (by decide +kernel) (by decide +kernel)
theorem ly_X4_7 : u_lay RX4 TX4 7 ∈ wsG := wsG_mem 510 (by decide +kernel) (by decide +kernel)
theorem ly_X4_8 : u_lay RX4 TX4 8 ∈ wsG := wsG_mem 512 (by decide +kernel) (by decide +kernel)
theorem ly_X4_9 : u_lay RX4 TX4 9 ∈ wsG := wsG_mem 514 (by decide +kernel) (by decide +kernel)
theorem ly_X4_10 : u_lay RX4 TX4 10 ∈ wsG := wsG_mem 516 (by decide +kernel) (by decide +kernel)
theorem ly_X4_11 : u_lay RX4 TX4 11 ∈ wsG := wsG_mem 518 (by decide +kernel) (by decide +kernel)
theorem ly_X4_12 : u_lay RX4 TX4 12 ∈ wsG := wsG_mem 520 (by decide +kernel) (by decide +kernel)
theorem ly_X4_13 : u_lay RX4 TX4 13 ∈ wsG := wsG_mem 522 (by decide +kernel) (by decide +kernel)
theorem ly_X4_14 : u_lay RX4 TX4 14 ∈ wsG := wsG_mem 524 (by decide +kernel) (by decide +kernel)
theorem ly_X4_15 : u_lay RX4 TX4 15 ∈ wsG := wsG_mem 526 (by decide +kernel) (by decide +kernel)
theorem ly_X4_16 : u_lay RX4 TX4 16 ∈ wsG := wsG_mem 528 (by decide +kernel) (by decide +kernel)
theorem ly_X4_17 : u_lay RX4 TX4 17 ∈ wsG := wsG_mem 530 (by decide +kernel) (by decide +kernel)
theorem ly_X4_18 : u_lay RX4 TX4 18 ∈ wsG := wsG_mem 532 (by decide +kernel) (by decide +kernel)
theorem ig_X4 : ∀ w ∈ u_ws RX4 TX4 19, w ∈ wsG := by
  intro w hw
  obtain ⟨k, hk, rfl⟩ := List.mem_map.mp hw
  have hk := List.mem_range.mp hk
  match k, hk with
  | 0, _ => exact ly_X4_0
  | 1, _ => exact ly_X4_1
  | 2, _ => exact ly_X4_2
  | 3, _ => exact ly_X4_3
  | 4, _ => exact ly_X4_4
  | 5, _ => exact ly_X4_5
  | 6, _ => exact ly_X4_6
  | 7, _ => exact ly_X4_7
  | 8, _ => exact ly_X4_8
  | 9, _ => exact ly_X4_9
  | 10, _ => exact ly_X4_10
  | 11, _ => exact ly_X4_11
  | 12, _ => exact ly_X4_12
  | 13, _ => exact ly_X4_13
  | 14, _ => exact ly_X4_14
  | 15, _ => exact ly_X4_15
  | 16, _ => exact ly_X4_16
  | 17, _ => exact ly_X4_17
  | 18, _ => exact ly_X4_18
  | k + 19, hk => exact absurd hk (by omega)
def isNestW : Cond → Bool | .fieldLinkNest .. => true | .methodLinkNest .. => true | _ => false
def nestW : List Cond := lw_tbl.filter isNestW
theorem nestW_in {w : Cond} (h : w ∈ nestW) : w ∈ lw_tbl := (List.mem_filter.mp h).1
theorem nestW_ok {w : Cond} (h : w ∈ nestW) : isNestW w = true := (List.mem_filter.mp h).2
theorem nestW_mem {w : Cond} (i : Nat) (h : lw_tbl[i]? = some w) (g : isNestW w = true) : w ∈ nestW := List.mem_filter.mpr ⟨List.mem_of_getElem? h, g⟩
theorem nk_X3_9 : Cond.methodLinkNest RX3 9 yX2_init RX3 ∈ nestW := nestW_mem 72 (by decide +kernel) rfl
theorem nk_X2_64 : Cond.methodLinkNest RX2 64 yX3_put RX3 ∈ nestW := nestW_mem 98 (by decide +kernel) rfl
theorem nk_X3_36 : Cond.fieldLinkNest RX3 36 RX2 "count" "I" RX3 ∈ nestW := nestW_mem 102 (by decide +kernel) rfl
theorem nk_X3_44 : Cond.fieldLinkNest RX3 44 RX2 "kinds" "[I" RX3 ∈ nestW := nestW_mem 104 (by decide +kernel) rfl
theorem nk_X0_85 : Cond.fieldLinkNest RX0 85 RX2 "kinds" "[I" RX3 ∈ nestW := nestW_mem 105 (by decide +kernel) rfl
theorem nk_X0_94 : Cond.fieldLinkNest RX0 94 RX2 "channels" "[I" RX3 ∈ nestW := nestW_mem 107 (by decide +kernel) rfl
theorem nk_X3_84 : Cond.fieldLinkNest RX3 84 RX2 "channels" "[I" RX3 ∈ nestW := nestW_mem 108 (by decide +kernel) rfl
theorem nk_X0_97 : Cond.fieldLinkNest RX0 97 RX2 "objects" "[I" RX3 ∈ nestW := nestW_mem 110 (by decide +kernel) rfl
theorem nk_X3_87 : Cond.fieldLinkNest RX3 87 RX2 "objects" "[I" RX3 ∈ nestW := nestW_mem 111 (by decide +kernel) rfl
theorem nk_X0_82 : Cond.fieldLinkNest RX0 82 RX2 "firstParts" "[I" RX3 ∈ nestW := nestW_mem 113 (by decide +kernel) rfl
theorem nk_X3_56 : Cond.fieldLinkNest RX3 56 RX2 "firstParts" "[I" RX3 ∈ nestW := nestW_mem 114 (by decide +kernel) rfl
theorem nk_X3_59 : Cond.fieldLinkNest RX3 59 RX2 "secondParts" "[I" RX3 ∈ nestW := nestW_mem 116 (by decide +kernel) rfl
theorem nk_X3_62 : Cond.fieldLinkNest RX3 62 RX2 "depths" "[I" RX3 ∈ nestW := nestW_mem 118 (by decide +kernel) rfl
theorem nk_X3_65 : Cond.fieldLinkNest RX3 65 RX2 "needs" "[I" RX3 ∈ nestW := nestW_mem 121 (by decide +kernel) rfl
theorem nk_X3_68 : Cond.fieldLinkNest RX3 68 RX2 "lengths" "[I" RX3 ∈ nestW := nestW_mem 123 (by decide +kernel) rfl
theorem nk_X3_18 : Cond.methodLinkNest RX3 18 yX0_init RX3 ∈ nestW := nestW_mem 156 (by decide +kernel) rfl
theorem nk_X3_25 : Cond.methodLinkNest RX3 25 yX2_holds RX3 ∈ nestW := nestW_mem 178 (by decide +kernel) rfl
theorem nk_X3_29 : Cond.methodLinkNest RX3 29 yX2_build RX3 ∈ nestW := nestW_mem 182 (by decide +kernel) rfl
theorem nk_X2_68 : Cond.methodLinkNest RX2 68 yX3_at RX3 ∈ nestW := nestW_mem 186 (by decide +kernel) rfl
theorem nk_X2_96 : Cond.methodLinkNest RX2 96 yX3_put_ RX3 ∈ nestW := nestW_mem 207 (by decide +kernel) rfl
theorem nk_X2_103 : Cond.methodLinkNest RX2 103 yX3_at_ RX3 ∈ nestW := nestW_mem 214 (by decide +kernel) rfl
theorem nk_X3_40 : Cond.methodLinkNest RX3 40 yX0_forget RX3 ∈ nestW := nestW_mem 240 (by decide +kernel) rfl
theorem nk_X0_23 : Cond.methodLinkNest RX0 23 yX3_put RX3 ∈ nestW := nestW_mem 247 (by decide +kernel) rfl
theorem nk_X3_52 : Cond.methodLinkNest RX3 52 yX2_partsOfKind RX3 ∈ nestW := nestW_mem 261 (by decide +kernel) rfl
theorem nk_X3_71 : Cond.methodLinkNest RX3 71 yX2_characterOf RX3 ∈ nestW := nestW_mem 280 (by decide +kernel) rfl
theorem nk_X3_75 : Cond.methodLinkNest RX3 75 yX2_isClosed RX3 ∈ nestW := nestW_mem 333 (by decide +kernel) rfl
theorem nk_X3_78 : Cond.methodLinkNest RX3 78 yX2_movesOf RX3 ∈ nestW := nestW_mem 337 (by decide +kernel) rfl
theorem nk_X2_106 : Cond.methodLinkNest RX2 106 yX1_areEqual RX3 ∈ nestW := nestW_mem 348 (by decide +kernel) rfl
theorem nk_X3_106 : Cond.methodLinkNest RX3 106 yX2_actionOf RX3 ∈ nestW := nestW_mem 362 (by decide +kernel) rfl
theorem nk_X3_94 : Cond.methodLinkNest RX3 94 yX0_roundsOf RX3 ∈ nestW := nestW_mem 385 (by decide +kernel) rfl
theorem nk_X0_110 : Cond.methodLinkNest RX0 110 yX1_valueOf RX3 ∈ nestW := nestW_mem 399 (by decide +kernel) rfl
theorem nk_X0_91 : Cond.methodLinkNest RX0 91 yX1_with RX3 ∈ nestW := nestW_mem 400 (by decide +kernel) rfl
theorem nk_X0_60 : Cond.methodLinkNest RX0 60 yX3_at RX3 ∈ nestW := nestW_mem 407 (by decide +kernel) rfl
theorem nk_X0_41 : Cond.methodLinkNest RX0 41 yX2_actionIn RX3 ∈ nestW := nestW_mem 412 (by decide +kernel) rfl
theorem nk_X0_88 : Cond.methodLinkNest RX0 88 yX1_nextFresh RX3 ∈ nestW := nestW_mem 421 (by decide +kernel) rfl
theorem nk_X0_100 : Cond.methodLinkNest RX0 100 yX1_areEqual RX3 ∈ nestW := nestW_mem 437 (by decide +kernel) rfl
theorem nk_X3_97 : Cond.methodLinkNest RX3 97 yX0_attackOf RX3 ∈ nestW := nestW_mem 450 (by decide +kernel) rfl
end
section
section MACH
abbrev Mem : Type := (Nat → Nat → Int32) × (Nat → Int64)
def wr (μ : Mem) (c i : Nat) (v : Int32) : Mem := (fun d => if d = c then upd (μ.1 c) i v else μ.1 d, μ.2)
def wrL (μ : Mem) (i : Nat) (v : Int64) : Mem := (μ.1, vp_updL μ.2 i v)
abbrev Geo : Type := (Mem → va_W) × (Nat → Prop) × va_G × (ClassId × ClassId) × (Nat → Nat) × (Nat → Nat)
abbrev gW (G : Geo) : Mem → va_W := G.1
abbrev gA (G : Geo) : Nat → Prop := G.2.1
abbrev gD (G : Geo) : va_G := G.2.2.1
abbrev gT (G : Geo) : List (ClassId × FieldType) := [(G.2.2.2.1.1, .int), (G.2.2.2.1.2, .long)]
abbrev gK (G : Geo) : Nat → Nat := G.2.2.2.2.1
abbrev gV (G : Geo) : Nat → Nat := G.2.2.2.2.2
def sLen : List Nat := [2, 4, 3, 5, 1, 1]
def sByt : List (List Int32) := [[116, 46], [120, 33, 121, 46], [120, 63, 46], [91, 120, 61, 121, 93], [40], [48]]
def sIdx : List Nat := [117, 119, 121, 123, 125, 127]
def sTx : List String := ["t.", "x!y.", "x?.", "[x=y]", "(", "0"]
/-- what holds of the tables and of the String constants, at a state and a heap -/
def St (G : Geo) (U : State) (H : Heap) : Prop :=
  va_K (gD G) vwCl (gT G) U ∧ (∀ μ, va_D (gA G) (gW G μ)) ∧ (∀ w ∈ nestW, va_Nw w U) ∧ vk_S 6 sLen sByt (gK G) (gV G) (gA G) U H ∧ (∀ i, i < 6 → vk_R RX2 (sIdx.getD i 0) (sTx.getD i "") (gK G i) U) ∧
  va_Z "java/lang/String" "COMPACT_STRINGS" "Z" (.int 1) (gA G) U H ∧ va_Zq "jdk/internal/util/Preconditions" "SIOOBE_FORMATTER" "Ljava/util/function/BiFunction;" (gA G) U H
theorem nestW_tab {w : Cond} (h : isNestW w = true) : w.onTables = true := by
  cases w <;> first | rfl | simp [isNestW] at h
theorem va_Nw_warm {w : Cond} {s U : State} (hn : isNestW w = true) (hW : s.WarmedH U.vm) (h : va_Nw w s) : va_Nw w U := by
  cases w <;> first | exact va_Nw.warmF hW h | exact va_Nw.warmM hW h | simp [isNestW] at hn
theorem St.calling {G : Geo} {U : State} {H : Heap} (h : St G U H) (g : JFrame) (mk : MethodId) (a : Array Value) : St G (U.calling g mk a) H :=
  ⟨va_K.moved (Vm.Alike.refl U.vm) h.1, h.2.1, fun w hw => va_Nw.same (u := U) (U := U.calling g mk a) (nestW_tab (nestW_ok hw)) rfl (h.2.2.1 w hw), vk_S.moved (Vm.Alike.refl U.vm) h.2.2.2.1, fun i hi => vk_R.same rfl (h.2.2.2.2.1 i hi),
    va_Z.moved (Vm.Alike.refl U.vm) h.2.2.2.2.2.1, va_Zq.moved (Vm.Alike.refl U.vm) h.2.2.2.2.2.2⟩
theorem St.step {G : Geo} {s U : State} {H : Heap} {locs : List Loc} (h : St G s s.heap) (hS : va_S (gA G) s.heap H locs) (hW : s.WarmedH U.vm) : St G U H :=
  ⟨va_K.moved hW.alike h.1, h.2.1, fun w hw => va_Nw_warm (nestW_ok hw) hW (h.2.2.1 w hw), vk_S.moved hW.alike (vk_S.kept h.2.2.2.1 hS.2.1), fun i hi => vk_R.warm hW (h.2.2.2.2.1 i hi),
    va_Z.moved hW.alike (va_Z.kept h.2.2.2.2.2.1 hS.2.1), va_Zq.moved hW.alike (va_Zq.kept h.2.2.2.2.2.2 hS.2.1)⟩
/-- locals by their places: what is held, or nothing known -/
def al : Nat → List (Option Value) → List (Nat × Value)
  | _, [] => []
  | k, none :: r => al (k + 1) r
  | k, some v :: r => (k, v) :: al (k + 1) r
theorem al_mem {lv : List (Option Value)} : ∀ {k j : Nat} {w : Value}, (j, w) ∈ al k lv ↔ ∃ i, j = k + i ∧ lv[i]? = some (some w) := by
  induction lv with
  | nil => intro k j w; simp [al]
  | cons x r ih =>
    intro k j w
    cases x with
    | none =>
      simp only [al, ih]
      constructor
      · rintro ⟨i, h1, h2⟩
        exact ⟨i + 1, by omega, by simpa using h2⟩
      · rintro ⟨i, h1, h2⟩
        cases i with
        | zero => simp at h2
        | succ i => exact ⟨i, by omega, by simpa using h2⟩
    | some v =>
      simp only [al, List.mem_cons, ih, Prod.mk.injEq]
      constructor
      · rintro (⟨h1, h2⟩ | ⟨i, h1, h2⟩)
        · exact ⟨0, by omega, by simp [h2]⟩
        · exact ⟨i + 1, by omega, by simpa using h2⟩
      · rintro ⟨i, h1, h2⟩
        cases i with
        | zero => left; simp at h2; exact ⟨by omega, h2.symm⟩
        | succ i => right; exact ⟨i, by omega, by simpa using h2⟩
theorem al_get {ls : Array Slot} {nL : Nat} {lv : List (Option Value)} (h : lv_has ls nL (al 0 lv)) {i : Nat} {v : Value} (hi : lv[i]? = some (some v)) : ls[i]? = some (.val v) :=
  h.2.2 (i, v) (al_mem.mpr ⟨i, by omega, hi⟩)
/-- the slot ahead holds no long -/
def ok1 (lv : List (Option Value)) : Nat → Bool
  | 0 => true
  | i + 1 => match lv[i]? with
    | some (some v) => v.category == 1
    | _ => true
theorem al_set1 {ls : Array Slot} {nL : Nat} {lv : List (Option Value)} {i : Nat} {v : Value} (hk : ok1 lv i = true) (h : lv_has ls nL ((i, v) :: (al 0 lv).filter (fun q => !(q.1 == i) && !(q.1 + 1 == i && q.2.category == 2)))) : lv_has ls nL (al 0 (lv.set i (some v))) := by
  refine ⟨h.1, h.2.1, fun q hq => ?_⟩
  obtain ⟨j, w⟩ := q
  obtain ⟨i', h1, h2⟩ := al_mem.mp hq
  have h1 : j = i' := by omega
  subst h1
  by_cases hij : j = i
  · subst hij
    have hl : j < lv.length := by
      have := (List.getElem?_eq_some_iff.mp h2).1
      simpa using this
    rw [List.getElem?_set_self hl] at h2
    cases h2
    exact h.2.2 _ List.mem_cons_self
  · rw [List.getElem?_set_ne (Ne.symm hij)] at h2
    refine h.2.2 _ (List.mem_cons_of_mem _ (List.mem_filter.mpr ⟨al_mem.mpr ⟨j, by omega, h2⟩, ?_⟩))
    simp only [Bool.and_eq_true, Bool.not_eq_true', beq_eq_false_iff_ne, ne_eq, Bool.and_eq_false_iff]
    refine ⟨hij, ?_⟩
    by_cases hj : j + 1 = i
    · right
      subst hj
      simp only [ok1, h2, beq_iff_eq] at hk
      omega
    · left; exact hj
theorem al_set2 {ls : Array Slot} {nL : Nat} {lv : List (Option Value)} {i : Nat} {v : Value} (hk : ok1 lv i = true) (h : lv_has ls nL ((i, v) :: (al 0 lv).filter (fun q => !(q.1 == i) && (!(q.1 == i + 1) && !(q.1 + 1 == i && q.2.category == 2))))) : lv_has ls nL (al 0 ((lv.set i (some v)).set (i + 1) none)) := by
  refine ⟨h.1, h.2.1, fun q hq => ?_⟩
  obtain ⟨j, w⟩ := q
  obtain ⟨i', h1, h2⟩ := al_mem.mp hq
  have h1 : j = i' := by omega
  subst h1
  by_cases hij1 : j = i + 1
  · subst hij1
    by_cases hl : i + 1 < (lv.set i (some v)).length
    · rw [List.getElem?_set_self hl] at h2
      cases h2
    · rw [List.getElem?_eq_none (by simpa using hl)] at h2
      cases h2
  · rw [List.getElem?_set_ne (Ne.symm hij1)] at h2
    by_cases hij : j = i
    · subst hij
      have hl : j < lv.length := by
        have := (List.getElem?_eq_some_iff.mp h2).1
        simpa using this
      rw [List.getElem?_set_self hl] at h2
      cases h2
      exact h.2.2 _ List.mem_cons_self
    · rw [List.getElem?_set_ne (Ne.symm hij)] at h2
      refine h.2.2 _ (List.mem_cons_of_mem _ (List.mem_filter.mpr ⟨al_mem.mpr ⟨j, by omega, h2⟩, ?_⟩))
      simp only [Bool.and_eq_true, Bool.not_eq_true', beq_eq_false_iff_ne, ne_eq, Bool.and_eq_false_iff]
      refine ⟨hij, hij1, ?_⟩
      by_cases hj : j + 1 = i
      · right
        subst hj
        simp only [ok1, h2, beq_iff_eq] at hk
        omega
      · left; exact hj
def msk (lv : List (Option Value)) (bs : List Bool) : List (Option Value) := lv.zipWith (fun v b => if b = true then v else none) bs
theorem al_msk {ls : Array Slot} {nL : Nat} {lv : List (Option Value)} {bs : List Bool} (h : lv_has ls nL (al 0 lv)) : lv_has ls nL (al 0 (msk lv bs)) := by
  refine ⟨h.1, h.2.1, fun q hq => ?_⟩
  obtain ⟨j, w⟩ := q
  obtain ⟨i, h1, h2⟩ := al_mem.mp hq
  refine h.2.2 _ (al_mem.mpr ⟨i, h1, ?_⟩)
  simp only [msk, List.getElem?_zipWith] at h2
  revert h2
  cases lv[i]? with
  | none => simp
  | some x =>
    cases bs[i]? with
    | none => simp
    | some b => cases b <;> simp
/-- a contract's room: dp calls open below it -/
abbrev rmD (dp : Nat) : Room := { frames := dp, cells := 0, slots := 0, locals := dp * 40 }
def Qp (G : Geo) (Q : Option Value → Mem → Prop) : Array Value → State → Outcome → State → Prop := fun _ st oc t => (∃ (r : Option Value) (μ' : Mem), oc = .returned r ∧ Q r μ' ∧ va_P (gD G) vwCl (gW G μ') t.heap) ∧ va_F (gA G) st t
def Pp (G : Geo) (av : List Value) (μ : Mem) : Array Value → State → Prop := va_Pc av (fun U => va_P (gD G) vwCl (gW G μ) U.heap ∧ St G U U.heap)
def Ct (G : Geo) (l : Launch) (dp : Nat) (y : MethodName) (b : ByteArray) (nL : Nat) (ret : Option FieldType) (av : List Value) (μ : Mem) (Q : Option Value → Mem → Prop) : Prop :=
  Met l y (Cond.code y b nL ret :: wsG) (rmD dp) (Pp G av μ) (Qp G Q) 0 0 (gA G)
theorem Pp.blind {G : Geo} {av : List Value} {μ : Mem} : FrameBlind (Pp G av μ) := fun a U g mk h => ⟨h.1, h.2.1, h.2.2.calling g mk a⟩
/-- what is fixed in a method's walk -/
def Fx (G : Geo) (p : Program) (R : Room) (s : State) (m : MethodId) (args : Array Value) (meth : Method) (c : Code) (own : String) (cc : ByteArray) (nL : Nat) (ret : Option FieldType) (k n : Nat) : Prop :=
  p.tables.exec = Jvm.exec ∧ c.code = cc ∧ meth.sig.returnType = ret ∧ meth.locks = false ∧ c.maxLocals = nL ∧ s.vm.findClass own = some m.cls ∧ (∀ w ∈ wsG, w.before args s = true) ∧ St G s s.heap ∧ (k ≤ R.cells ∧ n ≤ R.slots)
section VROWS
variable {G : Geo} {p : Program} {l : Launch} {e : Env} {R : Room} {s : State} {m : MethodId} {args : Array Value} {below : List Frame} {meth : Method} {c : Code} {k n : Nat} {Z : State → Prop} {own : String} {cc : ByteArray} {nL pc : Nat} {ret : Option FieldType} {lv : List (Option Value)} {st : List Value} {μ : Mem}
def V (G : Geo) (p : Program) (l : Launch) (e : Env) (R : Room) (s : State) (m : MethodId) (args : Array Value) (below : List Frame) (meth : Method) (c : Code) (nL k n : Nat) (Z : State → Prop) (pc : Nat) (lv : List (Option Value)) (st : List Value) (μ : Mem) : Prop :=
  ∀ (H : Heap) (locs : List Loc) (ls : Array Slot), va_P (gD G) vwCl (gW G μ) H → va_S (gA G) s.heap H locs → lv_has ls nL (al 0 lv) → W p l e R s m args below meth c H locs k n Z (F0 m pc ls st)
theorem V_msk (bs : List Bool) {lv' : List (Option Value)} (h : msk lv bs = lv') (kk : V G p l e R s m args below meth c nL k n Z pc lv' st μ) : V G p l e R s m args below meth c nL k n Z pc lv st μ := fun H locs ls hP hS hl => kk H locs ls hP hS (h ▸ al_msk hl)
theorem V_mem {μ' : Mem} (h : μ = μ') (kk : V G p l e R s m args below meth c nL k n Z pc lv st μ') : V G p l e R s m args below meth c nL k n Z pc lv st μ := h ▸ kk

theorem V_iload_n (F : Fx G p R s m args meth c own cc nL ret k n) {i : Fin 4} {x : Int32} (d : decode cc pc = .ok (.iload_n i, 1)) (h : lv[(i : Nat)]? = some (some (.int x))) (kk : V G p l e R s m args below meth c nL k n Z (pc + 1) lv (.int x :: st) μ) : V G p l e R s m args below meth c nL k n Z pc lv st μ := by
  intro H locs ls hP hS hl
  exact lv_iload_n F.1 F.2.1 d rfl (al_get hl h) (kk H locs ls hP hS hl)
theorem V_iload (F : Fx G p R s m args meth c own cc nL ret k n) {i : Nat} {x : Int32} (d : decode cc pc = .ok (.iload i, 2)) (h : lv[i]? = some (some (.int x))) (kk : V G p l e R s m args below meth c nL k n Z (pc + 2) lv (.int x :: st) μ) : V G p l e R s m args below meth c nL k n Z pc lv st μ := by
  intro H locs ls hP hS hl
  exact lv_iload F.1 F.2.1 d (al_get hl h) (kk H locs ls hP hS hl)
theorem V_lload_n (F : Fx G p R s m args meth c own cc nL ret k n) {i : Fin 4} {x : Int64} (d : decode cc pc = .ok (.lload_n i, 1)) (h : lv[(i : Nat)]? = some (some (.long x))) (kk : V G p l e R s m args below meth c nL k n Z (pc + 1) lv (.long x :: st) μ) : V G p l e R s m args below meth c nL k n Z pc lv st μ := by
  intro H locs ls hP hS hl
  exact lv_lload_n F.1 F.2.1 d rfl (al_get hl h) (kk H locs ls hP hS hl)
theorem V_lload (F : Fx G p R s m args meth c own cc nL ret k n) {i : Nat} {x : Int64} (d : decode cc pc = .ok (.lload i, 2)) (h : lv[i]? = some (some (.long x))) (kk : V G p l e R s m args below meth c nL k n Z (pc + 2) lv (.long x :: st) μ) : V G p l e R s m args below meth c nL k n Z pc lv st μ := by
  intro H locs ls hP hS hl
  exact lv_lload F.1 F.2.1 d (al_get hl h) (kk H locs ls hP hS hl)
theorem V_aload_n (F : Fx G p R s m args meth c own cc nL ret k n) {i : Fin 4} {x : Nat} (d : decode cc pc = .ok (.aload_n i, 1)) (h : lv[(i : Nat)]? = some (some (.ref x))) (kk : V G p l e R s m args below meth c nL k n Z (pc + 1) lv (.ref x :: st) μ) : V G p l e R s m args below meth c nL k n Z pc lv st μ := by
  intro H locs ls hP hS hl
  exact lv_aload_n F.1 F.2.1 d rfl (al_get hl h) (kk H locs ls hP hS hl)
theorem V_aload (F : Fx G p R s m args meth c own cc nL ret k n) {i : Nat} {x : Nat} (d : decode cc pc = .ok (.aload i, 2)) (h : lv[i]? = some (some (.ref x))) (kk : V G p l e R s m args below meth c nL k n Z (pc + 2) lv (.ref x :: st) μ) : V G p l e R s m args below meth c nL k n Z pc lv st μ := by
  intro H locs ls hP hS hl
  exact lv_aload F.1 F.2.1 d (al_get hl h) (kk H locs ls hP hS hl)
theorem V_istore_n (F : Fx G p R s m args meth c own cc nL ret k n) {i : Fin 4} {x : Int32} {lv' : List (Option Value)} (d : decode cc pc = .ok (.istore_n i, 1)) (hn : (i : Nat) < nL) (ho : ok1 lv i = true) (hv : lv.set i (some (.int x)) = lv') (kk : V G p l e R s m args below meth c nL k n Z (pc + 1) lv' st μ) : V G p l e R s m args below meth c nL k n Z pc lv (.int x :: st) μ := by
  intro H locs ls hP hS hl
  exact lv_istore_n F.1 F.2.1 d rfl hl hn rfl (fun ls' hl' => kk H locs ls' hP hS (hv ▸ al_set1 ho hl'))
theorem V_istore (F : Fx G p R s m args meth c own cc nL ret k n) {i : Nat} {x : Int32} {lv' : List (Option Value)} (d : decode cc pc = .ok (.istore i, 2)) (hn : i < nL) (ho : ok1 lv i = true) (hv : lv.set i (some (.int x)) = lv') (kk : V G p l e R s m args below meth c nL k n Z (pc + 2) lv' st μ) : V G p l e R s m args below meth c nL k n Z pc lv (.int x :: st) μ := by
  intro H locs ls hP hS hl
  exact lv_istore F.1 F.2.1 d hl hn rfl (fun ls' hl' => kk H locs ls' hP hS (hv ▸ al_set1 ho hl'))
theorem V_astore_n (F : Fx G p R s m args meth c own cc nL ret k n) {i : Fin 4} {x : Nat} {lv' : List (Option Value)} (d : decode cc pc = .ok (.astore_n i, 1)) (hn : (i : Nat) < nL) (ho : ok1 lv i = true) (hv : lv.set i (some (.ref x)) = lv') (kk : V G p l e R s m args below meth c nL k n Z (pc + 1) lv' st μ) : V G p l e R s m args below meth c nL k n Z pc lv (.ref x :: st) μ := by
  intro H locs ls hP hS hl
  exact lv_astore_n F.1 F.2.1 d rfl hl hn rfl (fun ls' hl' => kk H locs ls' hP hS (hv ▸ al_set1 ho hl'))
theorem V_astore (F : Fx G p R s m args meth c own cc nL ret k n) {i : Nat} {x : Nat} {lv' : List (Option Value)} (d : decode cc pc = .ok (.astore i, 2)) (hn : i < nL) (ho : ok1 lv i = true) (hv : lv.set i (some (.ref x)) = lv') (kk : V G p l e R s m args below meth c nL k n Z (pc + 2) lv' st μ) : V G p l e R s m args below meth c nL k n Z pc lv (.ref x :: st) μ := by
  intro H locs ls hP hS hl
  exact lv_astore F.1 F.2.1 d hl hn rfl (fun ls' hl' => kk H locs ls' hP hS (hv ▸ al_set1 ho hl'))
theorem V_lstore (F : Fx G p R s m args meth c own cc nL ret k n) {i : Nat} {x : Int64} {lv' : List (Option Value)} (d : decode cc pc = .ok (.lstore i, 2)) (hn : i + 1 < nL) (ho : ok1 lv i = true) (hv : (lv.set i (some (.long x))).set (i + 1) none = lv') (kk : V G p l e R s m args below meth c nL k n Z (pc + 2) lv' st μ) : V G p l e R s m args below meth c nL k n Z pc lv (.long x :: st) μ := by
  intro H locs ls hP hS hl
  exact lv_lstore F.1 F.2.1 d hl hn rfl (fun ls' hl' => kk H locs ls' hP hS (hv ▸ al_set2 ho hl'))
theorem V_iinc (F : Fx G p R s m args meth c own cc nL ret k n) {i : Nat} {j : Int} {x : Int32} {lv' : List (Option Value)} (d : decode cc pc = .ok (.iinc i j, 3)) (h : lv[i]? = some (some (.int x))) (hn : i < nL) (ho : ok1 lv i = true) (hv : lv.set i (some (.int (x + Int32.ofInt j))) = lv') (kk : V G p l e R s m args below meth c nL k n Z (pc + 3) lv' st μ) : V G p l e R s m args below meth c nL k n Z pc lv st μ := by
  intro H locs ls hP hS hl
  obtain ⟨q, hq⟩ := List.getElem?_of_mem (al_mem.mpr ⟨i, (by omega : i = 0 + i), h⟩)
  exact lv_iinc F.1 F.2.1 d hl hq rfl hn rfl (fun ls' hl' => kk H locs ls' hP hS (hv ▸ al_set1 ho hl'))
theorem V_iconst (F : Fx G p R s m args meth c own cc nL ret k n) {j : Int} {v : Int32} (d : decode cc pc = .ok (.iconst j, 1)) (hv : Int32.ofInt j = v) (kk : V G p l e R s m args below meth c nL k n Z (pc + 1) lv (.int v :: st) μ) : V G p l e R s m args below meth c nL k n Z pc lv st μ := by
  intro H locs ls hP hS hl
  exact lv_iconst F.1 F.2.1 d hv (kk H locs ls hP hS hl)
theorem V_bipush (F : Fx G p R s m args meth c own cc nL ret k n) {j : Int} {v : Int32} (d : decode cc pc = .ok (.bipush j, 2)) (hv : (Int8.ofInt j).toInt32 = v) (kk : V G p l e R s m args below meth c nL k n Z (pc + 2) lv (.int v :: st) μ) : V G p l e R s m args below meth c nL k n Z pc lv st μ := by
  intro H locs ls hP hS hl
  exact lv_bipush F.1 F.2.1 d hv (kk H locs ls hP hS hl)
theorem V_sipush (F : Fx G p R s m args meth c own cc nL ret k n) {j : Int} {v : Int32} (d : decode cc pc = .ok (.sipush j, 3)) (hv : (Int16.ofInt j).toInt32 = v) (kk : V G p l e R s m args below meth c nL k n Z (pc + 3) lv (.int v :: st) μ) : V G p l e R s m args below meth c nL k n Z pc lv st μ := by
  intro H locs ls hP hS hl
  exact lv_sipush F.1 F.2.1 d hv (kk H locs ls hP hS hl)
theorem V_lconst (F : Fx G p R s m args meth c own cc nL ret k n) {j : Fin 2} {v : Int64} (d : decode cc pc = .ok (.lconst j, 1)) (hv : Int64.ofNat (j : Nat) = v) (kk : V G p l e R s m args below meth c nL k n Z (pc + 1) lv (.long v :: st) μ) : V G p l e R s m args below meth c nL k n Z pc lv st μ := by
  intro H locs ls hP hS hl
  exact lv_lconst F.1 F.2.1 d hv (kk H locs ls hP hS hl)
theorem V_iadd (F : Fx G p R s m args meth c own cc nL ret k n) {x y : Int32} (d : decode cc pc = .ok (.iadd, 1)) (kk : V G p l e R s m args below meth c nL k n Z (pc + 1) lv (.int (x + y) :: st) μ) : V G p l e R s m args below meth c nL k n Z pc lv (.int y :: .int x :: st) μ := by
  intro H locs ls hP hS hl
  exact lv_iadd F.1 F.2.1 d (kk H locs ls hP hS hl)
theorem V_isub (F : Fx G p R s m args meth c own cc nL ret k n) {x y : Int32} (d : decode cc pc = .ok (.isub, 1)) (kk : V G p l e R s m args below meth c nL k n Z (pc + 1) lv (.int (x - y) :: st) μ) : V G p l e R s m args below meth c nL k n Z pc lv (.int y :: .int x :: st) μ := by
  intro H locs ls hP hS hl
  exact lv_isub F.1 F.2.1 d (kk H locs ls hP hS hl)
theorem V_imul (F : Fx G p R s m args meth c own cc nL ret k n) {x y : Int32} (d : decode cc pc = .ok (.imul, 1)) (kk : V G p l e R s m args below meth c nL k n Z (pc + 1) lv (.int (x * y) :: st) μ) : V G p l e R s m args below meth c nL k n Z pc lv (.int y :: .int x :: st) μ := by
  intro H locs ls hP hS hl
  exact lv_imul F.1 F.2.1 d (kk H locs ls hP hS hl)
theorem V_iand (F : Fx G p R s m args meth c own cc nL ret k n) {x y : Int32} (d : decode cc pc = .ok (.iand, 1)) (kk : V G p l e R s m args below meth c nL k n Z (pc + 1) lv (.int (x &&& y) :: st) μ) : V G p l e R s m args below meth c nL k n Z pc lv (.int y :: .int x :: st) μ := by
  intro H locs ls hP hS hl
  exact lv_iand F.1 F.2.1 d (kk H locs ls hP hS hl)
theorem V_ior (F : Fx G p R s m args meth c own cc nL ret k n) {x y : Int32} (d : decode cc pc = .ok (.ior, 1)) (kk : V G p l e R s m args below meth c nL k n Z (pc + 1) lv (.int (x ||| y) :: st) μ) : V G p l e R s m args below meth c nL k n Z pc lv (.int y :: .int x :: st) μ := by
  intro H locs ls hP hS hl
  exact lv_ior F.1 F.2.1 d (kk H locs ls hP hS hl)
theorem V_ishl (F : Fx G p R s m args meth c own cc nL ret k n) {x y : Int32} (d : decode cc pc = .ok (.ishl, 1)) (kk : V G p l e R s m args below meth c nL k n Z (pc + 1) lv (.int (x <<< (y &&& 31)) :: st) μ) : V G p l e R s m args below meth c nL k n Z pc lv (.int y :: .int x :: st) μ := by
  intro H locs ls hP hS hl
  exact lv_ishl F.1 F.2.1 d (kk H locs ls hP hS hl)
theorem V_ishr (F : Fx G p R s m args meth c own cc nL ret k n) {x y : Int32} (d : decode cc pc = .ok (.ishr, 1)) (kk : V G p l e R s m args below meth c nL k n Z (pc + 1) lv (.int (x >>> (y &&& 31)) :: st) μ) : V G p l e R s m args below meth c nL k n Z pc lv (.int y :: .int x :: st) μ := by
  intro H locs ls hP hS hl
  exact lv_ishr F.1 F.2.1 d (kk H locs ls hP hS hl)
theorem V_idiv (F : Fx G p R s m args meth c own cc nL ret k n) {x y : Int32} (d : decode cc pc = .ok (.idiv, 1)) (h : ¬ y = 0) (kk : V G p l e R s m args below meth c nL k n Z (pc + 1) lv (.int (x / y) :: st) μ) : V G p l e R s m args below meth c nL k n Z pc lv (.int y :: .int x :: st) μ := by
  intro H locs ls hP hS hl
  exact lv_idiv F.1 F.2.1 d h (kk H locs ls hP hS hl)
theorem V_irem (F : Fx G p R s m args meth c own cc nL ret k n) {x y : Int32} (d : decode cc pc = .ok (.irem, 1)) (h : ¬ y = 0) (kk : V G p l e R s m args below meth c nL k n Z (pc + 1) lv (.int (x - x / y * y) :: st) μ) : V G p l e R s m args below meth c nL k n Z pc lv (.int y :: .int x :: st) μ := by
  intro H locs ls hP hS hl
  exact lv_irem F.1 F.2.1 d h (kk H locs ls hP hS hl)
theorem V_land (F : Fx G p R s m args meth c own cc nL ret k n) {x y : Int64} (d : decode cc pc = .ok (.land, 1)) (kk : V G p l e R s m args below meth c nL k n Z (pc + 1) lv (.long (x &&& y) :: st) μ) : V G p l e R s m args below meth c nL k n Z pc lv (.long y :: .long x :: st) μ := by
  intro H locs ls hP hS hl
  exact lv_land F.1 F.2.1 d (kk H locs ls hP hS hl)
theorem V_lor (F : Fx G p R s m args meth c own cc nL ret k n) {x y : Int64} (d : decode cc pc = .ok (.lor, 1)) (kk : V G p l e R s m args below meth c nL k n Z (pc + 1) lv (.long (x ||| y) :: st) μ) : V G p l e R s m args below meth c nL k n Z pc lv (.long y :: .long x :: st) μ := by
  intro H locs ls hP hS hl
  exact lv_lor F.1 F.2.1 d (kk H locs ls hP hS hl)
theorem V_lshl (F : Fx G p R s m args meth c own cc nL ret k n) {x : Int64} {y : Int32} (d : decode cc pc = .ok (.lshl, 1)) (kk : V G p l e R s m args below meth c nL k n Z (pc + 1) lv (.long (x <<< (y.toInt64 &&& 63)) :: st) μ) : V G p l e R s m args below meth c nL k n Z pc lv (.int y :: .long x :: st) μ := by
  intro H locs ls hP hS hl
  exact lv_lshl F.1 F.2.1 d rfl (kk H locs ls hP hS hl)
theorem V_lushr (F : Fx G p R s m args meth c own cc nL ret k n) {x : Int64} {y : Int32} (d : decode cc pc = .ok (.lushr, 1)) (kk : V G p l e R s m args below meth c nL k n Z (pc + 1) lv (.long ((x.toUInt64 >>> (y.toInt64.toUInt64 &&& Int64.toUInt64 63)).toInt64) :: st) μ) : V G p l e R s m args below meth c nL k n Z pc lv (.int y :: .long x :: st) μ := by
  intro H locs ls hP hS hl
  exact lv_lushr F.1 F.2.1 d rfl (kk H locs ls hP hS hl)
theorem V_lcmp (F : Fx G p R s m args meth c own cc nL ret k n) {x y : Int64} (d : decode cc pc = .ok (.lcmp, 1)) (kk : V G p l e R s m args below meth c nL k n Z (pc + 1) lv (.int (lg_cmp x y) :: st) μ) : V G p l e R s m args below meth c nL k n Z pc lv (.long y :: .long x :: st) μ := by
  intro H locs ls hP hS hl
  exact W.lcmp F.1 F.2.1 d (kk H locs ls hP hS hl)
theorem V_i2c (F : Fx G p R s m args meth c own cc nL ret k n) {x : Int32} (d : decode cc pc = .ok (.i2c, 1)) (kk : V G p l e R s m args below meth c nL k n Z (pc + 1) lv (.int (x.toUInt32 % 65536).toInt32 :: st) μ) : V G p l e R s m args below meth c nL k n Z pc lv (.int x :: st) μ := by
  intro H locs ls hP hS hl
  exact lv_i2c F.1 F.2.1 d rfl (kk H locs ls hP hS hl)
theorem V_dup (F : Fx G p R s m args meth c own cc nL ret k n) {v : Value} (d : decode cc pc = .ok (.dup, 1)) (h : v.category = 1) (kk : V G p l e R s m args below meth c nL k n Z (pc + 1) lv (v :: v :: st) μ) : V G p l e R s m args below meth c nL k n Z pc lv (v :: st) μ := by
  intro H locs ls hP hS hl
  exact lv_dup F.1 F.2.1 d h (kk H locs ls hP hS hl)
theorem V_pop (F : Fx G p R s m args meth c own cc nL ret k n) {v : Value} (d : decode cc pc = .ok (.pop, 1)) (h : v.category = 1) (kk : V G p l e R s m args below meth c nL k n Z (pc + 1) lv st μ) : V G p l e R s m args below meth c nL k n Z pc lv (v :: st) μ := by
  intro H locs ls hP hS hl
  exact lv_pop F.1 F.2.1 d h (kk H locs ls hP hS hl)
theorem V_dup2 (F : Fx G p R s m args meth c own cc nL ret k n) {v u : Value} (d : decode cc pc = .ok (.dup2, 1)) (h : v.category = 1) (h2 : u.category = 1) (kk : V G p l e R s m args below meth c nL k n Z (pc + 1) lv (v :: u :: v :: u :: st) μ) : V G p l e R s m args below meth c nL k n Z pc lv (v :: u :: st) μ := by
  intro H locs ls hP hS hl
  exact lv_dup2_11 F.1 F.2.1 d h h2 (kk H locs ls hP hS hl)
theorem V_goto (F : Fx G p R s m args meth c own cc nL ret k n) {off : Int} {tgt : Nat} (d : decode cc pc = .ok (.goto off, 3)) (ht : (pc : Int) + off = (tgt : Int)) (kk : V G p l e R s m args below meth c nL k n Z tgt lv st μ) : V G p l e R s m args below meth c nL k n Z pc lv st μ := by
  intro H locs ls hP hS hl
  exact lv_goto F.1 F.2.1 d ht (kk H locs ls hP hS hl)
theorem V_ifnull (F : Fx G p R s m args meth c own cc nL ret k n) {off : Int} {x : Nat} (d : decode cc pc = .ok (.ifnull off, 3)) (kk : V G p l e R s m args below meth c nL k n Z (pc + 3) lv st μ) : V G p l e R s m args below meth c nL k n Z pc lv (.ref x :: st) μ := by
  intro H locs ls hP hS hl
  exact lv_ifnull F.1 F.2.1 d (kk H locs ls hP hS hl)
theorem V_if_eq (F : Fx G p R s m args meth c own cc nL ret k n) {off : Int} {tgt : Nat} {x : Int32} (d : decode cc pc = .ok (.ifCond .eq off, 3)) (ht : (pc : Int) + off = (tgt : Int)) (kt : x = 0 → V G p l e R s m args below meth c nL k n Z tgt lv st μ) (kf : ¬ x = 0 → V G p l e R s m args below meth c nL k n Z (pc + 3) lv st μ) : V G p l e R s m args below meth c nL k n Z pc lv (.int x :: st) μ := by
  intro H locs ls hP hS hl
  exact lv_if_eq F.1 F.2.1 d ht (fun h => kt h H locs ls hP hS hl) (fun h => kf h H locs ls hP hS hl)
theorem V_if_eq_t (F : Fx G p R s m args meth c own cc nL ret k n) {off : Int} {tgt : Nat} {x : Int32} (d : decode cc pc = .ok (.ifCond .eq off, 3)) (ht : (pc : Int) + off = (tgt : Int)) (h0 : x = 0) (kt : V G p l e R s m args below meth c nL k n Z tgt lv st μ) : V G p l e R s m args below meth c nL k n Z pc lv (.int x :: st) μ := by
  intro H locs ls hP hS hl
  exact lv_if_eq F.1 F.2.1 d ht (fun _ => kt H locs ls hP hS hl) (fun h => absurd h0 h)
theorem V_if_eq_f (F : Fx G p R s m args meth c own cc nL ret k n) {off : Int} {tgt : Nat} {x : Int32} (d : decode cc pc = .ok (.ifCond .eq off, 3)) (ht : (pc : Int) + off = (tgt : Int)) (h0 : ¬ x = 0) (kf : V G p l e R s m args below meth c nL k n Z (pc + 3) lv st μ) : V G p l e R s m args below meth c nL k n Z pc lv (.int x :: st) μ := by
  intro H locs ls hP hS hl
  exact lv_if_eq F.1 F.2.1 d ht (fun h => absurd h h0) (fun _ => kf H locs ls hP hS hl)
theorem V_icmp_eq (F : Fx G p R s m args meth c own cc nL ret k n) {off : Int} {tgt : Nat} {x y : Int32} (d : decode cc pc = .ok (.if_icmp .eq off, 3)) (ht : (pc : Int) + off = (tgt : Int)) (kt : x = y → V G p l e R s m args below meth c nL k n Z tgt lv st μ) (kf : ¬ x = y → V G p l e R s m args below meth c nL k n Z (pc + 3) lv st μ) : V G p l e R s m args below meth c nL k n Z pc lv (.int y :: .int x :: st) μ := by
  intro H locs ls hP hS hl
  exact lv_icmp_eq F.1 F.2.1 d ht (fun h => kt h H locs ls hP hS hl) (fun h => kf h H locs ls hP hS hl)
theorem V_icmp_eq_t (F : Fx G p R s m args meth c own cc nL ret k n) {off : Int} {tgt : Nat} {x y : Int32} (d : decode cc pc = .ok (.if_icmp .eq off, 3)) (ht : (pc : Int) + off = (tgt : Int)) (h0 : x = y) (kt : V G p l e R s m args below meth c nL k n Z tgt lv st μ) : V G p l e R s m args below meth c nL k n Z pc lv (.int y :: .int x :: st) μ := by
  intro H locs ls hP hS hl
  exact lv_icmp_eq F.1 F.2.1 d ht (fun _ => kt H locs ls hP hS hl) (fun h => absurd h0 h)
theorem V_icmp_eq_f (F : Fx G p R s m args meth c own cc nL ret k n) {off : Int} {tgt : Nat} {x y : Int32} (d : decode cc pc = .ok (.if_icmp .eq off, 3)) (ht : (pc : Int) + off = (tgt : Int)) (h0 : ¬ x = y) (kf : V G p l e R s m args below meth c nL k n Z (pc + 3) lv st μ) : V G p l e R s m args below meth c nL k n Z pc lv (.int y :: .int x :: st) μ := by
  intro H locs ls hP hS hl
  exact lv_icmp_eq F.1 F.2.1 d ht (fun h => absurd h h0) (fun _ => kf H locs ls hP hS hl)
theorem V_if_ne (F : Fx G p R s m args meth c own cc nL ret k n) {off : Int} {tgt : Nat} {x : Int32} (d : decode cc pc = .ok (.ifCond .ne off, 3)) (ht : (pc : Int) + off = (tgt : Int)) (kt : ¬ x = 0 → V G p l e R s m args below meth c nL k n Z tgt lv st μ) (kf : x = 0 → V G p l e R s m args below meth c nL k n Z (pc + 3) lv st μ) : V G p l e R s m args below meth c nL k n Z pc lv (.int x :: st) μ := by
  intro H locs ls hP hS hl
  exact lv_if_ne F.1 F.2.1 d ht (fun h => kt h H locs ls hP hS hl) (fun h => kf h H locs ls hP hS hl)
theorem V_if_ne_t (F : Fx G p R s m args meth c own cc nL ret k n) {off : Int} {tgt : Nat} {x : Int32} (d : decode cc pc = .ok (.ifCond .ne off, 3)) (ht : (pc : Int) + off = (tgt : Int)) (h0 : ¬ x = 0) (kt : V G p l e R s m args below meth c nL k n Z tgt lv st μ) : V G p l e R s m args below meth c nL k n Z pc lv (.int x :: st) μ := by
  intro H locs ls hP hS hl
  exact lv_if_ne F.1 F.2.1 d ht (fun _ => kt H locs ls hP hS hl) (fun h => absurd h h0)
theorem V_if_ne_f (F : Fx G p R s m args meth c own cc nL ret k n) {off : Int} {tgt : Nat} {x : Int32} (d : decode cc pc = .ok (.ifCond .ne off, 3)) (ht : (pc : Int) + off = (tgt : Int)) (h0 : x = 0) (kf : V G p l e R s m args below meth c nL k n Z (pc + 3) lv st μ) : V G p l e R s m args below meth c nL k n Z pc lv (.int x :: st) μ := by
  intro H locs ls hP hS hl
  exact lv_if_ne F.1 F.2.1 d ht (fun h => absurd h0 h) (fun _ => kf H locs ls hP hS hl)
theorem V_icmp_ne (F : Fx G p R s m args meth c own cc nL ret k n) {off : Int} {tgt : Nat} {x y : Int32} (d : decode cc pc = .ok (.if_icmp .ne off, 3)) (ht : (pc : Int) + off = (tgt : Int)) (kt : ¬ x = y → V G p l e R s m args below meth c nL k n Z tgt lv st μ) (kf : x = y → V G p l e R s m args below meth c nL k n Z (pc + 3) lv st μ) : V G p l e R s m args below meth c nL k n Z pc lv (.int y :: .int x :: st) μ := by
  intro H locs ls hP hS hl
  exact lv_icmp_ne F.1 F.2.1 d ht (fun h => kt h H locs ls hP hS hl) (fun h => kf h H locs ls hP hS hl)
theorem V_icmp_ne_t (F : Fx G p R s m args meth c own cc nL ret k n) {off : Int} {tgt : Nat} {x y : Int32} (d : decode cc pc = .ok (.if_icmp .ne off, 3)) (ht : (pc : Int) + off = (tgt : Int)) (h0 : ¬ x = y) (kt : V G p l e R s m args below meth c nL k n Z tgt lv st μ) : V G p l e R s m args below meth c nL k n Z pc lv (.int y :: .int x :: st) μ := by
  intro H locs ls hP hS hl
  exact lv_icmp_ne F.1 F.2.1 d ht (fun _ => kt H locs ls hP hS hl) (fun h => absurd h h0)
theorem V_icmp_ne_f (F : Fx G p R s m args meth c own cc nL ret k n) {off : Int} {tgt : Nat} {x y : Int32} (d : decode cc pc = .ok (.if_icmp .ne off, 3)) (ht : (pc : Int) + off = (tgt : Int)) (h0 : x = y) (kf : V G p l e R s m args below meth c nL k n Z (pc + 3) lv st μ) : V G p l e R s m args below meth c nL k n Z pc lv (.int y :: .int x :: st) μ := by
  intro H locs ls hP hS hl
  exact lv_icmp_ne F.1 F.2.1 d ht (fun h => absurd h0 h) (fun _ => kf H locs ls hP hS hl)
theorem V_if_lt (F : Fx G p R s m args meth c own cc nL ret k n) {off : Int} {tgt : Nat} {x : Int32} (d : decode cc pc = .ok (.ifCond .lt off, 3)) (ht : (pc : Int) + off = (tgt : Int)) (kt : x < 0 → V G p l e R s m args below meth c nL k n Z tgt lv st μ) (kf : ¬ x < 0 → V G p l e R s m args below meth c nL k n Z (pc + 3) lv st μ) : V G p l e R s m args below meth c nL k n Z pc lv (.int x :: st) μ := by
  intro H locs ls hP hS hl
  exact lv_if_lt F.1 F.2.1 d ht (fun h => kt h H locs ls hP hS hl) (fun h => kf h H locs ls hP hS hl)
theorem V_if_lt_t (F : Fx G p R s m args meth c own cc nL ret k n) {off : Int} {tgt : Nat} {x : Int32} (d : decode cc pc = .ok (.ifCond .lt off, 3)) (ht : (pc : Int) + off = (tgt : Int)) (h0 : x < 0) (kt : V G p l e R s m args below meth c nL k n Z tgt lv st μ) : V G p l e R s m args below meth c nL k n Z pc lv (.int x :: st) μ := by
  intro H locs ls hP hS hl
  exact lv_if_lt F.1 F.2.1 d ht (fun _ => kt H locs ls hP hS hl) (fun h => absurd h0 h)
theorem V_if_lt_f (F : Fx G p R s m args meth c own cc nL ret k n) {off : Int} {tgt : Nat} {x : Int32} (d : decode cc pc = .ok (.ifCond .lt off, 3)) (ht : (pc : Int) + off = (tgt : Int)) (h0 : ¬ x < 0) (kf : V G p l e R s m args below meth c nL k n Z (pc + 3) lv st μ) : V G p l e R s m args below meth c nL k n Z pc lv (.int x :: st) μ := by
  intro H locs ls hP hS hl
  exact lv_if_lt F.1 F.2.1 d ht (fun h => absurd h h0) (fun _ => kf H locs ls hP hS hl)
theorem V_icmp_lt (F : Fx G p R s m args meth c own cc nL ret k n) {off : Int} {tgt : Nat} {x y : Int32} (d : decode cc pc = .ok (.if_icmp .lt off, 3)) (ht : (pc : Int) + off = (tgt : Int)) (kt : x < y → V G p l e R s m args below meth c nL k n Z tgt lv st μ) (kf : ¬ x < y → V G p l e R s m args below meth c nL k n Z (pc + 3) lv st μ) : V G p l e R s m args below meth c nL k n Z pc lv (.int y :: .int x :: st) μ := by
  intro H locs ls hP hS hl
  exact lv_icmp_lt F.1 F.2.1 d ht (fun h => kt h H locs ls hP hS hl) (fun h => kf h H locs ls hP hS hl)
theorem V_icmp_lt_t (F : Fx G p R s m args meth c own cc nL ret k n) {off : Int} {tgt : Nat} {x y : Int32} (d : decode cc pc = .ok (.if_icmp .lt off, 3)) (ht : (pc : Int) + off = (tgt : Int)) (h0 : x < y) (kt : V G p l e R s m args below meth c nL k n Z tgt lv st μ) : V G p l e R s m args below meth c nL k n Z pc lv (.int y :: .int x :: st) μ := by
  intro H locs ls hP hS hl
  exact lv_icmp_lt F.1 F.2.1 d ht (fun _ => kt H locs ls hP hS hl) (fun h => absurd h0 h)
theorem V_icmp_lt_f (F : Fx G p R s m args meth c own cc nL ret k n) {off : Int} {tgt : Nat} {x y : Int32} (d : decode cc pc = .ok (.if_icmp .lt off, 3)) (ht : (pc : Int) + off = (tgt : Int)) (h0 : ¬ x < y) (kf : V G p l e R s m args below meth c nL k n Z (pc + 3) lv st μ) : V G p l e R s m args below meth c nL k n Z pc lv (.int y :: .int x :: st) μ := by
  intro H locs ls hP hS hl
  exact lv_icmp_lt F.1 F.2.1 d ht (fun h => absurd h h0) (fun _ => kf H locs ls hP hS hl)
theorem V_if_ge (F : Fx G p R s m args meth c own cc nL ret k n) {off : Int} {tgt : Nat} {x : Int32} (d : decode cc pc = .ok (.ifCond .ge off, 3)) (ht : (pc : Int) + off = (tgt : Int)) (kt : 0 ≤ x → V G p l e R s m args below meth c nL k n Z tgt lv st μ) (kf : ¬ 0 ≤ x → V G p l e R s m args below meth c nL k n Z (pc + 3) lv st μ) : V G p l e R s m args below meth c nL k n Z pc lv (.int x :: st) μ := by
  intro H locs ls hP hS hl
  exact lv_if_ge F.1 F.2.1 d ht (fun h => kt h H locs ls hP hS hl) (fun h => kf h H locs ls hP hS hl)
theorem V_if_ge_t (F : Fx G p R s m args meth c own cc nL ret k n) {off : Int} {tgt : Nat} {x : Int32} (d : decode cc pc = .ok (.ifCond .ge off, 3)) (ht : (pc : Int) + off = (tgt : Int)) (h0 : 0 ≤ x) (kt : V G p l e R s m args below meth c nL k n Z tgt lv st μ) : V G p l e R s m args below meth c nL k n Z pc lv (.int x :: st) μ := by
  intro H locs ls hP hS hl
  exact lv_if_ge F.1 F.2.1 d ht (fun _ => kt H locs ls hP hS hl) (fun h => absurd h0 h)
theorem V_if_ge_f (F : Fx G p R s m args meth c own cc nL ret k n) {off : Int} {tgt : Nat} {x : Int32} (d : decode cc pc = .ok (.ifCond .ge off, 3)) (ht : (pc : Int) + off = (tgt : Int)) (h0 : ¬ 0 ≤ x) (kf : V G p l e R s m args below meth c nL k n Z (pc + 3) lv st μ) : V G p l e R s m args below meth c nL k n Z pc lv (.int x :: st) μ := by
  intro H locs ls hP hS hl
  exact lv_if_ge F.1 F.2.1 d ht (fun h => absurd h h0) (fun _ => kf H locs ls hP hS hl)
theorem V_icmp_ge (F : Fx G p R s m args meth c own cc nL ret k n) {off : Int} {tgt : Nat} {x y : Int32} (d : decode cc pc = .ok (.if_icmp .ge off, 3)) (ht : (pc : Int) + off = (tgt : Int)) (kt : y ≤ x → V G p l e R s m args below meth c nL k n Z tgt lv st μ) (kf : ¬ y ≤ x → V G p l e R s m args below meth c nL k n Z (pc + 3) lv st μ) : V G p l e R s m args below meth c nL k n Z pc lv (.int y :: .int x :: st) μ := by
  intro H locs ls hP hS hl
  exact lv_icmp_ge F.1 F.2.1 d ht (fun h => kt h H locs ls hP hS hl) (fun h => kf h H locs ls hP hS hl)
theorem V_icmp_ge_t (F : Fx G p R s m args meth c own cc nL ret k n) {off : Int} {tgt : Nat} {x y : Int32} (d : decode cc pc = .ok (.if_icmp .ge off, 3)) (ht : (pc : Int) + off = (tgt : Int)) (h0 : y ≤ x) (kt : V G p l e R s m args below meth c nL k n Z tgt lv st μ) : V G p l e R s m args below meth c nL k n Z pc lv (.int y :: .int x :: st) μ := by
  intro H locs ls hP hS hl
  exact lv_icmp_ge F.1 F.2.1 d ht (fun _ => kt H locs ls hP hS hl) (fun h => absurd h0 h)
theorem V_icmp_ge_f (F : Fx G p R s m args meth c own cc nL ret k n) {off : Int} {tgt : Nat} {x y : Int32} (d : decode cc pc = .ok (.if_icmp .ge off, 3)) (ht : (pc : Int) + off = (tgt : Int)) (h0 : ¬ y ≤ x) (kf : V G p l e R s m args below meth c nL k n Z (pc + 3) lv st μ) : V G p l e R s m args below meth c nL k n Z pc lv (.int y :: .int x :: st) μ := by
  intro H locs ls hP hS hl
  exact lv_icmp_ge F.1 F.2.1 d ht (fun h => absurd h h0) (fun _ => kf H locs ls hP hS hl)
theorem V_if_gt (F : Fx G p R s m args meth c own cc nL ret k n) {off : Int} {tgt : Nat} {x : Int32} (d : decode cc pc = .ok (.ifCond .gt off, 3)) (ht : (pc : Int) + off = (tgt : Int)) (kt : 0 < x → V G p l e R s m args below meth c nL k n Z tgt lv st μ) (kf : ¬ 0 < x → V G p l e R s m args below meth c nL k n Z (pc + 3) lv st μ) : V G p l e R s m args below meth c nL k n Z pc lv (.int x :: st) μ := by
  intro H locs ls hP hS hl
  exact lv_if_gt F.1 F.2.1 d ht (fun h => kt h H locs ls hP hS hl) (fun h => kf h H locs ls hP hS hl)
theorem V_if_gt_t (F : Fx G p R s m args meth c own cc nL ret k n) {off : Int} {tgt : Nat} {x : Int32} (d : decode cc pc = .ok (.ifCond .gt off, 3)) (ht : (pc : Int) + off = (tgt : Int)) (h0 : 0 < x) (kt : V G p l e R s m args below meth c nL k n Z tgt lv st μ) : V G p l e R s m args below meth c nL k n Z pc lv (.int x :: st) μ := by
  intro H locs ls hP hS hl
  exact lv_if_gt F.1 F.2.1 d ht (fun _ => kt H locs ls hP hS hl) (fun h => absurd h0 h)
theorem V_if_gt_f (F : Fx G p R s m args meth c own cc nL ret k n) {off : Int} {tgt : Nat} {x : Int32} (d : decode cc pc = .ok (.ifCond .gt off, 3)) (ht : (pc : Int) + off = (tgt : Int)) (h0 : ¬ 0 < x) (kf : V G p l e R s m args below meth c nL k n Z (pc + 3) lv st μ) : V G p l e R s m args below meth c nL k n Z pc lv (.int x :: st) μ := by
  intro H locs ls hP hS hl
  exact lv_if_gt F.1 F.2.1 d ht (fun h => absurd h h0) (fun _ => kf H locs ls hP hS hl)
theorem V_icmp_gt (F : Fx G p R s m args meth c own cc nL ret k n) {off : Int} {tgt : Nat} {x y : Int32} (d : decode cc pc = .ok (.if_icmp .gt off, 3)) (ht : (pc : Int) + off = (tgt : Int)) (kt : y < x → V G p l e R s m args below meth c nL k n Z tgt lv st μ) (kf : ¬ y < x → V G p l e R s m args below meth c nL k n Z (pc + 3) lv st μ) : V G p l e R s m args below meth c nL k n Z pc lv (.int y :: .int x :: st) μ := by
  intro H locs ls hP hS hl
  exact lv_icmp_gt F.1 F.2.1 d ht (fun h => kt h H locs ls hP hS hl) (fun h => kf h H locs ls hP hS hl)
theorem V_icmp_gt_t (F : Fx G p R s m args meth c own cc nL ret k n) {off : Int} {tgt : Nat} {x y : Int32} (d : decode cc pc = .ok (.if_icmp .gt off, 3)) (ht : (pc : Int) + off = (tgt : Int)) (h0 : y < x) (kt : V G p l e R s m args below meth c nL k n Z tgt lv st μ) : V G p l e R s m args below meth c nL k n Z pc lv (.int y :: .int x :: st) μ := by
  intro H locs ls hP hS hl
  exact lv_icmp_gt F.1 F.2.1 d ht (fun _ => kt H locs ls hP hS hl) (fun h => absurd h0 h)
theorem V_icmp_gt_f (F : Fx G p R s m args meth c own cc nL ret k n) {off : Int} {tgt : Nat} {x y : Int32} (d : decode cc pc = .ok (.if_icmp .gt off, 3)) (ht : (pc : Int) + off = (tgt : Int)) (h0 : ¬ y < x) (kf : V G p l e R s m args below meth c nL k n Z (pc + 3) lv st μ) : V G p l e R s m args below meth c nL k n Z pc lv (.int y :: .int x :: st) μ := by
  intro H locs ls hP hS hl
  exact lv_icmp_gt F.1 F.2.1 d ht (fun h => absurd h h0) (fun _ => kf H locs ls hP hS hl)
theorem V_if_le (F : Fx G p R s m args meth c own cc nL ret k n) {off : Int} {tgt : Nat} {x : Int32} (d : decode cc pc = .ok (.ifCond .le off, 3)) (ht : (pc : Int) + off = (tgt : Int)) (kt : x ≤ 0 → V G p l e R s m args below meth c nL k n Z tgt lv st μ) (kf : ¬ x ≤ 0 → V G p l e R s m args below meth c nL k n Z (pc + 3) lv st μ) : V G p l e R s m args below meth c nL k n Z pc lv (.int x :: st) μ := by
  intro H locs ls hP hS hl
  exact lv_if_le F.1 F.2.1 d ht (fun h => kt h H locs ls hP hS hl) (fun h => kf h H locs ls hP hS hl)
theorem V_if_le_t (F : Fx G p R s m args meth c own cc nL ret k n) {off : Int} {tgt : Nat} {x : Int32} (d : decode cc pc = .ok (.ifCond .le off, 3)) (ht : (pc : Int) + off = (tgt : Int)) (h0 : x ≤ 0) (kt : V G p l e R s m args below meth c nL k n Z tgt lv st μ) : V G p l e R s m args below meth c nL k n Z pc lv (.int x :: st) μ := by
  intro H locs ls hP hS hl
  exact lv_if_le F.1 F.2.1 d ht (fun _ => kt H locs ls hP hS hl) (fun h => absurd h0 h)
theorem V_if_le_f (F : Fx G p R s m args meth c own cc nL ret k n) {off : Int} {tgt : Nat} {x : Int32} (d : decode cc pc = .ok (.ifCond .le off, 3)) (ht : (pc : Int) + off = (tgt : Int)) (h0 : ¬ x ≤ 0) (kf : V G p l e R s m args below meth c nL k n Z (pc + 3) lv st μ) : V G p l e R s m args below meth c nL k n Z pc lv (.int x :: st) μ := by
  intro H locs ls hP hS hl
  exact lv_if_le F.1 F.2.1 d ht (fun h => absurd h h0) (fun _ => kf H locs ls hP hS hl)
theorem V_icmp_le (F : Fx G p R s m args meth c own cc nL ret k n) {off : Int} {tgt : Nat} {x y : Int32} (d : decode cc pc = .ok (.if_icmp .le off, 3)) (ht : (pc : Int) + off = (tgt : Int)) (kt : x ≤ y → V G p l e R s m args below meth c nL k n Z tgt lv st μ) (kf : ¬ x ≤ y → V G p l e R s m args below meth c nL k n Z (pc + 3) lv st μ) : V G p l e R s m args below meth c nL k n Z pc lv (.int y :: .int x :: st) μ := by
  intro H locs ls hP hS hl
  exact lv_icmp_le F.1 F.2.1 d ht (fun h => kt h H locs ls hP hS hl) (fun h => kf h H locs ls hP hS hl)
theorem V_icmp_le_t (F : Fx G p R s m args meth c own cc nL ret k n) {off : Int} {tgt : Nat} {x y : Int32} (d : decode cc pc = .ok (.if_icmp .le off, 3)) (ht : (pc : Int) + off = (tgt : Int)) (h0 : x ≤ y) (kt : V G p l e R s m args below meth c nL k n Z tgt lv st μ) : V G p l e R s m args below meth c nL k n Z pc lv (.int y :: .int x :: st) μ := by
  intro H locs ls hP hS hl
  exact lv_icmp_le F.1 F.2.1 d ht (fun _ => kt H locs ls hP hS hl) (fun h => absurd h0 h)
theorem V_icmp_le_f (F : Fx G p R s m args meth c own cc nL ret k n) {off : Int} {tgt : Nat} {x y : Int32} (d : decode cc pc = .ok (.if_icmp .le off, 3)) (ht : (pc : Int) + off = (tgt : Int)) (h0 : ¬ x ≤ y) (kf : V G p l e R s m args below meth c nL k n Z (pc + 3) lv st μ) : V G p l e R s m args below meth c nL k n Z pc lv (.int y :: .int x :: st) μ := by
  intro H locs ls hP hS hl
  exact lv_icmp_le F.1 F.2.1 d ht (fun h => absurd h h0) (fun _ => kf H locs ls hP hS hl)
theorem V_tableIn (F : Fx G p R s m args meth c own cc nL ret k n) {dflt lo hi : Int} {offs : Array Int} {len : Nat} {x : Int32} {off : Int} {tgt : Nat} (d : decode cc pc = .ok (.tableswitch dflt lo hi offs, len)) (h1 : ¬ x.toInt < lo) (h2 : ¬ hi < x.toInt) (ho : offs[(x.toInt - lo).toNat]? = some off) (ht : (pc : Int) + off = (tgt : Int)) (kk : V G p l e R s m args below meth c nL k n Z tgt lv st μ) : V G p l e R s m args below meth c nL k n Z pc lv (.int x :: st) μ := by
  intro H locs ls hP hS hl
  exact lv_tableIn F.1 F.2.1 d h1 h2 ho ht (kk H locs ls hP hS hl)
theorem V_tableOut (F : Fx G p R s m args meth c own cc nL ret k n) {dflt lo hi : Int} {offs : Array Int} {len : Nat} {x : Int32} {tgt : Nat} (d : decode cc pc = .ok (.tableswitch dflt lo hi offs, len)) (h : x.toInt < lo ∨ hi < x.toInt) (ht : (pc : Int) + dflt = (tgt : Int)) (kk : V G p l e R s m args below meth c nL k n Z tgt lv st μ) : V G p l e R s m args below meth c nL k n Z pc lv (.int x :: st) μ := by
  intro H locs ls hP hS hl
  exact lv_tableOut F.1 F.2.1 d h ht (kk H locs ls hP hS hl)
theorem V_alen (F : Fx G p R s m args meth c own cc nL ret k n) {a q0 : Nat} {cA : ClassId} {x : vp_A} {ty : FieldType} {v : Int32} (d : decode cc pc = .ok (.arraylength, 1)) (t0 : Nat) (ha : (gW G μ)[q0]? = some (a, .inl (cA, x))) (ht : (gT G)[t0]? = some (cA, ty)) (hv : Int32.ofNat x.1 = v) (kk : V G p l e R s m args below meth c nL k n Z (pc + 1) lv (.int v :: st) μ) : V G p l e R s m args below meth c nL k n Z pc lv (.ref a :: st) μ := by
  intro H locs ls hP hS hl
  exact va_alen F.1 F.2.1 F.2.2.2.2.2.2.2.1.1 hP q0 t0 ha ht hv d (kk H locs ls hP hS hl)
theorem V_iald (F : Fx G p R s m args meth c own cc nL ret k n) {a q0 z : Nat} {f : Nat → Int32} {i : Int32} (d : decode cc pc = .ok (.iaload, 1)) (ha : (gW G μ)[q0]? = some (a, .inl (G.2.2.2.1.1, z, .inl f))) (hin : vp_in i z) (kk : V G p l e R s m args below meth c nL k n Z (pc + 1) lv (.int (f i.toNatClampNeg) :: st) μ) : V G p l e R s m args below meth c nL k n Z pc lv (.int i :: .ref a :: st) μ := by
  intro H locs ls hP hS hl
  exact va_iald F.1 F.2.1 F.2.2.2.2.2.2.2.1.1 hP q0 0 ha rfl hin d (kk H locs ls hP hS hl)
theorem V_lald (F : Fx G p R s m args meth c own cc nL ret k n) {a q0 z : Nat} {f : Nat → Int64} {i : Int32} (d : decode cc pc = .ok (.laload, 1)) (ha : (gW G μ)[q0]? = some (a, .inl (G.2.2.2.1.2, z, .inr (.inl f)))) (hin : vp_in i z) (kk : V G p l e R s m args below meth c nL k n Z (pc + 1) lv (.long (f i.toNatClampNeg) :: st) μ) : V G p l e R s m args below meth c nL k n Z pc lv (.int i :: .ref a :: st) μ := by
  intro H locs ls hP hS hl
  exact va_lald F.1 F.2.1 F.2.2.2.2.2.2.2.1.1 hP q0 1 ha rfl hin d (kk H locs ls hP hS hl)
theorem V_iast (F : Fx G p R s m args meth c own cc nL ret k n) {a q0 z : Nat} {f : Nat → Int32} {i x : Int32} {μ' : Mem} (d : decode cc pc = .ok (.iastore, 1)) (ha : (gW G μ)[q0]? = some (a, .inl (G.2.2.2.1.1, z, .inl f))) (hin : vp_in i z) (hm : (gW G μ).set q0 (a, .inl (G.2.2.2.1.1, z, .inl (upd f i.toNatClampNeg x))) = gW G μ') (kk : V G p l e R s m args below meth c nL k n Z (pc + 1) lv st μ') : V G p l e R s m args below meth c nL k n Z pc lv (.int x :: .int i :: .ref a :: st) μ := by
  intro H locs ls hP hS hl
  exact va_iast F.1 F.2.1 F.2.2.2.2.2.2.2.1.1 hP (F.2.2.2.2.2.2.2.1.2.1 μ) hS q0 0 ha rfl hin d (fun H1 locs1 hP1 _ hS1 => kk H1 locs1 ls (hm ▸ hP1) hS1 hl)
theorem V_last (F : Fx G p R s m args meth c own cc nL ret k n) {a q0 z : Nat} {f : Nat → Int64} {i : Int32} {x : Int64} {μ' : Mem} (d : decode cc pc = .ok (.lastore, 1)) (ha : (gW G μ)[q0]? = some (a, .inl (G.2.2.2.1.2, z, .inr (.inl f)))) (hin : vp_in i z) (hm : (gW G μ).set q0 (a, .inl (G.2.2.2.1.2, z, .inr (.inl (vp_updL f i.toNatClampNeg x)))) = gW G μ') (kk : V G p l e R s m args below meth c nL k n Z (pc + 1) lv st μ') : V G p l e R s m args below meth c nL k n Z pc lv (.long x :: .int i :: .ref a :: st) μ := by
  intro H locs ls hP hS hl
  exact va_last F.1 F.2.1 F.2.2.2.2.2.2.2.1.1 hP (F.2.2.2.2.2.2.2.1.2.1 μ) hS q0 1 ha rfl hin d (fun H1 locs1 hP1 _ hS1 => kk H1 locs1 ls (hm ▸ hP1) hS1 hl)
theorem V_getf (F : Fx G p R s m args meth c own cc nL ret k n) {C : String} {T : u_T} {N ci index a : Nat} {fs : List Value} {v : Value} (q0 j : Nat) (hlink : Cond.fieldLink own index C (T j).2.1 (T j).2.2.1 ∈ wsG) (d : decode cc pc = .ok (.getfield index, 3)) (hin : ∀ w ∈ u_ws C T N, w ∈ wsG) (he : (gW G μ)[q0]? = some (a, .inr (ci, fs))) (hc : vwCl[ci]? = some (C, T, N)) (hj : j < N) (hT : (T j).1 = C) (hv : fs[j]? = some v) (kk : V G p l e R s m args below meth c nL k n Z (pc + 3) lv (v :: st) μ) : V G p l e R s m args below meth c nL k n Z pc lv (.ref a :: st) μ := by
  intro H locs ls hP hS hl
  exact va_get F.1 F.2.1 F.2.2.2.2.2.2.1 hin F.2.2.2.2.2.1 F.2.2.2.2.2.2.2.1.1 hP q0 he hc j hj (F.2.2.2.2.2.2.1 _ hlink) (fun x h => by rw [hT] at h; exact h) hv d (kk H locs ls hP hS hl)
theorem V_getN (F : Fx G p R s m args meth c own cc nL ret k n) {C : String} {T : u_T} {N ci index a : Nat} {fs : List Value} {v : Value} (q0 j : Nat) {host : String} (hlink : Cond.fieldLinkNest own index C (T j).2.1 (T j).2.2.1 host ∈ nestW) (d : decode cc pc = .ok (.getfield index, 3)) (hin : ∀ w ∈ u_ws C T N, w ∈ wsG) (he : (gW G μ)[q0]? = some (a, .inr (ci, fs))) (hc : vwCl[ci]? = some (C, T, N)) (hj : j < N) (hT : (T j).1 = C) (hv : fs[j]? = some v) (kk : V G p l e R s m args below meth c nL k n Z (pc + 3) lv (v :: st) μ) : V G p l e R s m args below meth c nL k n Z pc lv (.ref a :: st) μ := by
  intro H locs ls hP hS hl
  exact va_getN F.1 F.2.1 F.2.2.2.2.2.2.1 hin F.2.2.2.2.2.1 F.2.2.2.2.2.2.2.1.1 hP q0 he hc j hj (va_Nw.use (nestW_tab (nestW_ok hlink)) (F.2.2.2.2.2.2.2.1.2.2.1 _ hlink)) (fun x h => by rw [hT] at h; exact h) hv d (kk H locs ls hP hS hl)
theorem V_putf (F : Fx G p R s m args meth c own cc nL ret k n) {C : String} {T : u_T} {N ci index a : Nat} {fs : List Value} {x : Int32} {μ' : Mem} (q0 j : Nat) (hlink : Cond.fieldLink own index C (T j).2.1 (T j).2.2.1 ∈ wsG) (d : decode cc pc = .ok (.putfield index, 3)) (hin : ∀ w ∈ u_ws C T N, w ∈ wsG) (ty0 : Nat → FieldType) (hty : ∀ k, k < N → parseFieldDescriptor (T k).2.2.1 = some (ty0 k)) (hnm : ∀ a, a < N → ∀ b, b < N → a ≠ b → (T a).2.1 ≠ (T b).2.1) (he : (gW G μ)[q0]? = some (a, .inr (ci, fs))) (hc : vwCl[ci]? = some (C, T, N)) (hj : j < N) (hT : (T j).1 = C) (hfin : (T j).2.2.2 = false) (hd : parseFieldDescriptor (T j).2.2.1 = some .int) (hl0 : j < fs.length) (hm : (gW G μ).set q0 (a, .inr (ci, fs.set j (.int x))) = gW G μ') (kk : V G p l e R s m args below meth c nL k n Z (pc + 3) lv st μ') : V G p l e R s m args below meth c nL k n Z pc lv (.int x :: .ref a :: st) μ := by
  intro H locs ls hP hS hl
  exact va_put F.1 F.2.1 F.2.2.2.2.2.2.1 hin ty0 hty hnm F.2.2.2.2.2.1 F.2.2.2.2.2.2.2.1.1 hP (F.2.2.2.2.2.2.2.1.2.1 μ) hS q0 he hc j hj (F.2.2.2.2.2.2.1 _ hlink) (fun x h => by rw [hT] at h; exact h) hfin hd rfl rfl hl0 d (fun H1 locs1 hP1 _ hS1 => kk H1 locs1 ls (hm ▸ hP1) hS1 hl)
theorem V_putN (F : Fx G p R s m args meth c own cc nL ret k n) {C : String} {T : u_T} {N ci index a : Nat} {fs : List Value} {x : Int32} {μ' : Mem} (q0 j : Nat) {host : String} (hlink : Cond.fieldLinkNest own index C (T j).2.1 (T j).2.2.1 host ∈ nestW) (d : decode cc pc = .ok (.putfield index, 3)) (hin : ∀ w ∈ u_ws C T N, w ∈ wsG) (ty0 : Nat → FieldType) (hty : ∀ k, k < N → parseFieldDescriptor (T k).2.2.1 = some (ty0 k)) (hnm : ∀ a, a < N → ∀ b, b < N → a ≠ b → (T a).2.1 ≠ (T b).2.1) (he : (gW G μ)[q0]? = some (a, .inr (ci, fs))) (hc : vwCl[ci]? = some (C, T, N)) (hj : j < N) (hT : (T j).1 = C) (hfin : (T j).2.2.2 = false) (hd : parseFieldDescriptor (T j).2.2.1 = some .int) (hl0 : j < fs.length) (hm : (gW G μ).set q0 (a, .inr (ci, fs.set j (.int x))) = gW G μ') (kk : V G p l e R s m args below meth c nL k n Z (pc + 3) lv st μ') : V G p l e R s m args below meth c nL k n Z pc lv (.int x :: .ref a :: st) μ := by
  intro H locs ls hP hS hl
  exact va_putN F.1 F.2.1 F.2.2.2.2.2.2.1 hin ty0 hty hnm F.2.2.2.2.2.1 F.2.2.2.2.2.2.2.1.1 hP (F.2.2.2.2.2.2.2.1.2.1 μ) hS q0 he hc j hj (va_Nw.use (nestW_tab (nestW_ok hlink)) (F.2.2.2.2.2.2.2.1.2.2.1 _ hlink)) (fun x h => by rw [hT] at h; exact h) hfin hd rfl rfl hl0 d (fun H1 locs1 hP1 _ hS1 => kk H1 locs1 ls (hm ▸ hP1) hS1 hl)
variable {Q : Option Value → Mem → Prop}
theorem V_iret (F : Fx G p R s m args meth c own cc nL (some .int) 0 0) {v : Int32} (d : decode cc pc = .ok (.ireturn, 1)) (hq : Q (some (.int v)) μ) : V G p l e R s m args below meth c nL 0 0 (MQ below (Qp G Q) args s 0 0 (gA G)) pc lv [.int v] μ := by
  intro H locs ls hP hS hl
  exact W.iret F.1 F.2.1 F.2.2.1 (fun t ht hW => ⟨⟨_, μ, rfl, hq, by rw [ht]; exact hP⟩, hS.F ht⟩) hS.2.2 d F.2.2.2.1
theorem V_zret (F : Fx G p R s m args meth c own cc nL (some .boolean) 0 0) {v : Int32} (d : decode cc pc = .ok (.ireturn, 1)) (hv : narrow .boolean (.int v) = .int v) (hq : Q (some (.int v)) μ) : V G p l e R s m args below meth c nL 0 0 (MQ below (Qp G Q) args s 0 0 (gA G)) pc lv [.int v] μ := by
  intro H locs ls hP hS hl
  exact W.zret F.1 F.2.1 F.2.2.1 hv (fun t ht hW => ⟨⟨_, μ, rfl, hq, by rw [ht]; exact hP⟩, hS.F ht⟩) hS.2.2 d F.2.2.2.1
theorem V_xret {ty : FieldType} (F : Fx G p R s m args meth c own cc nL (some ty) 0 0) {v : Int32} (d : decode cc pc = .ok (.ireturn, 1)) (hv : narrow ty (.int v) = .int v) (hq : Q (some (.int v)) μ) : V G p l e R s m args below meth c nL 0 0 (MQ below (Qp G Q) args s 0 0 (gA G)) pc lv [.int v] μ := by
  intro H locs ls hP hS hl
  exact W.zret F.1 F.2.1 F.2.2.1 hv (fun t ht hW => ⟨⟨_, μ, rfl, hq, by rw [ht]; exact hP⟩, hS.F ht⟩) hS.2.2 d F.2.2.2.1
theorem V_lret (F : Fx G p R s m args meth c own cc nL (some .long) 0 0) {v : Int64} (d : decode cc pc = .ok (.lreturn, 1)) (hq : Q (some (.long v)) μ) : V G p l e R s m args below meth c nL 0 0 (MQ below (Qp G Q) args s 0 0 (gA G)) pc lv [.long v] μ := by
  intro H locs ls hP hS hl
  exact W.lret F.1 F.2.1 F.2.2.1 (fun t ht hW => ⟨⟨_, μ, rfl, hq, by rw [ht]; exact hP⟩, hS.F ht⟩) hS.2.2 d F.2.2.2.1
theorem V_vret (F : Fx G p R s m args meth c own cc nL none 0 0) (d : decode cc pc = .ok (.return_, 1)) (hq : Q none μ) : V G p l e R s m args below meth c nL 0 0 (MQ below (Qp G Q) args s 0 0 (gA G)) pc lv [] μ := by
  intro H locs ls hP hS hl
  exact W.vret F.1 F.2.1 F.2.2.1 (fun t ht hW => ⟨⟨_, μ, rfl, hq, by rw [ht]; exact hP⟩, hS.F ht⟩) hS.2.2 d F.2.2.2.1
theorem V_aret {nm : String} (F : Fx G p R s m args meth c own cc nL (some (.object nm)) 0 0) {a : Nat} (d : decode cc pc = .ok (.areturn, 1)) (hq : Q (some (.ref a)) μ) : V G p l e R s m args below meth c nL 0 0 (MQ below (Qp G Q) args s 0 0 (gA G)) pc lv [.ref a] μ := by
  intro H locs ls hP hS hl
  exact W.aret F.1 F.2.1 F.2.2.1 (Or.inl ⟨_, rfl⟩) (Or.inr ⟨_, rfl⟩) (fun t ht hW => ⟨⟨_, μ, rfl, hq, by rw [ht]; exact hP⟩, hS.F ht⟩) hS.2.2 d F.2.2.2.1
theorem V_ldcS (F : Fx G p R s m args meth c own cc nL ret k n) {i : Nat} (hi : i < 6) (ho : own = RX2) (d : decode cc pc = .ok (.ldc (sIdx.getD i 0), 2)) (kk : V G p l e R s m args below meth c nL k n Z (pc + 2) lv (.ref (gK G i) :: st) μ) : V G p l e R s m args below meth c nL k n Z pc lv st μ := by
  intro H locs ls hP hS hl
  exact va_ldcS F.1 F.2.1 F.2.2.2.2.2.1 (ho ▸ F.2.2.2.2.2.2.2.1.2.2.2.2.1 i hi) d (kk H locs ls hP hS hl)
theorem V_max (F : Fx G p R s m args meth c own cc nL ret k n) {x y : Int32} {index : Nat} (hlink : Cond.methodLink own index Lib.Math.max.name ∈ wsG) (d : decode cc pc = .ok (.invokestatic index, 3)) (hR : 1 ≤ R.frames ∧ (st.map fun v => v.category).sum + 13 ≤ R.locals) (kk : V G p l e R s m args below meth c nL k n Z (pc + 3) lv (.int (if x < y then y else x) :: st) μ) : V G p l e R s m args below meth c nL k n Z pc lv (.int y :: .int x :: st) μ := by
  intro H locs ls hP hS hl
  exact va_mmax F.1 F.2.1 (F.2.2.2.2.1.trans hl.1.symm) F.2.2.2.2.2.1 (F.2.2.2.2.2.2.1 _ hlink) (F.2.2.2.2.2.2.1 _ ms_Math_max) (F.2.2.2.2.2.2.1 _ mt_java_lang_Math) (F.2.2.2.2.2.2.1 _ mc_Math_max) hR.1 hR.2 F.2.2.2.2.2.2.2.2.1 F.2.2.2.2.2.2.2.2.2 d (kk H locs ls hP hS hl)
theorem V_min (F : Fx G p R s m args meth c own cc nL ret k n) {x y : Int32} {index : Nat} (hlink : Cond.methodLink own index Lib.Math.min.name ∈ wsG) (d : decode cc pc = .ok (.invokestatic index, 3)) (hR : 1 ≤ R.frames ∧ (st.map fun v => v.category).sum + 13 ≤ R.locals) (kk : V G p l e R s m args below meth c nL k n Z (pc + 3) lv (.int (if y < x then y else x) :: st) μ) : V G p l e R s m args below meth c nL k n Z pc lv (.int y :: .int x :: st) μ := by
  intro H locs ls hP hS hl
  exact va_mmin F.1 F.2.1 (F.2.2.2.2.1.trans hl.1.symm) F.2.2.2.2.2.1 (F.2.2.2.2.2.2.1 _ hlink) (F.2.2.2.2.2.2.1 _ ms_Math_min) (F.2.2.2.2.2.2.1 _ mt_java_lang_Math) (F.2.2.2.2.2.2.1 _ mc_Math_min) hR.1 hR.2 F.2.2.2.2.2.2.2.2.1 F.2.2.2.2.2.2.2.2.2 d (kk H locs ls hP hS hl)
/-- a call, out of its run -/
theorem V_run {As : Array Value} {st0 : List Value} {Qc : Option Value → Mem → Prop} (hr : ∀ (H : Heap) (locs : List Loc) (ls : Array Slot), va_P (gD G) vwCl (gW G μ) H → va_S (gA G) s.heap H locs → ls.size = nL → va_Run p l e R s m args below meth c H locs k n 0 0 (F0 m pc ls st0) st (Qp G Qc As) (gA G))
    (kk : ∀ (r : Option Value) (μ' : Mem), Qc r μ' → V G p l e R s m args below meth c nL k n Z (pc + 3) lv (r.toList ++ st) μ') : V G p l e R s m args below meth c nL k n Z pc lv st0 μ := by
  intro H locs ls hP hS hl T hT X
  obtain ⟨v, st₀, t, T', L, h0, X', hL, e1, e2, ⟨⟨r, μ', hv, hq, hP1⟩, hz, hk⟩, hst⟩ := hr H locs ls hP hS hl.1 T hT X
  cases hv
  rw [h0] at hz hk
  obtain ⟨t2, a1, b1⟩ := kk v μ' hq T'.heap (locs ++ L) ls (by rw [e1]; exact hP1) ⟨Nat.le_trans hS.1 (by rw [e1]; exact hz), fun q h1 h2 => by rw [e1, hk q (Nat.lt_of_lt_of_le h1 hS.1) h2]; exact hS.2.1 q h1 h2, fun q hq => (List.mem_append.mp hq).elim (hS.2.2 q) (hL q)⟩ hl T' rfl X'
  exact ⟨t2, hst t2 a1, b1⟩
/-- what a call asks of its callee's words -/
def MI (y : MethodName) (b : ByteArray) (nLc : Nat) (retc : Option FieldType) (j : Nat) : Prop := Cond.code y b nLc retc ∈ wsG ∧ Cond.initialized y.cls ∈ wsG ∧ (y.cls ≠ "java/lang/invoke/MethodHandle" ∧ y.cls ≠ "java/lang/invoke/VarHandle" ∧ (parseMethodDescriptor y.desc).map (fun d => d.parameters.length) = some j) ∧ plainName y.cls = true
theorem good_code {y : MethodName} {b : ByteArray} {nLc : Nat} {retc : Option FieldType} (h : Cond.code y b nLc retc ∈ wsG) : GoodIn wsG (Cond.code y b nLc retc :: wsG) := fun w hw => by
  rcases List.mem_cons.mp hw with rfl | h2
  · exact ⟨h, good_of_word (wsG_ok h)⟩
  · exact ⟨h2, good_of_word (wsG_ok h2)⟩
theorem room_ok {R : Room} {dp nLc : Nat} (hR : dp + 1 ≤ R.frames ∧ (dp + 1) * 40 ≤ R.locals) (hn : nLc ≤ 21) : (rmD dp).frames + 1 ≤ R.frames ∧ 8 + (nLc + 11) + (rmD dp).locals ≤ R.locals := ⟨hR.1, by show 8 + (nLc + 11) + dp * 40 ≤ R.locals; omega⟩
variable {y : MethodName} {b : ByteArray} {nLc dp index j : Nat} {retc : Option FieldType} {As : List Value} {Qc : Option Value → Mem → Prop}
theorem V_callS (F : Fx G p R s m args meth c own cc nL ret k n) (hC : Ct G l dp y b nLc retc As μ Qc) (hM : MI y b nLc retc j) (hs : Cond.static y ∈ wsG) (hlink : Cond.methodLink own index y ∈ wsG) (d : decode cc pc = .ok (.invokestatic index, 3)) (hR : dp + 1 ≤ R.frames ∧ (dp + 1) * 40 ≤ R.locals) {st0 : List Value} (hst : st0 = As.reverse ++ st) (hn : As.length = j) (hnl : nLc ≤ 21) (hw : (st.map fun v => v.category).sum ≤ 8)
    (kk : ∀ (r : Option Value) (μ' : Mem), Qc r μ' → V G p l e R s m args below meth c nL k n Z (pc + 3) lv (r.toList ++ st) μ') : V G p l e R s m args below meth c nL k n Z pc lv st0 μ := by
  refine V_run (As := As.toArray) (Qc := Qc) (fun H locs ls hP hS hz => ?_) kk
  subst hst
  exact va_runS ⟨F.1, F.2.1, F.2.2.2.2.1, F.2.2.2.2.2.1, F.2.2.2.2.2.2.1⟩ hC ⟨callB_of j F.2.2.2.2.2.2.1 (good_code hM.1) rfl rfl rfl (F.2.2.2.2.2.2.1 _ hM.2.1) (F.2.2.2.2.2.2.1 _ hlink) hM.2.2.1 (room_ok hR hnl), F.2.2.2.2.2.2.1 _ hs⟩
    ⟨Pp.blind, fun U hU hW => ⟨rfl, by rw [hU]; exact hP, by rw [hU]; exact F.2.2.2.2.2.2.2.1.step hS hW⟩⟩ rfl hn hz rfl (lv_room hw) d F.2.2.2.2.2.2.2.2
theorem V_callSN (F : Fx G p R s m args meth c own cc nL ret k n) {host : String} (hC : Ct G l dp y b nLc retc As μ Qc) (hM : MI y b nLc retc j) (hs : Cond.static y ∈ wsG) (hlink : Cond.methodLinkNest own index y host ∈ nestW) (d : decode cc pc = .ok (.invokestatic index, 3)) (hR : dp + 1 ≤ R.frames ∧ (dp + 1) * 40 ≤ R.locals) {st0 : List Value} (hst : st0 = As.reverse ++ st) (hn : As.length = j) (hnl : nLc ≤ 21) (hw : (st.map fun v => v.category).sum ≤ 8)
    (kk : ∀ (r : Option Value) (μ' : Mem), Qc r μ' → V G p l e R s m args below meth c nL k n Z (pc + 3) lv (r.toList ++ st) μ') : V G p l e R s m args below meth c nL k n Z pc lv st0 μ := by
  refine V_run (As := As.toArray) (Qc := Qc) (fun H locs ls hP hS hz => ?_) kk
  subst hst
  exact va_runSN ⟨F.1, F.2.1, F.2.2.2.2.1, F.2.2.2.2.2.1, F.2.2.2.2.2.2.1⟩ hC ⟨va_cnB j F.2.2.2.2.2.2.1 (good_code hM.1) rfl rfl rfl (F.2.2.2.2.2.2.2.1.2.2.1 _ hlink) (F.2.2.2.2.2.2.1 _ hM.2.1) hM.2.2.1 (room_ok hR hnl), F.2.2.2.2.2.2.1 _ hs, trivial⟩
    ⟨Pp.blind, fun U hU hW => ⟨rfl, by rw [hU]; exact hP, by rw [hU]; exact F.2.2.2.2.2.2.2.1.step hS hW⟩⟩ rfl hn hz rfl (lv_room hw) d F.2.2.2.2.2.2.2.2
theorem V_callV (F : Fx G p R s m args meth c own cc nL ret k n) {a ci q0 : Nat} {qc : vw_C} {fs : List Value} (hC : Ct G l dp y b nLc retc (.ref a :: As) μ Qc) (hM : MI y b nLc retc j) (hs : Cond.instanceMethod y ∈ wsG ∧ Cond.selects y.cls y y ∈ wsG) (hlink : Cond.methodLink own index y ∈ wsG) (d : decode cc pc = .ok (.invokevirtual index, 3)) (hR : dp + 1 ≤ R.frames ∧ (dp + 1) * 40 ≤ R.locals) {st0 : List Value} (hst : st0 = As.reverse ++ .ref a :: st) (hn : As.length = j) (hnl : nLc ≤ 21) (hw : (st.map fun v => v.category).sum ≤ 8)
    (he : (gW G μ)[q0]? = some (a, .inr (ci, fs))) (hc : vwCl[ci]? = some qc) (hqc : qc.1 = y.cls) (kk : ∀ (r : Option Value) (μ' : Mem), Qc r μ' → V G p l e R s m args below meth c nL k n Z (pc + 3) lv (r.toList ++ st) μ') : V G p l e R s m args below meth c nL k n Z pc lv st0 μ := by
  refine V_run (As := (Value.ref a :: As).toArray) (Qc := Qc) (fun H locs ls hP hS hz => ?_) kk
  subst hst
  exact va_runV ⟨F.1, F.2.1, F.2.2.2.2.1, F.2.2.2.2.2.1, F.2.2.2.2.2.2.1⟩ hC ⟨callB_of j F.2.2.2.2.2.2.1 (good_code hM.1) rfl rfl rfl (F.2.2.2.2.2.2.1 _ hM.2.1) (F.2.2.2.2.2.2.1 _ hlink) hM.2.2.1 (room_ok hR hnl), F.2.2.2.2.2.2.1 _ hs.1, F.2.2.2.2.2.2.1 _ hs.2⟩
    ⟨Pp.blind, hqc ▸ va_recv F.2.2.2.2.2.2.2.1.1 hP hc he, fun U hU hW => ⟨rfl, by rw [hU]; exact hP, by rw [hU]; exact F.2.2.2.2.2.2.2.1.step hS hW⟩⟩ rfl hn hz rfl (lv_room hw) d F.2.2.2.2.2.2.2.2
theorem V_callVN (F : Fx G p R s m args meth c own cc nL ret k n) {host : String} {a ci q0 : Nat} {qc : vw_C} {fs : List Value} (hC : Ct G l dp y b nLc retc (.ref a :: As) μ Qc) (hM : MI y b nLc retc j) (hs : Cond.instanceMethod y ∈ wsG ∧ Cond.selects y.cls y y ∈ wsG) (hlink : Cond.methodLinkNest own index y host ∈ nestW) (d : decode cc pc = .ok (.invokevirtual index, 3)) (hR : dp + 1 ≤ R.frames ∧ (dp + 1) * 40 ≤ R.locals) {st0 : List Value} (hst : st0 = As.reverse ++ .ref a :: st) (hn : As.length = j) (hnl : nLc ≤ 21) (hw : (st.map fun v => v.category).sum ≤ 8)
    (he : (gW G μ)[q0]? = some (a, .inr (ci, fs))) (hc : vwCl[ci]? = some qc) (hqc : qc.1 = y.cls) (kk : ∀ (r : Option Value) (μ' : Mem), Qc r μ' → V G p l e R s m args below meth c nL k n Z (pc + 3) lv (r.toList ++ st) μ') : V G p l e R s m args below meth c nL k n Z pc lv st0 μ := by
  refine V_run (As := (Value.ref a :: As).toArray) (Qc := Qc) (fun H locs ls hP hS hz => ?_) kk
  subst hst
  exact va_runVN ⟨F.1, F.2.1, F.2.2.2.2.1, F.2.2.2.2.2.1, F.2.2.2.2.2.2.1⟩ hC ⟨va_cnB j F.2.2.2.2.2.2.1 (good_code hM.1) rfl rfl rfl (F.2.2.2.2.2.2.2.1.2.2.1 _ hlink) (F.2.2.2.2.2.2.1 _ hM.2.1) hM.2.2.1 (room_ok hR hnl), F.2.2.2.2.2.2.1 _ hs.1, F.2.2.2.2.2.2.1 _ hs.2⟩
    ⟨Pp.blind, hqc ▸ va_recv F.2.2.2.2.2.2.2.1.1 hP hc he, fun U hU hW => ⟨rfl, by rw [hU]; exact hP, by rw [hU]; exact F.2.2.2.2.2.2.2.1.step hS hW⟩⟩ rfl hn hz rfl (lv_room hw) d F.2.2.2.2.2.2.2.2
end VROWS
/-- a contract, out of a walk of the method's body -/
theorem Ct.of {G : Geo} {l : Launch} {dp : Nat} {y : MethodName} {own : String} {b : ByteArray} {nL j : Nat} {ret : Option FieldType} {av : List Value} {μ : Mem} {Q : Option Value → Mem → Prop} (hM : MI y b nL ret j) (ho : y.cls = own) (lv : List (Option Value)) (hn : (lg_sl av).length ≤ nL) (hlv : al 0 lv = lv_args 0 av)
    (body : ∀ (p : Program) (e : Env) (s : State) (m : MethodId) (below : List Frame) (meth : Method) (c : Code), Fx G p (rmD dp) s m av.toArray meth c own b nL ret 0 0 → V G p l e (rmD dp) s m av.toArray below meth c nL 0 0 (MQ below (Qp G Q) av.toArray s 0 0 (gA G)) 0 lv [] μ) : Ct G l dp y b nL ret av μ Q := by
  refine Met.ofW (cc := b) (maxL := nL) (ret := ret) hM.2.2.2 rfl ?_
  intro p e s m args below meth c s₁ B hml hv
  obtain ⟨rfl, hP, hst⟩ := hv
  have hts := atoms_spec (ws := Cond.code y b nL ret :: wsG) B.pre
  have hown : s.vm.findClass y.cls = some m.cls := findClass_of_methodNamed B.named
  have hl := lv_entry av (n := nL) hn
  rw [lg_entry_eq]
  exact body p e s m below meth c ⟨B.exec, B.bytes, B.returns, B.notSynchronized, hml, ho ▸ hown, fun w hw => hts w (List.mem_cons_of_mem _ hw), hst, Nat.zero_le _, Nat.zero_le _⟩ s.heap [] _ hP va_S.rf (hlv ▸ hl)
end MACH
end
section
section WORLD
abbrev Gm : Type := (Nat → Nat) × va_G × (ClassId × ClassId) × (Nat → Nat) × (Nat → Nat)
def lenS : Nat → Nat
  | 12 => 72
  | 14 => 4140
  | 25 => 8
  | 30 => 8
  | 31 => 4
  | 32 => 48
  | _ => 24
def isI (c : Nat) : Bool := (3 ≤ c && c ≤ 12) || c == 14 || (16 ≤ c && c ≤ 32)
def wS (cT : ClassId × ClassId) (α : Nat → Nat) (μ : Mem) : va_W := [
  (α 0, .inr (2, [.ref (α 1), .ref (α 2)])),
  (α 1, .inr (1, [.int (μ.1 1 0), .ref (α 3), .ref (α 4), .ref (α 5), .ref (α 6), .ref (α 7), .ref (α 8), .ref (α 9), .ref (α 10), .ref (α 11), .ref (α 12), .ref (α 13)])),
  (α 2, .inr (0, [.ref (α 1), .ref (α 14)])),
  (α 3, .inl (cT.1, 24, .inl (μ.1 3))),
  (α 4, .inl (cT.1, 24, .inl (μ.1 4))),
  (α 5, .inl (cT.1, 24, .inl (μ.1 5))),
  (α 6, .inl (cT.1, 24, .inl (μ.1 6))),
  (α 7, .inl (cT.1, 24, .inl (μ.1 7))),
  (α 8, .inl (cT.1, 24, .inl (μ.1 8))),
  (α 9, .inl (cT.1, 24, .inl (μ.1 9))),
  (α 10, .inl (cT.1, 24, .inl (μ.1 10))),
  (α 11, .inl (cT.1, 24, .inl (μ.1 11))),
  (α 12, .inl (cT.1, 72, .inl (μ.1 12))),
  (α 13, .inl (cT.2, 72, .inr (.inl μ.2))),
  (α 14, .inl (cT.1, 4140, .inl (μ.1 14))),
  (α 15, .inr (3, [.int (μ.1 15 0), .ref (α 16), .ref (α 17), .ref (α 18), .ref (α 19), .ref (α 20), .ref (α 21), .ref (α 22), .ref (α 23), .ref (α 24), .ref (α 25), .ref (α 26), .ref (α 27), .ref (α 28), .ref (α 29), .ref (α 30), .ref (α 31), .ref (α 32), .int (μ.1 15 18)])),
  (α 16, .inl (cT.1, 24, .inl (μ.1 16))),
  (α 17, .inl (cT.1, 24, .inl (μ.1 17))),
  (α 18, .inl (cT.1, 24, .inl (μ.1 18))),
  (α 19, .inl (cT.1, 24, .inl (μ.1 19))),
  (α 20, .inl (cT.1, 24, .inl (μ.1 20))),
  (α 21, .inl (cT.1, 24, .inl (μ.1 21))),
  (α 22, .inl (cT.1, 24, .inl (μ.1 22))),
  (α 23, .inl (cT.1, 24, .inl (μ.1 23))),
  (α 24, .inl (cT.1, 24, .inl (μ.1 24))),
  (α 25, .inl (cT.1, 8, .inl (μ.1 25))),
  (α 26, .inl (cT.1, 24, .inl (μ.1 26))),
  (α 27, .inl (cT.1, 24, .inl (μ.1 27))),
  (α 28, .inl (cT.1, 24, .inl (μ.1 28))),
  (α 29, .inl (cT.1, 24, .inl (μ.1 29))),
  (α 30, .inl (cT.1, 8, .inl (μ.1 30))),
  (α 31, .inl (cT.1, 4, .inl (μ.1 31))),
  (α 32, .inl (cT.1, 48, .inl (μ.1 32)))]
def AS (α : Nat → Nat) : Nat → Prop := fun q => ∃ k, k < 33 ∧ q = α k
abbrev GS (g : Gm) : Geo := (wS g.2.2.1 g.1, AS g.1, g.2.1, g.2.2.1, g.2.2.2.1, g.2.2.2.2)
theorem isI_or {c : Nat} (h : isI c = true) : c = 3 ∨ c = 4 ∨ c = 5 ∨ c = 6 ∨ c = 7 ∨ c = 8 ∨ c = 9 ∨ c = 10 ∨ c = 11 ∨ c = 12 ∨ c = 14 ∨ c = 16 ∨ c = 17 ∨ c = 18 ∨ c = 19 ∨ c = 20 ∨ c = 21 ∨ c = 22 ∨ c = 23 ∨ c = 24 ∨ c = 25 ∨ c = 26 ∨ c = 27 ∨ c = 28 ∨ c = 29 ∨ c = 30 ∨ c = 31 ∨ c = 32 := by
  simp only [isI, Bool.or_eq_true, Bool.and_eq_true, decide_eq_true_eq, beq_iff_eq] at h
  omega
theorem wS_int {g : Gm} {μ : Mem} {c : Nat} (h : isI c = true) : (gW (GS g) μ)[c]? = some (g.1 c, .inl ((GS g).2.2.2.1.1, lenS c, .inl (μ.1 c))) := by
  rcases isI_or h with rfl | rfl | rfl | rfl | rfl | rfl | rfl | rfl | rfl | rfl | rfl | rfl | rfl | rfl | rfl | rfl | rfl | rfl | rfl | rfl | rfl | rfl | rfl | rfl | rfl | rfl | rfl | rfl <;> rfl
theorem wS_set {g : Gm} {μ : Mem} {c i : Nat} {v : Int32} (h : isI c = true) : (gW (GS g) μ).set c (g.1 c, .inl ((GS g).2.2.2.1.1, lenS c, .inl (upd (μ.1 c) i v))) = gW (GS g) (wr μ c i v) := by
  rcases isI_or h with rfl | rfl | rfl | rfl | rfl | rfl | rfl | rfl | rfl | rfl | rfl | rfl | rfl | rfl | rfl | rfl | rfl | rfl | rfl | rfl | rfl | rfl | rfl | rfl | rfl | rfl | rfl | rfl <;> rfl
theorem wr_at (μ : Mem) (c i d j : Nat) (v : Int32) : (wr μ c i v).1 d j = if d = c ∧ j = i then v else μ.1 d j := by
  by_cases hd : d = c
  · subst hd
    by_cases hj : j = i
    · subst hj; simp [wr, upd]
    · simp [wr, upd, hj]
  · simp [wr, hd]
theorem wr_2 (μ : Mem) (c i : Nat) (v : Int32) : (wr μ c i v).2 = μ.2 := rfl
theorem wrL_1 (μ : Mem) (i : Nat) (v : Int64) : (wrL μ i v).1 = μ.1 := rfl
theorem wrL_at (μ : Mem) (i j : Nat) (v : Int64) : (wrL μ i v).2 j = if j = i then v else μ.2 j := rfl
/-- the answer is v, and nothing has changed -/
def Is (v : Value) (μ : Mem) : Option Value → Mem → Prop := fun r μ' => r = some v ∧ μ' = μ
def IsN (μ : Mem) : Option Value → Mem → Prop := fun r μ' => r = none ∧ μ' = μ
theorem rmR {dp dq : Nat} (h : dp + 1 ≤ dq) : dp + 1 ≤ (rmD dq).frames ∧ (dp + 1) * 40 ≤ (rmD dq).locals := ⟨h, Nat.mul_le_mul_right 40 h⟩
theorem rmM {dq q : Nat} (h : 1 ≤ dq) (hq : q ≤ 20) : 1 ≤ (rmD dq).frames ∧ q + 13 ≤ (rmD dq).locals := ⟨h, by show q + 13 ≤ dq * 40; omega⟩
section WROWS
variable {g : Gm} {G : Geo} {p : Program} {l : Launch} {e : Env} {R : Room} {s : State} {m : MethodId} {args : Array Value} {below : List Frame} {meth : Method} {c : Code} {k n : Nat} {Z : State → Prop} {own : String} {cc : ByteArray} {nL pc : Nat} {ret : Option FieldType} {lv : List (Option Value)} {st : List Value} {μ : Mem}

theorem V_ia (F : Fx (GS g) p R s m args meth c own cc nL ret k n) {q j : Nat} {x v : Int32} (d : decode cc pc = .ok (.iaload, 1)) (h : isI q = true) (hx : x = nI j) (hj : j < lenS q) (hv : μ.1 q j = v) (kk : V (GS g) p l e R s m args below meth c nL k n Z (pc + 1) lv (.int v :: st) μ) : V (GS g) p l e R s m args below meth c nL k n Z pc lv (.int x :: .ref (g.1 q) :: st) μ := by
  have hb : j < 2 ^ 31 := by
    have : lenS q ≤ 4140 := by unfold lenS; split <;> omega
    omega
  subst hx; subst hv
  refine V_iald F d (wS_int h) (vp_in_nI hj (by have : lenS q ≤ 4140 := by { unfold lenS; split <;> omega }; omega)) ?_
  have e1 : (nI j).toNatClampNeg = j := nI_clamp hb
  rw [e1]
  exact kk
theorem V_ias (F : Fx (GS g) p R s m args meth c own cc nL ret k n) {q j : Nat} {x v : Int32} (d : decode cc pc = .ok (.iastore, 1)) (h : isI q = true) (hx : x = nI j) (hj : j < lenS q) (kk : V (GS g) p l e R s m args below meth c nL k n Z (pc + 1) lv st (wr μ q j v)) : V (GS g) p l e R s m args below meth c nL k n Z pc lv (.int v :: .int x :: .ref (g.1 q) :: st) μ := by
  have hb : j < 2 ^ 31 := by
    have : lenS q ≤ 4140 := by unfold lenS; split <;> omega
    omega
  subst hx
  have e1 : (nI j).toNatClampNeg = j := nI_clamp hb
  refine V_iast F d (wS_int h) (vp_in_nI hj (by have : lenS q ≤ 4140 := by { unfold lenS; split <;> omega }; omega)) (wS_set h) ?_
  rw [e1]
  exact kk
theorem V_iaddN (F : Fx G p R s m args meth c own cc nL ret k n) {x y : Nat} (d : decode cc pc = .ok (.iadd, 1)) (kk : V G p l e R s m args below meth c nL k n Z (pc + 1) lv (.int (nI (x + y)) :: st) μ) : V G p l e R s m args below meth c nL k n Z pc lv (.int (nI y) :: .int (nI x) :: st) μ := V_iadd F d (by rw [nI_add]; exact kk)
theorem V_imulN (F : Fx G p R s m args meth c own cc nL ret k n) {x y : Nat} (d : decode cc pc = .ok (.imul, 1)) (kk : V G p l e R s m args below meth c nL k n Z (pc + 1) lv (.int (nI (x * y)) :: st) μ) : V G p l e R s m args below meth c nL k n Z pc lv (.int (nI y) :: .int (nI x) :: st) μ := V_imul F d (by rw [show nI x * nI y = nI (x * y) from (Int32.ofNat_mul x y).symm]; exact kk)
theorem V_valL (F : Fx G p R s m args meth c own cc nL ret k n) {u v : Int64} (h : u = v) (kk : V G p l e R s m args below meth c nL k n Z pc lv (.long v :: st) μ) : V G p l e R s m args below meth c nL k n Z pc lv (.long u :: st) μ := h ▸ kk
theorem V_val (F : Fx G p R s m args meth c own cc nL ret k n) {u v : Int32} (h : u = v) (kk : V G p l e R s m args below meth c nL k n Z pc lv (.int v :: st) μ) : V G p l e R s m args below meth c nL k n Z pc lv (.int u :: st) μ := h ▸ kk

theorem V_callSi (F : Fx G p R s m args meth c own cc nL ret k n) {y : MethodName} {b : ByteArray} {nLc dp index j : Nat} {retc : Option FieldType} {As : List Value} {v : Value} (hC : Ct G l dp y b nLc retc As μ (Is v μ)) (hM : MI y b nLc retc j) (hs : Cond.static y ∈ wsG) (hlink : Cond.methodLink own index y ∈ wsG) (d : decode cc pc = .ok (.invokestatic index, 3)) (hR : dp + 1 ≤ R.frames ∧ (dp + 1) * 40 ≤ R.locals) {st0 : List Value} (hst : st0 = As.reverse ++ st) (hn : As.length = j) (hnl : nLc ≤ 21) (hw : (st.map fun v => v.category).sum ≤ 8) (kk : V G p l e R s m args below meth c nL k n Z (pc + 3) lv (v :: st) μ) : V G p l e R s m args below meth c nL k n Z pc lv st0 μ :=
  V_callS F hC hM hs hlink d hR hst hn hnl hw (fun r μ' h => by obtain ⟨rfl, rfl⟩ := h; exact kk)
theorem V_callS0 (F : Fx G p R s m args meth c own cc nL ret k n) {y : MethodName} {b : ByteArray} {nLc dp index j : Nat} {retc : Option FieldType} {As : List Value} {ν : Mem} (hC : Ct G l dp y b nLc retc As μ (IsN ν)) (hM : MI y b nLc retc j) (hs : Cond.static y ∈ wsG) (hlink : Cond.methodLink own index y ∈ wsG) (d : decode cc pc = .ok (.invokestatic index, 3)) (hR : dp + 1 ≤ R.frames ∧ (dp + 1) * 40 ≤ R.locals) {st0 : List Value} (hst : st0 = As.reverse ++ st) (hn : As.length = j) (hnl : nLc ≤ 21) (hw : (st.map fun v => v.category).sum ≤ 8) (kk : V G p l e R s m args below meth c nL k n Z (pc + 3) lv (st) ν) : V G p l e R s m args below meth c nL k n Z pc lv st0 μ :=
  V_callS F hC hM hs hlink d hR hst hn hnl hw (fun r μ' h => by obtain ⟨rfl, rfl⟩ := h; exact kk)
theorem V_callSNi (F : Fx G p R s m args meth c own cc nL ret k n) {y : MethodName} {b : ByteArray} {nLc dp index j : Nat} {retc : Option FieldType} {As : List Value} {v : Value} (hC : Ct G l dp y b nLc retc As μ (Is v μ)) (hM : MI y b nLc retc j) {host : String} (hs : Cond.static y ∈ wsG) (hlink : Cond.methodLinkNest own index y host ∈ nestW) (d : decode cc pc = .ok (.invokestatic index, 3)) (hR : dp + 1 ≤ R.frames ∧ (dp + 1) * 40 ≤ R.locals) {st0 : List Value} (hst : st0 = As.reverse ++ st) (hn : As.length = j) (hnl : nLc ≤ 21) (hw : (st.map fun v => v.category).sum ≤ 8) (kk : V G p l e R s m args below meth c nL k n Z (pc + 3) lv (v :: st) μ) : V G p l e R s m args below meth c nL k n Z pc lv st0 μ :=
  V_callSN F hC hM hs hlink d hR hst hn hnl hw (fun r μ' h => by obtain ⟨rfl, rfl⟩ := h; exact kk)
theorem V_callSN0 (F : Fx G p R s m args meth c own cc nL ret k n) {y : MethodName} {b : ByteArray} {nLc dp index j : Nat} {retc : Option FieldType} {As : List Value} {ν : Mem} (hC : Ct G l dp y b nLc retc As μ (IsN ν)) (hM : MI y b nLc retc j) {host : String} (hs : Cond.static y ∈ wsG) (hlink : Cond.methodLinkNest own index y host ∈ nestW) (d : decode cc pc = .ok (.invokestatic index, 3)) (hR : dp + 1 ≤ R.frames ∧ (dp + 1) * 40 ≤ R.locals) {st0 : List Value} (hst : st0 = As.reverse ++ st) (hn : As.length = j) (hnl : nLc ≤ 21) (hw : (st.map fun v => v.category).sum ≤ 8) (kk : V G p l e R s m args below meth c nL k n Z (pc + 3) lv (st) ν) : V G p l e R s m args below meth c nL k n Z pc lv st0 μ :=
  V_callSN F hC hM hs hlink d hR hst hn hnl hw (fun r μ' h => by obtain ⟨rfl, rfl⟩ := h; exact kk)
theorem V_callVi (F : Fx G p R s m args meth c own cc nL ret k n) {y : MethodName} {b : ByteArray} {nLc dp index j a ci q0 : Nat} {qc : vw_C} {fs : List Value} {retc : Option FieldType} {As : List Value} {v : Value} (hC : Ct G l dp y b nLc retc (.ref a :: As) μ (Is v μ)) (hM : MI y b nLc retc j) (hs : Cond.instanceMethod y ∈ wsG ∧ Cond.selects y.cls y y ∈ wsG) (hlink : Cond.methodLink own index y ∈ wsG) (d : decode cc pc = .ok (.invokevirtual index, 3)) (hR : dp + 1 ≤ R.frames ∧ (dp + 1) * 40 ≤ R.locals) {st0 : List Value} (hst : st0 = As.reverse ++ .ref a :: st) (hn : As.length = j) (hnl : nLc ≤ 21) (hw : (st.map fun v => v.category).sum ≤ 8) (he : (gW G μ)[q0]? = some (a, .inr (ci, fs))) (hc : vwCl[ci]? = some qc) (hqc : qc.1 = y.cls) (kk : V G p l e R s m args below meth c nL k n Z (pc + 3) lv (v :: st) μ) : V G p l e R s m args below meth c nL k n Z pc lv st0 μ :=
  V_callV F hC hM hs hlink d hR hst hn hnl hw he hc hqc (fun r μ' h => by obtain ⟨rfl, rfl⟩ := h; exact kk)
theorem V_callV0 (F : Fx G p R s m args meth c own cc nL ret k n) {y : MethodName} {b : ByteArray} {nLc dp index j a ci q0 : Nat} {qc : vw_C} {fs : List Value} {retc : Option FieldType} {As : List Value} {ν : Mem} (hC : Ct G l dp y b nLc retc (.ref a :: As) μ (IsN ν)) (hM : MI y b nLc retc j) (hs : Cond.instanceMethod y ∈ wsG ∧ Cond.selects y.cls y y ∈ wsG) (hlink : Cond.methodLink own index y ∈ wsG) (d : decode cc pc = .ok (.invokevirtual index, 3)) (hR : dp + 1 ≤ R.frames ∧ (dp + 1) * 40 ≤ R.locals) {st0 : List Value} (hst : st0 = As.reverse ++ .ref a :: st) (hn : As.length = j) (hnl : nLc ≤ 21) (hw : (st.map fun v => v.category).sum ≤ 8) (he : (gW G μ)[q0]? = some (a, .inr (ci, fs))) (hc : vwCl[ci]? = some qc) (hqc : qc.1 = y.cls) (kk : V G p l e R s m args below meth c nL k n Z (pc + 3) lv (st) ν) : V G p l e R s m args below meth c nL k n Z pc lv st0 μ :=
  V_callV F hC hM hs hlink d hR hst hn hnl hw he hc hqc (fun r μ' h => by obtain ⟨rfl, rfl⟩ := h; exact kk)
theorem V_callVNi (F : Fx G p R s m args meth c own cc nL ret k n) {y : MethodName} {b : ByteArray} {nLc dp index j a ci q0 : Nat} {qc : vw_C} {fs : List Value} {retc : Option FieldType} {As : List Value} {v : Value} (hC : Ct G l dp y b nLc retc (.ref a :: As) μ (Is v μ)) (hM : MI y b nLc retc j) {host : String} (hs : Cond.instanceMethod y ∈ wsG ∧ Cond.selects y.cls y y ∈ wsG) (hlink : Cond.methodLinkNest own index y host ∈ nestW) (d : decode cc pc = .ok (.invokevirtual index, 3)) (hR : dp + 1 ≤ R.frames ∧ (dp + 1) * 40 ≤ R.locals) {st0 : List Value} (hst : st0 = As.reverse ++ .ref a :: st) (hn : As.length = j) (hnl : nLc ≤ 21) (hw : (st.map fun v => v.category).sum ≤ 8) (he : (gW G μ)[q0]? = some (a, .inr (ci, fs))) (hc : vwCl[ci]? = some qc) (hqc : qc.1 = y.cls) (kk : V G p l e R s m args below meth c nL k n Z (pc + 3) lv (v :: st) μ) : V G p l e R s m args below meth c nL k n Z pc lv st0 μ :=
  V_callVN F hC hM hs hlink d hR hst hn hnl hw he hc hqc (fun r μ' h => by obtain ⟨rfl, rfl⟩ := h; exact kk)
theorem V_callVN0 (F : Fx G p R s m args meth c own cc nL ret k n) {y : MethodName} {b : ByteArray} {nLc dp index j a ci q0 : Nat} {qc : vw_C} {fs : List Value} {retc : Option FieldType} {As : List Value} {ν : Mem} (hC : Ct G l dp y b nLc retc (.ref a :: As) μ (IsN ν)) (hM : MI y b nLc retc j) {host : String} (hs : Cond.instanceMethod y ∈ wsG ∧ Cond.selects y.cls y y ∈ wsG) (hlink : Cond.methodLinkNest own index y host ∈ nestW) (d : decode cc pc = .ok (.invokevirtual index, 3)) (hR : dp + 1 ≤ R.frames ∧ (dp + 1) * 40 ≤ R.locals) {st0 : List Value} (hst : st0 = As.reverse ++ .ref a :: st) (hn : As.length = j) (hnl : nLc ≤ 21) (hw : (st.map fun v => v.category).sum ≤ 8) (he : (gW G μ)[q0]? = some (a, .inr (ci, fs))) (hc : vwCl[ci]? = some qc) (hqc : qc.1 = y.cls) (kk : V G p l e R s m args below meth c nL k n Z (pc + 3) lv (st) ν) : V G p l e R s m args below meth c nL k n Z pc lv st0 μ :=
  V_callVN F hC hM hs hlink d hR hst hn hnl hw he hc hqc (fun r μ' h => by obtain ⟨rfl, rfl⟩ := h; exact kk)
theorem V_icmp_eq_N (F : Fx G p R s m args meth c own cc nL ret k n) {off : Int} {tgt a b : Nat} (d : decode cc pc = .ok (.if_icmp .eq off, 3)) (ht : (pc : Int) + off = (tgt : Int)) (ha : a < 2 ^ 31) (hb : b < 2 ^ 31) (kt : a = b → V G p l e R s m args below meth c nL k n Z tgt lv st μ) (kf : ¬ a = b → V G p l e R s m args below meth c nL k n Z (pc + 3) lv st μ) : V G p l e R s m args below meth c nL k n Z pc lv (.int (nI b) :: .int (nI a) :: st) μ :=
  V_icmp_eq F d ht (fun h => kt ((nI_eq ha hb).mp h)) (fun h => kf (fun q => h ((nI_eq ha hb).mpr q)))
theorem V_icmp_ne_N (F : Fx G p R s m args meth c own cc nL ret k n) {off : Int} {tgt a b : Nat} (d : decode cc pc = .ok (.if_icmp .ne off, 3)) (ht : (pc : Int) + off = (tgt : Int)) (ha : a < 2 ^ 31) (hb : b < 2 ^ 31) (kt : a ≠ b → V G p l e R s m args below meth c nL k n Z tgt lv st μ) (kf : ¬ (a ≠ b) → V G p l e R s m args below meth c nL k n Z (pc + 3) lv st μ) : V G p l e R s m args below meth c nL k n Z pc lv (.int (nI b) :: .int (nI a) :: st) μ :=
  V_icmp_ne F d ht (fun h => kt ((not_congr (nI_eq ha hb)).mp h)) (fun h => kf (fun q => q ((nI_eq ha hb).mp h)))
theorem V_icmp_lt_N (F : Fx G p R s m args meth c own cc nL ret k n) {off : Int} {tgt a b : Nat} (d : decode cc pc = .ok (.if_icmp .lt off, 3)) (ht : (pc : Int) + off = (tgt : Int)) (ha : a < 2 ^ 31) (hb : b < 2 ^ 31) (kt : a < b → V G p l e R s m args below meth c nL k n Z tgt lv st μ) (kf : ¬ a < b → V G p l e R s m args below meth c nL k n Z (pc + 3) lv st μ) : V G p l e R s m args below meth c nL k n Z pc lv (.int (nI b) :: .int (nI a) :: st) μ :=
  V_icmp_lt F d ht (fun h => kt ((nI_ltI ha hb).mp h)) (fun h => kf (fun q => h ((nI_ltI ha hb).mpr q)))
theorem V_icmp_ge_N (F : Fx G p R s m args meth c own cc nL ret k n) {off : Int} {tgt a b : Nat} (d : decode cc pc = .ok (.if_icmp .ge off, 3)) (ht : (pc : Int) + off = (tgt : Int)) (ha : a < 2 ^ 31) (hb : b < 2 ^ 31) (kt : b ≤ a → V G p l e R s m args below meth c nL k n Z tgt lv st μ) (kf : ¬ b ≤ a → V G p l e R s m args below meth c nL k n Z (pc + 3) lv st μ) : V G p l e R s m args below meth c nL k n Z pc lv (.int (nI b) :: .int (nI a) :: st) μ :=
  V_icmp_ge F d ht (fun h => kt ((nI_leI hb ha).mp h)) (fun h => kf (fun q => h ((nI_leI hb ha).mpr q)))
theorem V_icmp_gt_N (F : Fx G p R s m args meth c own cc nL ret k n) {off : Int} {tgt a b : Nat} (d : decode cc pc = .ok (.if_icmp .gt off, 3)) (ht : (pc : Int) + off = (tgt : Int)) (ha : a < 2 ^ 31) (hb : b < 2 ^ 31) (kt : b < a → V G p l e R s m args below meth c nL k n Z tgt lv st μ) (kf : ¬ b < a → V G p l e R s m args below meth c nL k n Z (pc + 3) lv st μ) : V G p l e R s m args below meth c nL k n Z pc lv (.int (nI b) :: .int (nI a) :: st) μ :=
  V_icmp_gt F d ht (fun h => kt ((nI_ltI hb ha).mp h)) (fun h => kf (fun q => h ((nI_ltI hb ha).mpr q)))
theorem V_icmp_le_N (F : Fx G p R s m args meth c own cc nL ret k n) {off : Int} {tgt a b : Nat} (d : decode cc pc = .ok (.if_icmp .le off, 3)) (ht : (pc : Int) + off = (tgt : Int)) (ha : a < 2 ^ 31) (hb : b < 2 ^ 31) (kt : a ≤ b → V G p l e R s m args below meth c nL k n Z tgt lv st μ) (kf : ¬ a ≤ b → V G p l e R s m args below meth c nL k n Z (pc + 3) lv st μ) : V G p l e R s m args below meth c nL k n Z pc lv (.int (nI b) :: .int (nI a) :: st) μ :=
  V_icmp_le F d ht (fun h => kt ((nI_leI ha hb).mp h)) (fun h => kf (fun q => h ((nI_leI ha hb).mpr q)))
theorem nI_max {a b : Nat} (ha : a < 2 ^ 31) (hb : b < 2 ^ 31) : (if nI a < nI b then nI b else nI a) = nI (max a b) := by
  by_cases h : a < b
  · rw [if_pos ((nI_ltI ha hb).mpr h), Nat.max_eq_right (by omega)]
  · rw [if_neg (fun q => h ((nI_ltI ha hb).mp q)), Nat.max_eq_left (by omega)]
theorem nI_min {a b : Nat} (ha : a < 2 ^ 31) (hb : b < 2 ^ 31) : (if nI b < nI a then nI b else nI a) = nI (min a b) := by
  by_cases h : b < a
  · rw [if_pos ((nI_ltI hb ha).mpr h), Nat.min_eq_right (by omega)]
  · rw [if_neg (fun q => h ((nI_ltI hb ha).mp q)), Nat.min_eq_left (by omega)]
theorem V_maxN (F : Fx G p R s m args meth c own cc nL ret k n) {x y index : Nat} (hlink : Cond.methodLink own index Lib.Math.max.name ∈ wsG) (d : decode cc pc = .ok (.invokestatic index, 3)) (hR : 1 ≤ R.frames ∧ (st.map fun v => v.category).sum + 13 ≤ R.locals) (hx : x < 2 ^ 31) (hy : y < 2 ^ 31) (kk : V G p l e R s m args below meth c nL k n Z (pc + 3) lv (.int (nI (max x y)) :: st) μ) : V G p l e R s m args below meth c nL k n Z pc lv (.int (nI y) :: .int (nI x) :: st) μ := V_max F hlink d hR (by rw [nI_max hx hy]; exact kk)
theorem V_minN (F : Fx G p R s m args meth c own cc nL ret k n) {x y index : Nat} (hlink : Cond.methodLink own index Lib.Math.min.name ∈ wsG) (d : decode cc pc = .ok (.invokestatic index, 3)) (hR : 1 ≤ R.frames ∧ (st.map fun v => v.category).sum + 13 ≤ R.locals) (hx : x < 2 ^ 31) (hy : y < 2 ^ 31) (kk : V G p l e R s m args below meth c nL k n Z (pc + 3) lv (.int (nI (min x y)) :: st) μ) : V G p l e R s m args below meth c nL k n Z pc lv (.int (nI y) :: .int (nI x) :: st) μ := V_min F hlink d hR (by rw [nI_min hx hy]; exact kk)
theorem V_isubN (F : Fx G p R s m args meth c own cc nL ret k n) {x y : Nat} (h : y ≤ x) (d : decode cc pc = .ok (.isub, 1)) (kk : V G p l e R s m args below meth c nL k n Z (pc + 1) lv (.int (nI (x - y)) :: st) μ) : V G p l e R s m args below meth c nL k n Z pc lv (.int (nI y) :: .int (nI x) :: st) μ := V_isub F d (by rw [show nI x - nI y = nI (x - y) from (Int32.ofNat_sub x y h).symm]; exact kk)
end WROWS
theorem mi_X3_init : MI yX3_init cX3_init 1 none 0 := ⟨mc_X3_init, mt_X3, ⟨by decide +kernel, by decide +kernel, by decide +kernel⟩, by decide +kernel⟩
theorem mi_X2_init : MI yX2_init cX2_init 1 none 0 := ⟨mc_X2_init, mt_X2, ⟨by decide +kernel, by decide +kernel, by decide +kernel⟩, by decide +kernel⟩
theorem mi_X2_lengthsOfNew : MI yX2_lengthsOfNew cX2_lengthsOfNew 1 (some (.array .int)) 0 := ⟨mc_X2_lengthsOfNew, mt_X2, ⟨by decide +kernel, by decide +kernel, by decide +kernel⟩, by decide +kernel⟩
theorem mi_X2_headOf : MI yX2_headOf cX2_headOf 1 (some (.object "java/lang/String")) 1 := ⟨mc_X2_headOf, mt_X2, ⟨by decide +kernel, by decide +kernel, by decide +kernel⟩, by decide +kernel⟩
theorem mi_J0_length_8abf5 : MI yJ0_length_8abf5 cJ0_length_8abf5 1 (some .int) 0 := ⟨mc_J0_length_8abf5, mt_J0, ⟨by decide +kernel, by decide +kernel, by decide +kernel⟩, by decide +kernel⟩
theorem mm_J0_length_8abf5 : Cond.instanceMethod yJ0_length_8abf5 ∈ wsG ∧ Cond.selects yJ0_length_8abf5.cls yJ0_length_8abf5 yJ0_length_8abf5 ∈ wsG := ⟨mn_J0_length_8abf5, mv_J0_length_8abf5⟩
theorem mi_J0_coder_7d493 : MI yJ0_coder_7d493 cJ0_coder_7d493 1 (some .byte) 0 := ⟨mc_J0_coder_7d493, mt_J0, ⟨by decide +kernel, by decide +kernel, by decide +kernel⟩, by decide +kernel⟩
theorem mm_J0_coder_7d493 : Cond.instanceMethod yJ0_coder_7d493 ∈ wsG ∧ Cond.selects yJ0_coder_7d493.cls yJ0_coder_7d493 yJ0_coder_7d493 ∈ wsG := ⟨mn_J0_coder_7d493, mv_J0_coder_7d493⟩
theorem mi_X3_put : MI yX3_put cX3_put 3 none 3 := ⟨mc_X3_put, mt_X3, ⟨by decide +kernel, by decide +kernel, by decide +kernel⟩, by decide +kernel⟩
theorem mi_X0_init : MI yX0_init cX0_init 2 none 1 := ⟨mc_X0_init, mt_X0, ⟨by decide +kernel, by decide +kernel, by decide +kernel⟩, by decide +kernel⟩
theorem mi_X4_init : MI yX4_init cX4_init 1 none 0 := ⟨mc_X4_init, mt_X4, ⟨by decide +kernel, by decide +kernel, by decide +kernel⟩, by decide +kernel⟩
theorem mi_X3_tau : MI yX3_tau cX3_tau 2 (some .int) 1 := ⟨mc_X3_tau, mt_X3, ⟨by decide +kernel, by decide +kernel, by decide +kernel⟩, by decide +kernel⟩
theorem mm_X3_tau : Cond.instanceMethod yX3_tau ∈ wsG ∧ Cond.selects yX3_tau.cls yX3_tau yX3_tau ∈ wsG := ⟨mn_X3_tau, mv_X3_tau⟩
theorem mi_X2_holds : MI yX2_holds cX2_holds 2 (some .boolean) 1 := ⟨mc_X2_holds, mt_X2, ⟨by decide +kernel, by decide +kernel, by decide +kernel⟩, by decide +kernel⟩
theorem mm_X2_holds : Cond.instanceMethod yX2_holds ∈ wsG ∧ Cond.selects yX2_holds.cls yX2_holds yX2_holds ∈ wsG := ⟨mn_X2_holds, mv_X2_holds⟩
theorem mi_X2_build : MI yX2_build cX2_build 9 (some .int) 5 := ⟨mc_X2_build, mt_X2, ⟨by decide +kernel, by decide +kernel, by decide +kernel⟩, by decide +kernel⟩
theorem mm_X2_build : Cond.instanceMethod yX2_build ∈ wsG ∧ Cond.selects yX2_build.cls yX2_build yX2_build ∈ wsG := ⟨mn_X2_build, mv_X2_build⟩
theorem mi_X3_at : MI yX3_at cX3_at 2 (some .int) 2 := ⟨mc_X3_at, mt_X3, ⟨by decide +kernel, by decide +kernel, by decide +kernel⟩, by decide +kernel⟩
theorem mi_X2_isAction : MI yX2_isAction cX2_isAction 1 (some .boolean) 1 := ⟨mc_X2_isAction, mt_X2, ⟨by decide +kernel, by decide +kernel, by decide +kernel⟩, by decide +kernel⟩
theorem mi_X2_needFor : MI yX2_needFor cX2_needFor 9 (some .int) 5 := ⟨mc_X2_needFor, mt_X2, ⟨by decide +kernel, by decide +kernel, by decide +kernel⟩, by decide +kernel⟩
theorem mm_X2_needFor : Cond.instanceMethod yX2_needFor ∈ wsG ∧ Cond.selects yX2_needFor.cls yX2_needFor yX2_needFor ∈ wsG := ⟨mn_X2_needFor, mv_X2_needFor⟩
theorem mi_X2_lengthFor : MI yX2_lengthFor cX2_lengthFor 5 (some .int) 3 := ⟨mc_X2_lengthFor, mt_X2, ⟨by decide +kernel, by decide +kernel, by decide +kernel⟩, by decide +kernel⟩
theorem mm_X2_lengthFor : Cond.instanceMethod yX2_lengthFor ∈ wsG ∧ Cond.selects yX2_lengthFor.cls yX2_lengthFor yX2_lengthFor ∈ wsG := ⟨mn_X2_lengthFor, mv_X2_lengthFor⟩
theorem mi_X2_putActions : MI yX2_putActions cX2_putActions 9 none 6 := ⟨mc_X2_putActions, mt_X2, ⟨by decide +kernel, by decide +kernel, by decide +kernel⟩, by decide +kernel⟩
theorem mm_X2_putActions : Cond.instanceMethod yX2_putActions ∈ wsG ∧ Cond.selects yX2_putActions.cls yX2_putActions yX2_putActions ∈ wsG := ⟨mn_X2_putActions, mv_X2_putActions⟩
theorem mi_X3_put_ : MI yX3_put_ cX3_put_ 4 none 3 := ⟨mc_X3_put_, mt_X3, ⟨by decide +kernel, by decide +kernel, by decide +kernel⟩, by decide +kernel⟩
theorem mi_X2_copyActions : MI yX2_copyActions cX2_copyActions 9 none 4 := ⟨mc_X2_copyActions, mt_X2, ⟨by decide +kernel, by decide +kernel, by decide +kernel⟩, by decide +kernel⟩
theorem mm_X2_copyActions : Cond.instanceMethod yX2_copyActions ∈ wsG ∧ Cond.selects yX2_copyActions.cls yX2_copyActions yX2_copyActions ∈ wsG := ⟨mn_X2_copyActions, mv_X2_copyActions⟩
theorem mi_X3_at_ : MI yX3_at_ cX3_at_ 2 (some .long) 2 := ⟨mc_X3_at_, mt_X3, ⟨by decide +kernel, by decide +kernel, by decide +kernel⟩, by decide +kernel⟩
theorem mi_X4_tau : MI yX4_tau cX4_tau 2 (some .int) 1 := ⟨mc_X4_tau, mt_X4, ⟨by decide +kernel, by decide +kernel, by decide +kernel⟩, by decide +kernel⟩
theorem mm_X4_tau : Cond.instanceMethod yX4_tau ∈ wsG ∧ Cond.selects yX4_tau.cls yX4_tau yX4_tau ∈ wsG := ⟨mn_X4_tau, mv_X4_tau⟩
theorem mi_X4_isProcess : MI yX4_isProcess cX4_isProcess 2 (some .boolean) 1 := ⟨mc_X4_isProcess, mt_X4, ⟨by decide +kernel, by decide +kernel, by decide +kernel⟩, by decide +kernel⟩
theorem mm_X4_isProcess : Cond.instanceMethod yX4_isProcess ∈ wsG ∧ Cond.selects yX4_isProcess.cls yX4_isProcess yX4_isProcess ∈ wsG := ⟨mn_X4_isProcess, mv_X4_isProcess⟩
theorem mi_X4_in : MI yX4_in cX4_in 3 (some .boolean) 3 := ⟨mc_X4_in, mt_X4, ⟨by decide +kernel, by decide +kernel, by decide +kernel⟩, by decide +kernel⟩
theorem mi_X4_builds : MI yX4_builds cX4_builds 10 (some .int) 5 := ⟨mc_X4_builds, mt_X4, ⟨by decide +kernel, by decide +kernel, by decide +kernel⟩, by decide +kernel⟩
theorem mm_X4_builds : Cond.instanceMethod yX4_builds ∈ wsG ∧ Cond.selects yX4_builds.cls yX4_builds yX4_builds ∈ wsG := ⟨mn_X4_builds, mv_X4_builds⟩
theorem mi_X4_larger : MI yX4_larger cX4_larger 2 (some .int) 2 := ⟨mc_X4_larger, mt_X4, ⟨by decide +kernel, by decide +kernel, by decide +kernel⟩, by decide +kernel⟩
theorem mi_X4_needed : MI yX4_needed cX4_needed 1 (some .int) 1 := ⟨mc_X4_needed, mt_X4, ⟨by decide +kernel, by decide +kernel, by decide +kernel⟩, by decide +kernel⟩
theorem mi_X3_output : MI yX3_output cX3_output 4 (some .int) 3 := ⟨mc_X3_output, mt_X3, ⟨by decide +kernel, by decide +kernel, by decide +kernel⟩, by decide +kernel⟩
theorem mm_X3_output : Cond.instanceMethod yX3_output ∈ wsG ∧ Cond.selects yX3_output.cls yX3_output yX3_output ∈ wsG := ⟨mn_X3_output, mv_X3_output⟩
theorem mi_X3_isName : MI yX3_isName cX3_isName 1 (some .boolean) 1 := ⟨mc_X3_isName, mt_X3, ⟨by decide +kernel, by decide +kernel, by decide +kernel⟩, by decide +kernel⟩
theorem mi_X4_output : MI yX4_output cX4_output 4 (some .int) 3 := ⟨mc_X4_output, mt_X4, ⟨by decide +kernel, by decide +kernel, by decide +kernel⟩, by decide +kernel⟩
theorem mm_X4_output : Cond.instanceMethod yX4_output ∈ wsG ∧ Cond.selects yX4_output.cls yX4_output yX4_output ∈ wsG := ⟨mn_X4_output, mv_X4_output⟩
theorem mi_X4_isName : MI yX4_isName cX4_isName 1 (some .boolean) 1 := ⟨mc_X4_isName, mt_X4, ⟨by decide +kernel, by decide +kernel, by decide +kernel⟩, by decide +kernel⟩
theorem mi_X3_input : MI yX3_input cX3_input 3 (some .int) 2 := ⟨mc_X3_input, mt_X3, ⟨by decide +kernel, by decide +kernel, by decide +kernel⟩, by decide +kernel⟩
theorem mm_X3_input : Cond.instanceMethod yX3_input ∈ wsG ∧ Cond.selects yX3_input.cls yX3_input yX3_input ∈ wsG := ⟨mn_X3_input, mv_X3_input⟩
theorem mi_X4_input : MI yX4_input cX4_input 3 (some .int) 2 := ⟨mc_X4_input, mt_X4, ⟨by decide +kernel, by decide +kernel, by decide +kernel⟩, by decide +kernel⟩
theorem mm_X4_input : Cond.instanceMethod yX4_input ∈ wsG ∧ Cond.selects yX4_input.cls yX4_input yX4_input ∈ wsG := ⟨mn_X4_input, mv_X4_input⟩
theorem mi_X3_match : MI yX3_match cX3_match 4 (some .int) 3 := ⟨mc_X3_match, mt_X3, ⟨by decide +kernel, by decide +kernel, by decide +kernel⟩, by decide +kernel⟩
theorem mm_X3_match : Cond.instanceMethod yX3_match ∈ wsG ∧ Cond.selects yX3_match.cls yX3_match yX3_match ∈ wsG := ⟨mn_X3_match, mv_X3_match⟩
theorem mi_X4_match : MI yX4_match cX4_match 4 (some .int) 3 := ⟨mc_X4_match, mt_X4, ⟨by decide +kernel, by decide +kernel, by decide +kernel⟩, by decide +kernel⟩
theorem mm_X4_match : Cond.instanceMethod yX4_match ∈ wsG ∧ Cond.selects yX4_match.cls yX4_match yX4_match ∈ wsG := ⟨mn_X4_match, mv_X4_match⟩
theorem mi_X3_sum : MI yX3_sum cX3_sum 3 (some .int) 2 := ⟨mc_X3_sum, mt_X3, ⟨by decide +kernel, by decide +kernel, by decide +kernel⟩, by decide +kernel⟩
theorem mm_X3_sum : Cond.instanceMethod yX3_sum ∈ wsG ∧ Cond.selects yX3_sum.cls yX3_sum yX3_sum ∈ wsG := ⟨mn_X3_sum, mv_X3_sum⟩
theorem mi_X4_sum : MI yX4_sum cX4_sum 3 (some .int) 2 := ⟨mc_X4_sum, mt_X4, ⟨by decide +kernel, by decide +kernel, by decide +kernel⟩, by decide +kernel⟩
theorem mm_X4_sum : Cond.instanceMethod yX4_sum ∈ wsG ∧ Cond.selects yX4_sum.cls yX4_sum yX4_sum ∈ wsG := ⟨mn_X4_sum, mv_X4_sum⟩
theorem mi_X3_removeLast : MI yX3_removeLast cX3_removeLast 2 (some .int) 0 := ⟨mc_X3_removeLast, mt_X3, ⟨by decide +kernel, by decide +kernel, by decide +kernel⟩, by decide +kernel⟩
theorem mm_X3_removeLast : Cond.instanceMethod yX3_removeLast ∈ wsG ∧ Cond.selects yX3_removeLast.cls yX3_removeLast yX3_removeLast ∈ wsG := ⟨mn_X3_removeLast, mv_X3_removeLast⟩
theorem mi_X0_forget : MI yX0_forget cX0_forget 5 none 1 := ⟨mc_X0_forget, mt_X0, ⟨by decide +kernel, by decide +kernel, by decide +kernel⟩, by decide +kernel⟩
theorem mm_X0_forget : Cond.instanceMethod yX0_forget ∈ wsG ∧ Cond.selects yX0_forget.cls yX0_forget yX0_forget ∈ wsG := ⟨mn_X0_forget, mv_X0_forget⟩
theorem mi_X0_firstPlace : MI yX0_firstPlace cX0_firstPlace 1 (some .int) 1 := ⟨mc_X0_firstPlace, mt_X0, ⟨by decide +kernel, by decide +kernel, by decide +kernel⟩, by decide +kernel⟩
theorem mi_X4_removeLast : MI yX4_removeLast cX4_removeLast 1 (some .int) 0 := ⟨mc_X4_removeLast, mt_X4, ⟨by decide +kernel, by decide +kernel, by decide +kernel⟩, by decide +kernel⟩
theorem mm_X4_removeLast : Cond.instanceMethod yX4_removeLast ∈ wsG ∧ Cond.selects yX4_removeLast.cls yX4_removeLast yX4_removeLast ∈ wsG := ⟨mn_X4_removeLast, mv_X4_removeLast⟩
theorem mi_X3_processCount : MI yX3_processCount cX3_processCount 1 (some .int) 0 := ⟨mc_X3_processCount, mt_X3, ⟨by decide +kernel, by decide +kernel, by decide +kernel⟩, by decide +kernel⟩
theorem mm_X3_processCount : Cond.instanceMethod yX3_processCount ∈ wsG ∧ Cond.selects yX3_processCount.cls yX3_processCount yX3_processCount ∈ wsG := ⟨mn_X3_processCount, mv_X3_processCount⟩
theorem mi_X4_processCount : MI yX4_processCount cX4_processCount 1 (some .int) 0 := ⟨mc_X4_processCount, mt_X4, ⟨by decide +kernel, by decide +kernel, by decide +kernel⟩, by decide +kernel⟩
theorem mm_X4_processCount : Cond.instanceMethod yX4_processCount ∈ wsG ∧ Cond.selects yX4_processCount.cls yX4_processCount yX4_processCount ∈ wsG := ⟨mn_X4_processCount, mv_X4_processCount⟩
theorem mi_X3_kindOf : MI yX3_kindOf cX3_kindOf 2 (some .int) 1 := ⟨mc_X3_kindOf, mt_X3, ⟨by decide +kernel, by decide +kernel, by decide +kernel⟩, by decide +kernel⟩
theorem mm_X3_kindOf : Cond.instanceMethod yX3_kindOf ∈ wsG ∧ Cond.selects yX3_kindOf.cls yX3_kindOf yX3_kindOf ∈ wsG := ⟨mn_X3_kindOf, mv_X3_kindOf⟩
theorem mi_X4_kindOf : MI yX4_kindOf cX4_kindOf 2 (some .int) 1 := ⟨mc_X4_kindOf, mt_X4, ⟨by decide +kernel, by decide +kernel, by decide +kernel⟩, by decide +kernel⟩
theorem mm_X4_kindOf : Cond.instanceMethod yX4_kindOf ∈ wsG ∧ Cond.selects yX4_kindOf.cls yX4_kindOf yX4_kindOf ∈ wsG := ⟨mn_X4_kindOf, mv_X4_kindOf⟩
theorem mi_X3_partOf : MI yX3_partOf cX3_partOf 3 (some .int) 2 := ⟨mc_X3_partOf, mt_X3, ⟨by decide +kernel, by decide +kernel, by decide +kernel⟩, by decide +kernel⟩
theorem mm_X3_partOf : Cond.instanceMethod yX3_partOf ∈ wsG ∧ Cond.selects yX3_partOf.cls yX3_partOf yX3_partOf ∈ wsG := ⟨mn_X3_partOf, mv_X3_partOf⟩
theorem mi_X2_partsOfKind : MI yX2_partsOfKind cX2_partsOfKind 1 (some .int) 1 := ⟨mc_X2_partsOfKind, mt_X2, ⟨by decide +kernel, by decide +kernel, by decide +kernel⟩, by decide +kernel⟩
theorem mi_X4_partOf : MI yX4_partOf cX4_partOf 4 (some .int) 2 := ⟨mc_X4_partOf, mt_X4, ⟨by decide +kernel, by decide +kernel, by decide +kernel⟩, by decide +kernel⟩
theorem mm_X4_partOf : Cond.instanceMethod yX4_partOf ∈ wsG ∧ Cond.selects yX4_partOf.cls yX4_partOf yX4_partOf ∈ wsG := ⟨mn_X4_partOf, mv_X4_partOf⟩
theorem mi_X3_depthOf : MI yX3_depthOf cX3_depthOf 2 (some .int) 1 := ⟨mc_X3_depthOf, mt_X3, ⟨by decide +kernel, by decide +kernel, by decide +kernel⟩, by decide +kernel⟩
theorem mm_X3_depthOf : Cond.instanceMethod yX3_depthOf ∈ wsG ∧ Cond.selects yX3_depthOf.cls yX3_depthOf yX3_depthOf ∈ wsG := ⟨mn_X3_depthOf, mv_X3_depthOf⟩
theorem mi_X4_depthOf : MI yX4_depthOf cX4_depthOf 2 (some .int) 1 := ⟨mc_X4_depthOf, mt_X4, ⟨by decide +kernel, by decide +kernel, by decide +kernel⟩, by decide +kernel⟩
theorem mm_X4_depthOf : Cond.instanceMethod yX4_depthOf ∈ wsG ∧ Cond.selects yX4_depthOf.cls yX4_depthOf yX4_depthOf ∈ wsG := ⟨mn_X4_depthOf, mv_X4_depthOf⟩
theorem mi_X3_needOf : MI yX3_needOf cX3_needOf 2 (some .int) 1 := ⟨mc_X3_needOf, mt_X3, ⟨by decide +kernel, by decide +kernel, by decide +kernel⟩, by decide +kernel⟩
theorem mm_X3_needOf : Cond.instanceMethod yX3_needOf ∈ wsG ∧ Cond.selects yX3_needOf.cls yX3_needOf yX3_needOf ∈ wsG := ⟨mn_X3_needOf, mv_X3_needOf⟩
theorem mi_X4_needOf : MI yX4_needOf cX4_needOf 2 (some .int) 1 := ⟨mc_X4_needOf, mt_X4, ⟨by decide +kernel, by decide +kernel, by decide +kernel⟩, by decide +kernel⟩
theorem mm_X4_needOf : Cond.instanceMethod yX4_needOf ∈ wsG ∧ Cond.selects yX4_needOf.cls yX4_needOf yX4_needOf ∈ wsG := ⟨mn_X4_needOf, mv_X4_needOf⟩
theorem mi_X3_textLength : MI yX3_textLength cX3_textLength 2 (some .int) 1 := ⟨mc_X3_textLength, mt_X3, ⟨by decide +kernel, by decide +kernel, by decide +kernel⟩, by decide +kernel⟩
theorem mm_X3_textLength : Cond.instanceMethod yX3_textLength ∈ wsG ∧ Cond.selects yX3_textLength.cls yX3_textLength yX3_textLength ∈ wsG := ⟨mn_X3_textLength, mv_X3_textLength⟩
theorem mi_X4_textLength : MI yX4_textLength cX4_textLength 2 (some .int) 1 := ⟨mc_X4_textLength, mt_X4, ⟨by decide +kernel, by decide +kernel, by decide +kernel⟩, by decide +kernel⟩
theorem mm_X4_textLength : Cond.instanceMethod yX4_textLength ∈ wsG ∧ Cond.selects yX4_textLength.cls yX4_textLength yX4_textLength ∈ wsG := ⟨mn_X4_textLength, mv_X4_textLength⟩
theorem mi_X3_textAt : MI yX3_textAt cX3_textAt 3 (some .int) 2 := ⟨mc_X3_textAt, mt_X3, ⟨by decide +kernel, by decide +kernel, by decide +kernel⟩, by decide +kernel⟩
theorem mm_X3_textAt : Cond.instanceMethod yX3_textAt ∈ wsG ∧ Cond.selects yX3_textAt.cls yX3_textAt yX3_textAt ∈ wsG := ⟨mn_X3_textAt, mv_X3_textAt⟩
theorem mi_X2_characterOf : MI yX2_characterOf cX2_characterOf 11 (some .int) 2 := ⟨mc_X2_characterOf, mt_X2, ⟨by decide +kernel, by decide +kernel, by decide +kernel⟩, by decide +kernel⟩
theorem mm_X2_characterOf : Cond.instanceMethod yX2_characterOf ∈ wsG ∧ Cond.selects yX2_characterOf.cls yX2_characterOf yX2_characterOf ∈ wsG := ⟨mn_X2_characterOf, mv_X2_characterOf⟩
theorem mi_X2_headCharacter : MI yX2_headCharacter cX2_headCharacter 5 (some .int) 2 := ⟨mc_X2_headCharacter, mt_X2, ⟨by decide +kernel, by decide +kernel, by decide +kernel⟩, by decide +kernel⟩
theorem mm_X2_headCharacter : Cond.instanceMethod yX2_headCharacter ∈ wsG ∧ Cond.selects yX2_headCharacter.cls yX2_headCharacter yX2_headCharacter ∈ wsG := ⟨mn_X2_headCharacter, mv_X2_headCharacter⟩
theorem mi_J0_charAt_5068e : MI yJ0_charAt_5068e cJ0_charAt_5068e 2 (some .char) 1 := ⟨mc_J0_charAt_5068e, mt_J0, ⟨by decide +kernel, by decide +kernel, by decide +kernel⟩, by decide +kernel⟩
theorem mm_J0_charAt_5068e : Cond.instanceMethod yJ0_charAt_5068e ∈ wsG ∧ Cond.selects yJ0_charAt_5068e.cls yJ0_charAt_5068e yJ0_charAt_5068e ∈ wsG := ⟨mn_J0_charAt_5068e, mv_J0_charAt_5068e⟩
theorem mi_J0_isLatin1_aae02 : MI yJ0_isLatin1_aae02 cJ0_isLatin1_aae02 1 (some .boolean) 0 := ⟨mc_J0_isLatin1_aae02, mt_J0, ⟨by decide +kernel, by decide +kernel, by decide +kernel⟩, by decide +kernel⟩
theorem mm_J0_isLatin1_aae02 : Cond.instanceMethod yJ0_isLatin1_aae02 ∈ wsG ∧ Cond.selects yJ0_isLatin1_aae02.cls yJ0_isLatin1_aae02 yJ0_isLatin1_aae02 ∈ wsG := ⟨mn_J0_isLatin1_aae02, mv_J0_isLatin1_aae02⟩
theorem mi_J1_charAt_3b067 : MI yJ1_charAt_3b067 cJ1_charAt_3b067 2 (some .char) 2 := ⟨mc_J1_charAt_3b067, mt_J1, ⟨by decide +kernel, by decide +kernel, by decide +kernel⟩, by decide +kernel⟩
theorem mi_J0_checkIndex_df160 : MI yJ0_checkIndex_df160 cJ0_checkIndex_df160 2 none 2 := ⟨mc_J0_checkIndex_df160, mt_J0, ⟨by decide +kernel, by decide +kernel, by decide +kernel⟩, by decide +kernel⟩
theorem mi_J3_checkIndex_8e157 : MI yJ3_checkIndex_8e157 cJ3_checkIndex_8e157 3 (some .int) 3 := ⟨mc_J3_checkIndex_8e157, mt_J3, ⟨by decide +kernel, by decide +kernel, by decide +kernel⟩, by decide +kernel⟩
theorem mi_J2_charAt_3b067 : MI yJ2_charAt_3b067 cJ2_charAt_3b067 2 (some .char) 2 := ⟨mc_J2_charAt_3b067, mt_J2, ⟨by decide +kernel, by decide +kernel, by decide +kernel⟩, by decide +kernel⟩
theorem mi_J2_checkIndex_2214a : MI yJ2_checkIndex_2214a cJ2_checkIndex_2214a 2 none 2 := ⟨mc_J2_checkIndex_2214a, mt_J2, ⟨by decide +kernel, by decide +kernel, by decide +kernel⟩, by decide +kernel⟩
theorem mi_J2_length_9d52b : MI yJ2_length_9d52b cJ2_length_9d52b 1 (some .int) 1 := ⟨mc_J2_length_9d52b, mt_J2, ⟨by decide +kernel, by decide +kernel, by decide +kernel⟩, by decide +kernel⟩
theorem mi_J2_getChar_3b067 : MI yJ2_getChar_3b067 cJ2_getChar_3b067 2 (some .char) 2 := ⟨mc_J2_getChar_3b067, mt_J2, ⟨by decide +kernel, by decide +kernel, by decide +kernel⟩, by decide +kernel⟩
theorem mi_X2_letterOf : MI yX2_letterOf cX2_letterOf 1 (some .int) 1 := ⟨mc_X2_letterOf, mt_X2, ⟨by decide +kernel, by decide +kernel, by decide +kernel⟩, by decide +kernel⟩
theorem mi_X4_textAt : MI yX4_textAt cX4_textAt 7 (some .int) 2 := ⟨mc_X4_textAt, mt_X4, ⟨by decide +kernel, by decide +kernel, by decide +kernel⟩, by decide +kernel⟩
theorem mm_X4_textAt : Cond.instanceMethod yX4_textAt ∈ wsG ∧ Cond.selects yX4_textAt.cls yX4_textAt yX4_textAt ∈ wsG := ⟨mn_X4_textAt, mv_X4_textAt⟩
theorem mi_X4_head : MI yX4_head cX4_head 3 (some .int) 2 := ⟨mc_X4_head, mt_X4, ⟨by decide +kernel, by decide +kernel, by decide +kernel⟩, by decide +kernel⟩
theorem mm_X4_head : Cond.instanceMethod yX4_head ∈ wsG ∧ Cond.selects yX4_head.cls yX4_head yX4_head ∈ wsG := ⟨mn_X4_head, mv_X4_head⟩
theorem mi_X4_sign : MI yX4_sign cX4_sign 1 (some .int) 1 := ⟨mc_X4_sign, mt_X4, ⟨by decide +kernel, by decide +kernel, by decide +kernel⟩, by decide +kernel⟩
theorem mi_X3_moveCount : MI yX3_moveCount cX3_moveCount 2 (some .int) 1 := ⟨mc_X3_moveCount, mt_X3, ⟨by decide +kernel, by decide +kernel, by decide +kernel⟩, by decide +kernel⟩
theorem mm_X3_moveCount : Cond.instanceMethod yX3_moveCount ∈ wsG ∧ Cond.selects yX3_moveCount.cls yX3_moveCount yX3_moveCount ∈ wsG := ⟨mn_X3_moveCount, mv_X3_moveCount⟩
theorem mi_X2_isClosed : MI yX2_isClosed cX2_isClosed 2 (some .boolean) 1 := ⟨mc_X2_isClosed, mt_X2, ⟨by decide +kernel, by decide +kernel, by decide +kernel⟩, by decide +kernel⟩
theorem mm_X2_isClosed : Cond.instanceMethod yX2_isClosed ∈ wsG ∧ Cond.selects yX2_isClosed.cls yX2_isClosed yX2_isClosed ∈ wsG := ⟨mn_X2_isClosed, mv_X2_isClosed⟩
theorem mi_X2_movesOf : MI yX2_movesOf cX2_movesOf 4 (some .int) 1 := ⟨mc_X2_movesOf, mt_X2, ⟨by decide +kernel, by decide +kernel, by decide +kernel⟩, by decide +kernel⟩
theorem mm_X2_movesOf : Cond.instanceMethod yX2_movesOf ∈ wsG ∧ Cond.selects yX2_movesOf.cls yX2_movesOf yX2_movesOf ∈ wsG := ⟨mn_X2_movesOf, mv_X2_movesOf⟩
theorem mi_X2_actionIn : MI yX2_actionIn cX2_actionIn 5 (some .int) 3 := ⟨mc_X2_actionIn, mt_X2, ⟨by decide +kernel, by decide +kernel, by decide +kernel⟩, by decide +kernel⟩
theorem mm_X2_actionIn : Cond.instanceMethod yX2_actionIn ∈ wsG ∧ Cond.selects yX2_actionIn.cls yX2_actionIn yX2_actionIn ∈ wsG := ⟨mn_X2_actionIn, mv_X2_actionIn⟩
theorem mi_X2_isOpen : MI yX2_isOpen cX2_isOpen 6 (some .boolean) 2 := ⟨mc_X2_isOpen, mt_X2, ⟨by decide +kernel, by decide +kernel, by decide +kernel⟩, by decide +kernel⟩
theorem mi_X1_areEqual : MI yX1_areEqual cX1_areEqual 3 (some .boolean) 3 := ⟨mc_X1_areEqual, mt_X1, ⟨by decide +kernel, by decide +kernel, by decide +kernel⟩, by decide +kernel⟩
theorem mi_X1_valueOf : MI yX1_valueOf cX1_valueOf 2 (some .int) 2 := ⟨mc_X1_valueOf, mt_X1, ⟨by decide +kernel, by decide +kernel, by decide +kernel⟩, by decide +kernel⟩
theorem mi_X4_moveCount : MI yX4_moveCount cX4_moveCount 3 (some .int) 1 := ⟨mc_X4_moveCount, mt_X4, ⟨by decide +kernel, by decide +kernel, by decide +kernel⟩, by decide +kernel⟩
theorem mm_X4_moveCount : Cond.instanceMethod yX4_moveCount ∈ wsG ∧ Cond.selects yX4_moveCount.cls yX4_moveCount yX4_moveCount ∈ wsG := ⟨mn_X4_moveCount, mv_X4_moveCount⟩
theorem mi_X4_errorOf : MI yX4_errorOf cX4_errorOf 3 (some .int) 2 := ⟨mc_X4_errorOf, mt_X4, ⟨by decide +kernel, by decide +kernel, by decide +kernel⟩, by decide +kernel⟩
theorem mm_X4_errorOf : Cond.instanceMethod yX4_errorOf ∈ wsG ∧ Cond.selects yX4_errorOf.cls yX4_errorOf yX4_errorOf ∈ wsG := ⟨mn_X4_errorOf, mv_X4_errorOf⟩
theorem mi_X4_lists : MI yX4_lists cX4_lists 9 none 3 := ⟨mc_X4_lists, mt_X4, ⟨by decide +kernel, by decide +kernel, by decide +kernel⟩, by decide +kernel⟩
theorem mm_X4_lists : Cond.instanceMethod yX4_lists ∈ wsG ∧ Cond.selects yX4_lists.cls yX4_lists yX4_lists ∈ wsG := ⟨mn_X4_lists, mv_X4_lists⟩
theorem mi_X4_valueOf : MI yX4_valueOf cX4_valueOf 4 (some .int) 2 := ⟨mc_X4_valueOf, mt_X4, ⟨by decide +kernel, by decide +kernel, by decide +kernel⟩, by decide +kernel⟩
theorem mi_X3_moveKind : MI yX3_moveKind cX3_moveKind 4 (some .int) 2 := ⟨mc_X3_moveKind, mt_X3, ⟨by decide +kernel, by decide +kernel, by decide +kernel⟩, by decide +kernel⟩
theorem mm_X3_moveKind : Cond.instanceMethod yX3_moveKind ∈ wsG ∧ Cond.selects yX3_moveKind.cls yX3_moveKind yX3_moveKind ∈ wsG := ⟨mn_X3_moveKind, mv_X3_moveKind⟩
theorem mi_X3_actionOrError : MI yX3_actionOrError cX3_actionOrError 3 (some .int) 2 := ⟨mc_X3_actionOrError, mt_X3, ⟨by decide +kernel, by decide +kernel, by decide +kernel⟩, by decide +kernel⟩
theorem mm_X3_actionOrError : Cond.instanceMethod yX3_actionOrError ∈ wsG ∧ Cond.selects yX3_actionOrError.cls yX3_actionOrError yX3_actionOrError ∈ wsG := ⟨mn_X3_actionOrError, mv_X3_actionOrError⟩
theorem mi_X2_actionOf : MI yX2_actionOf cX2_actionOf 6 (some .int) 2 := ⟨mc_X2_actionOf, mt_X2, ⟨by decide +kernel, by decide +kernel, by decide +kernel⟩, by decide +kernel⟩
theorem mm_X2_actionOf : Cond.instanceMethod yX2_actionOf ∈ wsG ∧ Cond.selects yX2_actionOf.cls yX2_actionOf yX2_actionOf ∈ wsG := ⟨mn_X2_actionOf, mv_X2_actionOf⟩
theorem mi_X4_moveKind : MI yX4_moveKind cX4_moveKind 4 (some .int) 2 := ⟨mc_X4_moveKind, mt_X4, ⟨by decide +kernel, by decide +kernel, by decide +kernel⟩, by decide +kernel⟩
theorem mm_X4_moveKind : Cond.instanceMethod yX4_moveKind ∈ wsG ∧ Cond.selects yX4_moveKind.cls yX4_moveKind yX4_moveKind ∈ wsG := ⟨mn_X4_moveKind, mv_X4_moveKind⟩
theorem mi_X4_moveError : MI yX4_moveError cX4_moveError 4 (some .int) 2 := ⟨mc_X4_moveError, mt_X4, ⟨by decide +kernel, by decide +kernel, by decide +kernel⟩, by decide +kernel⟩
theorem mm_X4_moveError : Cond.instanceMethod yX4_moveError ∈ wsG ∧ Cond.selects yX4_moveError.cls yX4_moveError yX4_moveError ∈ wsG := ⟨mn_X4_moveError, mv_X4_moveError⟩
theorem mi_X3_moveNames : MI yX3_moveNames cX3_moveNames 7 (some .int) 2 := ⟨mc_X3_moveNames, mt_X3, ⟨by decide +kernel, by decide +kernel, by decide +kernel⟩, by decide +kernel⟩
theorem mm_X3_moveNames : Cond.instanceMethod yX3_moveNames ∈ wsG ∧ Cond.selects yX3_moveNames.cls yX3_moveNames yX3_moveNames ∈ wsG := ⟨mn_X3_moveNames, mv_X3_moveNames⟩
theorem mi_X4_moveNames : MI yX4_moveNames cX4_moveNames 4 (some .int) 2 := ⟨mc_X4_moveNames, mt_X4, ⟨by decide +kernel, by decide +kernel, by decide +kernel⟩, by decide +kernel⟩
theorem mm_X4_moveNames : Cond.instanceMethod yX4_moveNames ∈ wsG ∧ Cond.selects yX4_moveNames.cls yX4_moveNames yX4_moveNames ∈ wsG := ⟨mn_X4_moveNames, mv_X4_moveNames⟩
theorem mi_X3_moveTarget : MI yX3_moveTarget cX3_moveTarget 4 (some .int) 2 := ⟨mc_X3_moveTarget, mt_X3, ⟨by decide +kernel, by decide +kernel, by decide +kernel⟩, by decide +kernel⟩
theorem mm_X3_moveTarget : Cond.instanceMethod yX3_moveTarget ∈ wsG ∧ Cond.selects yX3_moveTarget.cls yX3_moveTarget yX3_moveTarget ∈ wsG := ⟨mn_X3_moveTarget, mv_X3_moveTarget⟩
theorem mi_X4_moveTarget : MI yX4_moveTarget cX4_moveTarget 4 (some .int) 2 := ⟨mc_X4_moveTarget, mt_X4, ⟨by decide +kernel, by decide +kernel, by decide +kernel⟩, by decide +kernel⟩
theorem mm_X4_moveTarget : Cond.instanceMethod yX4_moveTarget ∈ wsG ∧ Cond.selects yX4_moveTarget.cls yX4_moveTarget yX4_moveTarget ∈ wsG := ⟨mn_X4_moveTarget, mv_X4_moveTarget⟩
theorem mi_X3_areRelated : MI yX3_areRelated cX3_areRelated 5 (some .int) 3 := ⟨mc_X3_areRelated, mt_X3, ⟨by decide +kernel, by decide +kernel, by decide +kernel⟩, by decide +kernel⟩
theorem mm_X3_areRelated : Cond.instanceMethod yX3_areRelated ∈ wsG ∧ Cond.selects yX3_areRelated.cls yX3_areRelated yX3_areRelated ∈ wsG := ⟨mn_X3_areRelated, mv_X3_areRelated⟩
theorem mi_X3_errorOfPair : MI yX3_errorOfPair cX3_errorOfPair 4 (some .int) 3 := ⟨mc_X3_errorOfPair, mt_X3, ⟨by decide +kernel, by decide +kernel, by decide +kernel⟩, by decide +kernel⟩
theorem mm_X3_errorOfPair : Cond.instanceMethod yX3_errorOfPair ∈ wsG ∧ Cond.selects yX3_errorOfPair.cls yX3_errorOfPair yX3_errorOfPair ∈ wsG := ⟨mn_X3_errorOfPair, mv_X3_errorOfPair⟩
theorem mi_X3_isRelation : MI yX3_isRelation cX3_isRelation 1 (some .boolean) 1 := ⟨mc_X3_isRelation, mt_X3, ⟨by decide +kernel, by decide +kernel, by decide +kernel⟩, by decide +kernel⟩
theorem mi_X0_roundsOf : MI yX0_roundsOf cX0_roundsOf 5 (some .int) 3 := ⟨mc_X0_roundsOf, mt_X0, ⟨by decide +kernel, by decide +kernel, by decide +kernel⟩, by decide +kernel⟩
theorem mm_X0_roundsOf : Cond.instanceMethod yX0_roundsOf ∈ wsG ∧ Cond.selects yX0_roundsOf.cls yX0_roundsOf yX0_roundsOf ∈ wsG := ⟨mn_X0_roundsOf, mv_X0_roundsOf⟩
theorem mi_X0_worth : MI yX0_worth cX0_worth 11 (some .int) 5 := ⟨mc_X0_worth, mt_X0, ⟨by decide +kernel, by decide +kernel, by decide +kernel⟩, by decide +kernel⟩
theorem mm_X0_worth : Cond.instanceMethod yX0_worth ∈ wsG ∧ Cond.selects yX0_worth.cls yX0_worth yX0_worth ∈ wsG := ⟨mn_X0_worth, mv_X0_worth⟩
theorem mi_X0_placeOf : MI yX0_placeOf cX0_placeOf 6 (some .int) 4 := ⟨mc_X0_placeOf, mt_X0, ⟨by decide +kernel, by decide +kernel, by decide +kernel⟩, by decide +kernel⟩
theorem mi_X0_viewOf : MI yX0_viewOf cX0_viewOf 3 (some .int) 1 := ⟨mc_X0_viewOf, mt_X0, ⟨by decide +kernel, by decide +kernel, by decide +kernel⟩, by decide +kernel⟩
theorem mi_X1_with : MI yX1_with cX1_with 2 (some .int) 2 := ⟨mc_X1_with, mt_X1, ⟨by decide +kernel, by decide +kernel, by decide +kernel⟩, by decide +kernel⟩
theorem mi_X0_answerWorth : MI yX0_answerWorth cX0_answerWorth 15 (some .int) 6 := ⟨mc_X0_answerWorth, mt_X0, ⟨by decide +kernel, by decide +kernel, by decide +kernel⟩, by decide +kernel⟩
theorem mm_X0_answerWorth : Cond.instanceMethod yX0_answerWorth ∈ wsG ∧ Cond.selects yX0_answerWorth.cls yX0_answerWorth yX0_answerWorth ∈ wsG := ⟨mn_X0_answerWorth, mv_X0_answerWorth⟩
theorem mi_X1_nextFresh : MI yX1_nextFresh cX1_nextFresh 3 (some .int) 1 := ⟨mc_X1_nextFresh, mt_X1, ⟨by decide +kernel, by decide +kernel, by decide +kernel⟩, by decide +kernel⟩
theorem mi_X0_attackWorth : MI yX0_attackWorth cX0_attackWorth 11 (some .int) 6 := ⟨mc_X0_attackWorth, mt_X0, ⟨by decide +kernel, by decide +kernel, by decide +kernel⟩, by decide +kernel⟩
theorem mm_X0_attackWorth : Cond.instanceMethod yX0_attackWorth ∈ wsG ∧ Cond.selects yX0_attackWorth.cls yX0_attackWorth yX0_attackWorth ∈ wsG := ⟨mn_X0_attackWorth, mv_X0_attackWorth⟩
theorem mi_X0_agree : MI yX0_agree cX0_agree 6 (some .boolean) 3 := ⟨mc_X0_agree, mt_X0, ⟨by decide +kernel, by decide +kernel, by decide +kernel⟩, by decide +kernel⟩
theorem mm_X0_agree : Cond.instanceMethod yX0_agree ∈ wsG ∧ Cond.selects yX0_agree.cls yX0_agree yX0_agree ∈ wsG := ⟨mn_X0_agree, mv_X0_agree⟩
theorem mi_X0_sideWorth : MI yX0_sideWorth cX0_sideWorth 12 (some .int) 5 := ⟨mc_X0_sideWorth, mt_X0, ⟨by decide +kernel, by decide +kernel, by decide +kernel⟩, by decide +kernel⟩
theorem mm_X0_sideWorth : Cond.instanceMethod yX0_sideWorth ∈ wsG ∧ Cond.selects yX0_sideWorth.cls yX0_sideWorth yX0_sideWorth ∈ wsG := ⟨mn_X0_sideWorth, mv_X0_sideWorth⟩
theorem mi_X0_lastChoice : MI yX0_lastChoice cX0_lastChoice 4 (some .int) 3 := ⟨mc_X0_lastChoice, mt_X0, ⟨by decide +kernel, by decide +kernel, by decide +kernel⟩, by decide +kernel⟩
theorem mm_X0_lastChoice : Cond.instanceMethod yX0_lastChoice ∈ wsG ∧ Cond.selects yX0_lastChoice.cls yX0_lastChoice yX0_lastChoice ∈ wsG := ⟨mn_X0_lastChoice, mv_X0_lastChoice⟩
theorem mi_X0_isChosenWith : MI yX0_isChosenWith cX0_isChosenWith 3 (some .boolean) 2 := ⟨mc_X0_isChosenWith, mt_X0, ⟨by decide +kernel, by decide +kernel, by decide +kernel⟩, by decide +kernel⟩
theorem mm_X0_isChosenWith : Cond.instanceMethod yX0_isChosenWith ∈ wsG ∧ Cond.selects yX0_isChosenWith.cls yX0_isChosenWith yX0_isChosenWith ∈ wsG := ⟨mn_X0_isChosenWith, mv_X0_isChosenWith⟩
theorem mi_X0_firstChoice : MI yX0_firstChoice cX0_firstChoice 3 (some .int) 2 := ⟨mc_X0_firstChoice, mt_X0, ⟨by decide +kernel, by decide +kernel, by decide +kernel⟩, by decide +kernel⟩
theorem mm_X0_firstChoice : Cond.instanceMethod yX0_firstChoice ∈ wsG ∧ Cond.selects yX0_firstChoice.cls yX0_firstChoice yX0_firstChoice ∈ wsG := ⟨mn_X0_firstChoice, mv_X0_firstChoice⟩
theorem mi_X4_areRelated : MI yX4_areRelated cX4_areRelated 5 (some .int) 3 := ⟨mc_X4_areRelated, mt_X4, ⟨by decide +kernel, by decide +kernel, by decide +kernel⟩, by decide +kernel⟩
theorem mm_X4_areRelated : Cond.instanceMethod yX4_areRelated ∈ wsG ∧ Cond.selects yX4_areRelated.cls yX4_areRelated yX4_areRelated ∈ wsG := ⟨mn_X4_areRelated, mv_X4_areRelated⟩
theorem mi_X4_pairError : MI yX4_pairError cX4_pairError 4 (some .int) 3 := ⟨mc_X4_pairError, mt_X4, ⟨by decide +kernel, by decide +kernel, by decide +kernel⟩, by decide +kernel⟩
theorem mm_X4_pairError : Cond.instanceMethod yX4_pairError ∈ wsG ∧ Cond.selects yX4_pairError.cls yX4_pairError yX4_pairError ∈ wsG := ⟨mn_X4_pairError, mv_X4_pairError⟩
theorem mi_X4_separated : MI yX4_separated cX4_separated 4 (some .int) 2 := ⟨mc_X4_separated, mt_X4, ⟨by decide +kernel, by decide +kernel, by decide +kernel⟩, by decide +kernel⟩
theorem mm_X4_separated : Cond.instanceMethod yX4_separated ∈ wsG ∧ Cond.selects yX4_separated.cls yX4_separated yX4_separated ∈ wsG := ⟨mn_X4_separated, mv_X4_separated⟩
theorem mi_X4_starts : MI yX4_starts cX4_starts 4 none 3 := ⟨mc_X4_starts, mt_X4, ⟨by decide +kernel, by decide +kernel, by decide +kernel⟩, by decide +kernel⟩
theorem mm_X4_starts : Cond.instanceMethod yX4_starts ∈ wsG ∧ Cond.selects yX4_starts.cls yX4_starts yX4_starts ∈ wsG := ⟨mn_X4_starts, mv_X4_starts⟩
theorem mi_X4_wins : MI yX4_wins cX4_wins 2 (some .boolean) 1 := ⟨mc_X4_wins, mt_X4, ⟨by decide +kernel, by decide +kernel, by decide +kernel⟩, by decide +kernel⟩
theorem mm_X4_wins : Cond.instanceMethod yX4_wins ∈ wsG ∧ Cond.selects yX4_wins.cls yX4_wins yX4_wins ∈ wsG := ⟨mn_X4_wins, mv_X4_wins⟩
theorem mi_X4_wins1 : MI yX4_wins1 cX4_wins1 4 (some .boolean) 0 := ⟨mc_X4_wins1, mt_X4, ⟨by decide +kernel, by decide +kernel, by decide +kernel⟩, by decide +kernel⟩
theorem mm_X4_wins1 : Cond.instanceMethod yX4_wins1 ∈ wsG ∧ Cond.selects yX4_wins1.cls yX4_wins1 yX4_wins1 ∈ wsG := ⟨mn_X4_wins1, mv_X4_wins1⟩
theorem mi_X4_lowest : MI yX4_lowest cX4_lowest 4 (some .int) 3 := ⟨mc_X4_lowest, mt_X4, ⟨by decide +kernel, by decide +kernel, by decide +kernel⟩, by decide +kernel⟩
theorem mm_X4_lowest : Cond.instanceMethod yX4_lowest ∈ wsG ∧ Cond.selects yX4_lowest.cls yX4_lowest yX4_lowest ∈ wsG := ⟨mn_X4_lowest, mv_X4_lowest⟩
theorem mi_X4_highest : MI yX4_highest cX4_highest 5 (some .int) 3 := ⟨mc_X4_highest, mt_X4, ⟨by decide +kernel, by decide +kernel, by decide +kernel⟩, by decide +kernel⟩
theorem mm_X4_highest : Cond.instanceMethod yX4_highest ∈ wsG ∧ Cond.selects yX4_highest.cls yX4_highest yX4_highest ∈ wsG := ⟨mn_X4_highest, mv_X4_highest⟩
theorem mi_X4_holds1 : MI yX4_holds1 cX4_holds1 6 (some .boolean) 3 := ⟨mc_X4_holds1, mt_X4, ⟨by decide +kernel, by decide +kernel, by decide +kernel⟩, by decide +kernel⟩
theorem mm_X4_holds1 : Cond.instanceMethod yX4_holds1 ∈ wsG ∧ Cond.selects yX4_holds1.cls yX4_holds1 yX4_holds1 ∈ wsG := ⟨mn_X4_holds1, mv_X4_holds1⟩
theorem mi_X4_answers : MI yX4_answers cX4_answers 8 (some .boolean) 4 := ⟨mc_X4_answers, mt_X4, ⟨by decide +kernel, by decide +kernel, by decide +kernel⟩, by decide +kernel⟩
theorem mm_X4_answers : Cond.instanceMethod yX4_answers ∈ wsG ∧ Cond.selects yX4_answers.cls yX4_answers yX4_answers ∈ wsG := ⟨mn_X4_answers, mv_X4_answers⟩
theorem mi_X4_wins2 : MI yX4_wins2 cX4_wins2 4 (some .boolean) 0 := ⟨mc_X4_wins2, mt_X4, ⟨by decide +kernel, by decide +kernel, by decide +kernel⟩, by decide +kernel⟩
theorem mm_X4_wins2 : Cond.instanceMethod yX4_wins2 ∈ wsG ∧ Cond.selects yX4_wins2.cls yX4_wins2 yX4_wins2 ∈ wsG := ⟨mn_X4_wins2, mv_X4_wins2⟩
theorem mi_X4_holds2 : MI yX4_holds2 cX4_holds2 6 (some .boolean) 3 := ⟨mc_X4_holds2, mt_X4, ⟨by decide +kernel, by decide +kernel, by decide +kernel⟩, by decide +kernel⟩
theorem mm_X4_holds2 : Cond.instanceMethod yX4_holds2 ∈ wsG ∧ Cond.selects yX4_holds2.cls yX4_holds2 yX4_holds2 ∈ wsG := ⟨mn_X4_holds2, mv_X4_holds2⟩
theorem mi_X4_follows2 : MI yX4_follows2 cX4_follows2 6 (some .boolean) 4 := ⟨mc_X4_follows2, mt_X4, ⟨by decide +kernel, by decide +kernel, by decide +kernel⟩, by decide +kernel⟩
theorem mm_X4_follows2 : Cond.instanceMethod yX4_follows2 ∈ wsG ∧ Cond.selects yX4_follows2.cls yX4_follows2 yX4_follows2 ∈ wsG := ⟨mn_X4_follows2, mv_X4_follows2⟩
theorem mi_X4_next : MI yX4_next cX4_next 10 none 5 := ⟨mc_X4_next, mt_X4, ⟨by decide +kernel, by decide +kernel, by decide +kernel⟩, by decide +kernel⟩
theorem mm_X4_next : Cond.instanceMethod yX4_next ∈ wsG ∧ Cond.selects yX4_next.cls yX4_next yX4_next ∈ wsG := ⟨mn_X4_next, mv_X4_next⟩
theorem mi_X4_wins3 : MI yX4_wins3 cX4_wins3 4 (some .boolean) 0 := ⟨mc_X4_wins3, mt_X4, ⟨by decide +kernel, by decide +kernel, by decide +kernel⟩, by decide +kernel⟩
theorem mm_X4_wins3 : Cond.instanceMethod yX4_wins3 ∈ wsG ∧ Cond.selects yX4_wins3.cls yX4_wins3 yX4_wins3 ∈ wsG := ⟨mn_X4_wins3, mv_X4_wins3⟩
theorem mi_X4_holds3 : MI yX4_holds3 cX4_holds3 6 (some .boolean) 3 := ⟨mc_X4_holds3, mt_X4, ⟨by decide +kernel, by decide +kernel, by decide +kernel⟩, by decide +kernel⟩
theorem mm_X4_holds3 : Cond.instanceMethod yX4_holds3 ∈ wsG ∧ Cond.selects yX4_holds3.cls yX4_holds3 yX4_holds3 ∈ wsG := ⟨mn_X4_holds3, mv_X4_holds3⟩
theorem mi_X4_follows3 : MI yX4_follows3 cX4_follows3 6 (some .boolean) 4 := ⟨mc_X4_follows3, mt_X4, ⟨by decide +kernel, by decide +kernel, by decide +kernel⟩, by decide +kernel⟩
theorem mm_X4_follows3 : Cond.instanceMethod yX4_follows3 ∈ wsG ∧ Cond.selects yX4_follows3.cls yX4_follows3 yX4_follows3 ∈ wsG := ⟨mn_X4_follows3, mv_X4_follows3⟩
theorem mi_X3_rounds : MI yX3_rounds cX3_rounds 5 (some .int) 3 := ⟨mc_X3_rounds, mt_X3, ⟨by decide +kernel, by decide +kernel, by decide +kernel⟩, by decide +kernel⟩
theorem mm_X3_rounds : Cond.instanceMethod yX3_rounds ∈ wsG ∧ Cond.selects yX3_rounds.cls yX3_rounds yX3_rounds ∈ wsG := ⟨mn_X3_rounds, mv_X3_rounds⟩
theorem mi_X4_rounds : MI yX4_rounds cX4_rounds 6 (some .int) 3 := ⟨mc_X4_rounds, mt_X4, ⟨by decide +kernel, by decide +kernel, by decide +kernel⟩, by decide +kernel⟩
theorem mm_X4_rounds : Cond.instanceMethod yX4_rounds ∈ wsG ∧ Cond.selects yX4_rounds.cls yX4_rounds yX4_rounds ∈ wsG := ⟨mn_X4_rounds, mv_X4_rounds⟩
theorem mi_X3_firstAttack : MI yX3_firstAttack cX3_firstAttack 5 (some .int) 3 := ⟨mc_X3_firstAttack, mt_X3, ⟨by decide +kernel, by decide +kernel, by decide +kernel⟩, by decide +kernel⟩
theorem mm_X3_firstAttack : Cond.instanceMethod yX3_firstAttack ∈ wsG ∧ Cond.selects yX3_firstAttack.cls yX3_firstAttack yX3_firstAttack ∈ wsG := ⟨mn_X3_firstAttack, mv_X3_firstAttack⟩
theorem mi_X0_attackOf : MI yX0_attackOf cX0_attackOf 7 (some .int) 3 := ⟨mc_X0_attackOf, mt_X0, ⟨by decide +kernel, by decide +kernel, by decide +kernel⟩, by decide +kernel⟩
theorem mm_X0_attackOf : Cond.instanceMethod yX0_attackOf ∈ wsG ∧ Cond.selects yX0_attackOf.cls yX0_attackOf yX0_attackOf ∈ wsG := ⟨mn_X0_attackOf, mv_X0_attackOf⟩
theorem mi_X0_attackWith : MI yX0_attackWith cX0_attackWith 11 (some .int) 4 := ⟨mc_X0_attackWith, mt_X0, ⟨by decide +kernel, by decide +kernel, by decide +kernel⟩, by decide +kernel⟩
theorem mm_X0_attackWith : Cond.instanceMethod yX0_attackWith ∈ wsG ∧ Cond.selects yX0_attackWith.cls yX0_attackWith yX0_attackWith ∈ wsG := ⟨mn_X0_attackWith, mv_X0_attackWith⟩
theorem mi_X4_firstAttack : MI yX4_firstAttack cX4_firstAttack 9 (some .int) 3 := ⟨mc_X4_firstAttack, mt_X4, ⟨by decide +kernel, by decide +kernel, by decide +kernel⟩, by decide +kernel⟩
theorem mm_X4_firstAttack : Cond.instanceMethod yX4_firstAttack ∈ wsG ∧ Cond.selects yX4_firstAttack.cls yX4_firstAttack yX4_firstAttack ∈ wsG := ⟨mn_X4_firstAttack, mv_X4_firstAttack⟩
theorem mi_X4_holds : MI yX4_holds cX4_holds 5 (some .boolean) 4 := ⟨mc_X4_holds, mt_X4, ⟨by decide +kernel, by decide +kernel, by decide +kernel⟩, by decide +kernel⟩
theorem mm_X4_holds : Cond.instanceMethod yX4_holds ∈ wsG ∧ Cond.selects yX4_holds.cls yX4_holds yX4_holds ∈ wsG := ⟨mn_X4_holds, mv_X4_holds⟩
theorem mi_X3_representative : MI yX3_representative cX3_representative 4 (some .int) 2 := ⟨mc_X3_representative, mt_X3, ⟨by decide +kernel, by decide +kernel, by decide +kernel⟩, by decide +kernel⟩
theorem mm_X3_representative : Cond.instanceMethod yX3_representative ∈ wsG ∧ Cond.selects yX3_representative.cls yX3_representative yX3_representative ∈ wsG := ⟨mn_X3_representative, mv_X3_representative⟩
theorem mi_X3_lowestRelated : MI yX3_lowestRelated cX3_lowestRelated 4 (some .int) 2 := ⟨mc_X3_lowestRelated, mt_X3, ⟨by decide +kernel, by decide +kernel, by decide +kernel⟩, by decide +kernel⟩
theorem mm_X3_lowestRelated : Cond.instanceMethod yX3_lowestRelated ∈ wsG ∧ Cond.selects yX3_lowestRelated.cls yX3_lowestRelated yX3_lowestRelated ∈ wsG := ⟨mn_X3_lowestRelated, mv_X3_lowestRelated⟩
theorem mi_X4_representative : MI yX4_representative cX4_representative 4 (some .int) 2 := ⟨mc_X4_representative, mt_X4, ⟨by decide +kernel, by decide +kernel, by decide +kernel⟩, by decide +kernel⟩
theorem mm_X4_representative : Cond.instanceMethod yX4_representative ∈ wsG ∧ Cond.selects yX4_representative.cls yX4_representative yX4_representative ∈ wsG := ⟨mn_X4_representative, mv_X4_representative⟩
theorem mi_X4_least : MI yX4_least cX4_least 3 (some .int) 1 := ⟨mc_X4_least, mt_X4, ⟨by decide +kernel, by decide +kernel, by decide +kernel⟩, by decide +kernel⟩
theorem mm_X4_least : Cond.instanceMethod yX4_least ∈ wsG ∧ Cond.selects yX4_least.cls yX4_least yX4_least ∈ wsG := ⟨mn_X4_least, mv_X4_least⟩
theorem mi_X3_classCount : MI yX3_classCount cX3_classCount 4 (some .int) 1 := ⟨mc_X3_classCount, mt_X3, ⟨by decide +kernel, by decide +kernel, by decide +kernel⟩, by decide +kernel⟩
theorem mm_X3_classCount : Cond.instanceMethod yX3_classCount ∈ wsG ∧ Cond.selects yX3_classCount.cls yX3_classCount yX3_classCount ∈ wsG := ⟨mn_X3_classCount, mv_X3_classCount⟩
theorem mi_X4_classCount : MI yX4_classCount cX4_classCount 4 (some .int) 1 := ⟨mc_X4_classCount, mt_X4, ⟨by decide +kernel, by decide +kernel, by decide +kernel⟩, by decide +kernel⟩
theorem mm_X4_classCount : Cond.instanceMethod yX4_classCount ∈ wsG ∧ Cond.selects yX4_classCount.cls yX4_classCount yX4_classCount ∈ wsG := ⟨mn_X4_classCount, mv_X4_classCount⟩
end WORLD
end
section
section LEAF
variable {g : Gm} {l : Launch} {μ : Mem}
theorem len_lt (c : Nat) : lenS c ≤ 4140 := by unfold lenS; split <;> omega
theorem c_at {q j : Nat} {v : Int32} (h : isI q = true) (hj : j < lenS q) (hv : μ.1 q j = v) : Ct (GS g) l 0 yX3_at cX3_at 2 (some .int) [.ref (g.1 q), .int (nI j)] μ (Is (.int v) μ) := by
  have hb := len_lt q
  have hj0 : ¬ nI j < 0 := by rw [← nI_0]; exact fun q => by have := (nI_ltI (by omega) (by omega)).mp q; omega
  refine Ct.of (own := RX3) mi_X3_at rfl [some (.ref (g.1 q)), some (.int (nI j))] (Nat.le_of_ble_eq_true rfl) rfl (fun p₀ e₀ s₀ m₀ b₀ h₀ c₀ F => ?_)
  refine V_aload_n F dX3_at_0 rfl ?_
  refine V_ifnull F dX3_at_1 ?_
  refine V_iload_n F dX3_at_4 rfl ?_
  refine V_if_lt_f F (tgt := 20) dX3_at_5 (by decide) (hj0) ?_
  refine V_iload_n F dX3_at_8 rfl ?_
  refine V_aload_n F dX3_at_9 rfl ?_
  refine V_alen F (v := nI (lenS q)) dX3_at_10 0 (wS_int h) rfl rfl ?_
  refine V_icmp_ge_f F (tgt := 20) dX3_at_11 (by decide) (fun hh => by have := (nI_leI (by omega) (by omega)).mp hh; omega) ?_
  refine V_aload_n F dX3_at_14 rfl ?_
  refine V_iload_n F dX3_at_15 rfl ?_
  refine V_ia F dX3_at_16 h rfl hj hv ?_
  refine V_goto F (tgt := 21) dX3_at_17 (by decide) ?_
  exact V_iret F dX3_at_21 (⟨rfl, rfl⟩)
theorem c_at_neg {q : Nat} : Ct (GS g) l 0 yX3_at cX3_at 2 (some .int) [.ref (g.1 q), .int (-1)] μ (Is (.int (nI 0)) μ) := by
  refine Ct.of (own := RX3) mi_X3_at rfl [some (.ref (g.1 q)), some (.int (-1))] (Nat.le_of_ble_eq_true rfl) rfl (fun p₀ e₀ s₀ m₀ b₀ h₀ c₀ F => ?_)
  refine V_aload_n F dX3_at_0 rfl ?_
  refine V_ifnull F dX3_at_1 ?_
  refine V_iload_n F dX3_at_4 rfl ?_
  refine V_if_lt_t F (tgt := 20) dX3_at_5 (by decide) (by decide) ?_
  refine V_iconst F (v := nI 0) dX3_at_20 (by decide) ?_
  exact V_iret F dX3_at_21 (⟨rfl, rfl⟩)
theorem c_atL {j : Nat} {v : Int64} (hj : j < 72) (hv : μ.2 j = v) : Ct (GS g) l 0 yX3_at_ cX3_at_ 2 (some .long) [.ref (g.1 13), .int (nI j)] μ (Is (.long v) μ) := by
  have hj0 : ¬ nI j < 0 := by rw [← nI_0]; exact fun q => by have := (nI_ltI (by omega) (by omega)).mp q; omega
  refine Ct.of (own := RX3) mi_X3_at_ rfl [some (.ref (g.1 13)), some (.int (nI j))] (Nat.le_of_ble_eq_true rfl) rfl (fun p₀ e₀ s₀ m₀ b₀ h₀ c₀ F => ?_)
  refine V_aload_n F dX3_at__0 rfl ?_
  refine V_ifnull F dX3_at__1 ?_
  refine V_iload_n F dX3_at__4 rfl ?_
  refine V_if_lt_f F (tgt := 20) dX3_at__5 (by decide) (hj0) ?_
  refine V_iload_n F dX3_at__8 rfl ?_
  refine V_aload_n F dX3_at__9 rfl ?_
  refine V_alen F (v := nI 72) (q0 := 13) dX3_at__10 1 rfl rfl rfl ?_
  refine V_icmp_ge_f F (tgt := 20) dX3_at__11 (by decide) (fun hh => by have := (nI_leI (by omega) (by omega)).mp hh; omega) ?_
  refine V_aload_n F dX3_at__14 rfl ?_
  refine V_iload_n F dX3_at__15 rfl ?_
  refine V_lald F (q0 := 13) dX3_at__16 rfl (vp_in_nI hj (by omega)) ?_
  rw [nI_clamp (by omega)]
  refine V_goto F (tgt := 21) dX3_at__17 (by decide) ?_
  exact V_lret F dX3_at__21 (⟨by rw [← hv], rfl⟩)
theorem c_put {q j : Nat} {v : Int32} (h : isI q = true) (hj : j < lenS q) : Ct (GS g) l 0 yX3_put cX3_put 3 none [.ref (g.1 q), .int (nI j), .int v] μ (fun r μ' => r = none ∧ μ' = wr μ q j v) := by
  have hb := len_lt q
  have hj0 : ¬ nI j < 0 := by rw [← nI_0]; exact fun q => by have := (nI_ltI (by omega) (by omega)).mp q; omega
  refine Ct.of (own := RX3) mi_X3_put rfl [some (.ref (g.1 q)), some (.int (nI j)), some (.int v)] (Nat.le_of_ble_eq_true rfl) rfl (fun p₀ e₀ s₀ m₀ b₀ h₀ c₀ F => ?_)
  refine V_aload_n F dX3_put_0 rfl ?_
  refine V_ifnull F dX3_put_1 ?_
  refine V_iload_n F dX3_put_4 rfl ?_
  refine V_if_lt_f F (tgt := 18) dX3_put_5 (by decide) (hj0) ?_
  refine V_iload_n F dX3_put_8 rfl ?_
  refine V_aload_n F dX3_put_9 rfl ?_
  refine V_alen F (v := nI (lenS q)) dX3_put_10 0 (wS_int h) rfl rfl ?_
  refine V_icmp_ge_f F (tgt := 18) dX3_put_11 (by decide) (fun hh => by have := (nI_leI (by omega) (by omega)).mp hh; omega) ?_
  refine V_aload_n F dX3_put_14 rfl ?_
  refine V_iload_n F dX3_put_15 rfl ?_
  refine V_iload_n F dX3_put_16 rfl ?_
  refine V_ias F dX3_put_17 h rfl hj ?_
  exact V_vret F dX3_put_18 (⟨rfl, rfl⟩)
theorem c_put_neg {q : Nat} {v : Int32} : Ct (GS g) l 0 yX3_put cX3_put 3 none [.ref (g.1 q), .int (-1), .int v] μ (fun r μ' => r = none ∧ μ' = μ) := by
  refine Ct.of (own := RX3) mi_X3_put rfl [some (.ref (g.1 q)), some (.int (-1)), some (.int v)] (Nat.le_of_ble_eq_true rfl) rfl (fun p₀ e₀ s₀ m₀ b₀ h₀ c₀ F => ?_)
  refine V_aload_n F dX3_put_0 rfl ?_
  refine V_ifnull F dX3_put_1 ?_
  refine V_iload_n F dX3_put_4 rfl ?_
  refine V_if_lt_t F (tgt := 18) dX3_put_5 (by decide) (by decide) ?_
  exact V_vret F dX3_put_18 (⟨rfl, rfl⟩)
theorem c_putL {j : Nat} {v : Int64} (hj : j < 72) : Ct (GS g) l 0 yX3_put_ cX3_put_ 4 none [.ref (g.1 13), .int (nI j), .long v] μ (fun r μ' => r = none ∧ μ' = wrL μ j v) := by
  have hj0 : ¬ nI j < 0 := by rw [← nI_0]; exact fun q => by have := (nI_ltI (by omega) (by omega)).mp q; omega
  refine Ct.of (own := RX3) mi_X3_put_ rfl [some (.ref (g.1 13)), some (.int (nI j)), some (.long v), none] (Nat.le_of_ble_eq_true rfl) rfl (fun p₀ e₀ s₀ m₀ b₀ h₀ c₀ F => ?_)
  refine V_aload_n F dX3_put__0 rfl ?_
  refine V_ifnull F dX3_put__1 ?_
  refine V_iload_n F dX3_put__4 rfl ?_
  refine V_if_lt_f F (tgt := 18) dX3_put__5 (by decide) (hj0) ?_
  refine V_iload_n F dX3_put__8 rfl ?_
  refine V_aload_n F dX3_put__9 rfl ?_
  refine V_alen F (v := nI 72) (q0 := 13) dX3_put__10 1 rfl rfl rfl ?_
  refine V_icmp_ge_f F (tgt := 18) dX3_put__11 (by decide) (fun hh => by have := (nI_leI (by omega) (by omega)).mp hh; omega) ?_
  refine V_aload_n F dX3_put__14 rfl ?_
  refine V_iload_n F dX3_put__15 rfl ?_
  refine V_lload_n F dX3_put__16 rfl ?_
  refine V_last F (q0 := 13) (μ' := wrL μ j v) dX3_put__17 rfl (vp_in_nI hj (by omega)) (by rw [nI_clamp (by omega)]; rfl) ?_
  exact V_vret F dX3_put__18 (⟨rfl, rfl⟩)
/-- an int that is the number of a process -/
def isP (n : Nat) (p : Int32) : Prop := ∃ j, j < n ∧ p = nI j
theorem not_isP {n : Nat} {p : Int32} (hn : n < 2 ^ 31) (h : ¬ isP n p) : p < 0 ∨ (¬ p < 0 ∧ nI n ≤ p) := by
  rcases pk_ix p hn with h1 | h1 | h1
  · exact Or.inl h1
  · by_cases h0 : p < 0
    · exact Or.inl h0
    · exact Or.inr ⟨h0, h1⟩
  · exact absurd h1 h
theorem nI_nn {j : Nat} (hj : j < 2 ^ 31) : ¬ nI j < 0 := by
  rw [← nI_0]; exact fun q => by have := (nI_ltI (by omega) (by omega)).mp q; omega
theorem c_holds_t {n j : Nat} (hc : μ.1 1 0 = nI n) (hn : n ≤ 24) (hj : j < n) : Ct (GS g) l 0 yX2_holds cX2_holds 2 (some .boolean) [.ref (g.1 1), .int (nI j)] μ (Is (.int (nI 1)) μ) := by
  refine Ct.of (own := RX2) mi_X2_holds rfl [some (.ref (g.1 1)), some (.int (nI j))] (Nat.le_of_ble_eq_true rfl) rfl (fun p₀ e₀ s₀ m₀ b₀ h₀ c₀ F => ?_)
  refine V_iload_n F dX2_holds_0 rfl ?_
  refine V_if_lt_f F (tgt := 16) dX2_holds_1 (by decide) (nI_nn (by omega)) ?_
  refine V_iload_n F dX2_holds_4 rfl ?_
  refine V_aload_n F dX2_holds_5 rfl ?_
  refine V_getf F (q0 := 1) (j := 0) lk_X2_50 dX2_holds_6 ig_X2 rfl rfl (by decide) rfl rfl ?_
  refine V_val F (hc) ?_
  refine V_icmp_ge_f F (tgt := 16) dX2_holds_9 (by decide) (fun hh => by have := (nI_leI (by omega) (by omega)).mp hh; omega) ?_
  refine V_iconst F (v := nI 1) dX2_holds_12 (by decide) ?_
  refine V_goto F (tgt := 17) dX2_holds_13 (by decide) ?_
  exact V_zret F dX2_holds_17 (rfl) (⟨rfl, rfl⟩)
theorem c_holds_f {n : Nat} {p : Int32} (hc : μ.1 1 0 = nI n) (hn : n ≤ 24) (hp : ¬ isP n p) : Ct (GS g) l 0 yX2_holds cX2_holds 2 (some .boolean) [.ref (g.1 1), .int p] μ (Is (.int (nI 0)) μ) := by
  refine Ct.of (own := RX2) mi_X2_holds rfl [some (.ref (g.1 1)), some (.int p)] (Nat.le_of_ble_eq_true rfl) rfl (fun p₀ e₀ s₀ m₀ b₀ h₀ c₀ F => ?_)
  rcases not_isP (by omega) hp with h | ⟨h1, h2⟩
  · skip
    refine V_iload_n F dX2_holds_0 rfl ?_
    refine V_if_lt_t F (tgt := 16) dX2_holds_1 (by decide) (h) ?_
    refine V_iconst F (v := nI 0) dX2_holds_16 (by decide) ?_
    exact V_zret F dX2_holds_17 (rfl) (⟨rfl, rfl⟩)
  · skip
    refine V_iload_n F dX2_holds_0 rfl ?_
    refine V_if_lt_f F (tgt := 16) dX2_holds_1 (by decide) (h1) ?_
    refine V_iload_n F dX2_holds_4 rfl ?_
    refine V_aload_n F dX2_holds_5 rfl ?_
    refine V_getf F (q0 := 1) (j := 0) lk_X2_50 dX2_holds_6 ig_X2 rfl rfl (by decide) rfl rfl ?_
    refine V_val F (hc) ?_
    refine V_icmp_ge_t F (tgt := 16) dX2_holds_9 (by decide) (h2) ?_
    refine V_iconst F (v := nI 0) dX2_holds_16 (by decide) ?_
    exact V_zret F dX2_holds_17 (rfl) (⟨rfl, rfl⟩)
theorem c_isClosed {p d : Nat} (hp : p < 24) (hv : μ.1 10 p = nI d) (hd : d < 100) : Ct (GS g) l 1 yX2_isClosed cX2_isClosed 2 (some .boolean) [.ref (g.1 1), .int (nI p)] μ (Is (.int (nI (if d = 0 then 1 else 0))) μ) := by
  refine Ct.of (own := RX2) mi_X2_isClosed rfl [some (.ref (g.1 1)), some (.int (nI p))] (Nat.le_of_ble_eq_true rfl) rfl (fun p₀ e₀ s₀ m₀ b₀ h₀ c₀ F => ?_)
  refine V_aload_n F dX2_isClosed_0 rfl ?_
  refine V_getf F (q0 := 1) (j := 8) lk_X2_33 dX2_isClosed_1 ig_X2 rfl rfl (by decide) rfl rfl ?_
  refine V_iload_n F dX2_isClosed_4 rfl ?_
  refine V_callSNi F (c_at (q := 10) rfl (by simpa [lenS] using hp) hv) mi_X3_at ms_X3_at nk_X2_68 dX2_isClosed_5 (rmR (by omega)) rfl rfl (by decide) (Nat.le_of_ble_eq_true rfl) ?_
  by_cases h : d = 0
  · subst h
    refine V_if_ne_f F (tgt := 15) dX2_isClosed_8 (by decide) (nI_0) ?_
    refine V_iconst F (v := nI 1) dX2_isClosed_11 (by decide) ?_
    refine V_goto F (tgt := 16) dX2_isClosed_12 (by decide) ?_
    exact V_zret F dX2_isClosed_16 (rfl) (⟨rfl, rfl⟩)
  · rw [if_neg h]
    refine V_if_ne_t F (tgt := 15) dX2_isClosed_8 (by decide) (fun q => by rw [← nI_0] at q; have := (nI_eq (by omega) (by omega)).mp q; omega) ?_
    refine V_iconst F (v := nI 0) dX2_isClosed_15 (by decide) ?_
    exact V_zret F dX2_isClosed_16 (rfl) (⟨rfl, rfl⟩)
end LEAF
end
section
/-! ===== lN n to 2^64: shifts, and, or, masks, one bit ===== -/
theorem wb_tb (n : Nat) : (lN n).toBitVec = BitVec.ofNat 64 n := rfl
theorem wb_inj {a b : Int64} (h : a.toBitVec = b.toBitVec) : a = b := Int64.toBitVec_inj.mp h
theorem wb_tn {n : Nat} (h : n < 2 ^ 64) : (lN n).toBitVec.toNat = n := by rw [wb_tb, BitVec.toNat_ofNat, Nat.mod_eq_of_lt h]
theorem wb_of (x : Int64) : ∃ n, n < 2 ^ 64 ∧ x = lN n := ⟨x.toBitVec.toNat, x.toBitVec.isLt, wb_inj (by rw [wb_tb]; simp)⟩
theorem wb_of32 (x : Int32) : ∃ n, n < 2 ^ 32 ∧ x = nI n := ⟨x.toBitVec.toNat, x.toBitVec.isLt, Int32.toBitVec_inj.mp (by show _ = BitVec.ofNat 32 _; simp)⟩
theorem wb_c : ∀ k, k < 64 → ((nI k).toInt64 &&& 63) = lN k := by decide +kernel
theorem wb_cu : ∀ k, k < 64 → ((nI k).toInt64.toUInt64 &&& Int64.toUInt64 63) = UInt64.ofNat k := by decide +kernel
theorem wb_sm : ∀ k, k < 64 → (BitVec.ofNat 64 k).smod 64 = BitVec.ofNat 64 k := by decide +kernel
theorem wb_pw {a b : Nat} (h : a ≤ b) : 2 ^ b = 2 ^ a * 2 ^ (b - a) := by rw [← Nat.pow_add]; congr 1; omega
theorem wb_lt2 {a b : Nat} (h : a < b) : 2 ^ a < 2 ^ b := Nat.pow_lt_pow_right (by decide) h
theorem wb_mod (n : Nat) : lN n = lN (n % 2 ^ 64) := wb_inj (by rw [wb_tb, wb_tb]; apply BitVec.eq_of_toNat_eq; rw [BitVec.toNat_ofNat, BitVec.toNat_ofNat, Nat.mod_mod])
theorem wb_shr {n k : Nat} (hn : n < 2 ^ 64) (hk : k < 64) : ((lN n).toUInt64 >>> ((nI k).toInt64.toUInt64 &&& Int64.toUInt64 63)).toInt64 = lN (n / 2 ^ k) := by
  rw [wb_cu k hk]
  apply wb_inj
  apply BitVec.eq_of_toNat_eq
  show ((lN n).toUInt64 >>> UInt64.ofNat k).toNat = (BitVec.ofNat 64 _).toNat
  have h1 : (UInt64.ofNat k).toNat = k := by
    show (BitVec.ofNat 64 k).toNat = k
    rw [BitVec.toNat_ofNat, Nat.mod_eq_of_lt (by omega)]
  have h2 : (lN n).toUInt64.toNat = n := wb_tn hn
  rw [UInt64.toNat_shiftRight, h1, h2, Nat.mod_eq_of_lt hk, Nat.shiftRight_eq_div_pow, BitVec.toNat_ofNat, Nat.mod_eq_of_lt (Nat.lt_of_le_of_lt (Nat.div_le_self _ _) hn)]
theorem wb_shl (n : Nat) {k : Nat} (hk : k < 64) : lN n <<< ((nI k).toInt64 &&& 63) = lN (n * 2 ^ k) := by
  rw [wb_c k hk]
  apply wb_inj
  rw [Int64.toBitVec_shiftLeft, wb_tb, wb_tb, wb_tb, wb_sm k hk]
  apply BitVec.eq_of_toNat_eq
  rw [BitVec.shiftLeft_eq', BitVec.toNat_shiftLeft, BitVec.toNat_ofNat, BitVec.toNat_ofNat, BitVec.toNat_ofNat, Nat.mod_eq_of_lt (show k < 2 ^ 64 by omega), Nat.shiftLeft_eq, Nat.mul_mod, Nat.mod_mod, ← Nat.mul_mod]
theorem wb_and {a b : Nat} (ha : a < 2 ^ 64) (hb : b < 2 ^ 64) : lN a &&& lN b = lN (a &&& b) := by
  apply wb_inj
  rw [Int64.toBitVec_and, wb_tb, wb_tb, wb_tb]
  apply BitVec.eq_of_toNat_eq
  rw [BitVec.toNat_and, BitVec.toNat_ofNat, BitVec.toNat_ofNat, BitVec.toNat_ofNat, Nat.mod_eq_of_lt ha, Nat.mod_eq_of_lt hb, Nat.mod_eq_of_lt (Nat.and_lt_two_pow _ hb)]
theorem wb_or {a b : Nat} (ha : a < 2 ^ 64) (hb : b < 2 ^ 64) : lN a ||| lN b = lN (a ||| b) := by
  apply wb_inj
  rw [Int64.toBitVec_or, wb_tb, wb_tb, wb_tb]
  apply BitVec.eq_of_toNat_eq
  rw [BitVec.toNat_or, BitVec.toNat_ofNat, BitVec.toNat_ofNat, BitVec.toNat_ofNat, Nat.mod_eq_of_lt ha, Nat.mod_eq_of_lt hb, Nat.mod_eq_of_lt (Nat.or_lt_two_pow ha hb)]
theorem wb_mask {n k : Nat} (hn : n < 2 ^ 64) (hk : k < 64) : lN n &&& lN (2 ^ k - 1) = lN (n % 2 ^ k) := by
  rw [wb_and hn (by have := wb_lt2 hk; omega), Nat.and_two_pow_sub_one_eq_mod]
theorem wb_a1 {n : Nat} (hn : n < 2 ^ 64) : lN n &&& 1 = lN (n % 2) := wb_mask (k := 1) hn (by decide)
theorem wb_bit {n k : Nat} (hn : n < 2 ^ 64) (hk : k < 64) : ((lN n).toUInt64 >>> ((nI k).toInt64.toUInt64 &&& Int64.toUInt64 63)).toInt64 &&& 1 = lN (n / 2 ^ k % 2) := by
  rw [wb_shr hn hk, wb_a1 (Nat.lt_of_le_of_lt (Nat.div_le_self _ _) hn)]
theorem wb_xor {q k : Nat} (hk : k < 63) (h : 2 ^ k ≤ q) (h2 : q < 2 ^ (k + 1)) : lN q ^^^ lN (2 ^ k) = lN (q - 2 ^ k) := by
  obtain ⟨r, rfl⟩ : ∃ r, q = 2 ^ k + r := ⟨q - 2 ^ k, by omega⟩
  have hr : r < 2 ^ k := by rw [Nat.pow_succ] at h2; omega
  have hx : (2 ^ k + r) ^^^ 2 ^ k = r := by
    apply Nat.eq_of_testBit_eq
    intro i
    rw [Nat.testBit_xor, Nat.testBit_two_pow]
    rcases Nat.lt_trichotomy i k with h | h | h
    · rw [Nat.testBit_two_pow_add_gt h]
      simp [show ¬ k = i by omega]
    · subst h
      rw [Nat.testBit_two_pow_add_eq]
      simp
    · have a1 : 2 ^ (k + 1) ≤ 2 ^ i := Nat.pow_le_pow_right (by decide) h
      rw [Nat.testBit_lt_two_pow (show 2 ^ k + r < 2 ^ i by omega), Nat.testBit_lt_two_pow (show r < 2 ^ i by omega)]
      simp [show ¬ k = i by omega]
  have b1 := wb_lt2 (show k + 1 < 64 by omega)
  have b2 := wb_lt2 (show k < 64 by omega)
  apply wb_inj
  rw [Int64.toBitVec_xor, wb_tb, wb_tb, wb_tb]
  apply BitVec.eq_of_toNat_eq
  rw [BitVec.toNat_xor, BitVec.toNat_ofNat, BitVec.toNat_ofNat, BitVec.toNat_ofNat, Nat.mod_eq_of_lt (by omega : 2 ^ k + r < 2 ^ 64), Nat.mod_eq_of_lt b2, hx, Nat.add_sub_cancel_left, Nat.mod_eq_of_lt (by omega)]
/-! ===== nI under and, xor, >>>, one bit, 65535 ===== -/
theorem nx_and (a b : Nat) : nI a &&& nI b = nI (a &&& b) := by
  apply Int32.toBitVec_inj.1
  show BitVec.ofNat 32 a &&& BitVec.ofNat 32 b = BitVec.ofNat 32 (a &&& b)
  apply BitVec.eq_of_getLsbD_eq
  intro i hi
  simp [hi]
theorem nx_xor (a b : Nat) : nI a ^^^ nI b = nI (a ^^^ b) := by
  apply Int32.toBitVec_inj.1
  show BitVec.ofNat 32 a ^^^ BitVec.ofNat 32 b = BitVec.ofNat 32 (a ^^^ b)
  apply BitVec.eq_of_getLsbD_eq
  intro i hi
  simp [hi]
theorem nx_cnt : ∀ j : Fin 32, (UInt32.ofNat j.val &&& Int32.toUInt32 31).toNat % 32 = j.val := by decide +kernel
theorem nx_ush {k j : Nat} (hk : k < 65536) (hj : j < 32) : ((nI k).toUInt32 >>> ((nI j).toUInt32 &&& Int32.toUInt32 31)).toInt32 = nI (k >>> j) := by
  have hs : k >>> j ≤ k := by
    rw [Nat.shiftRight_eq_div_pow]
    exact Nat.div_le_self _ _
  have e2 : UInt32.ofNat k >>> (UInt32.ofNat j &&& Int32.toUInt32 31) = UInt32.ofNat (k >>> j) := by
    apply UInt32.toNat_inj.1
    have h1 : (UInt32.ofNat k).toNat = k := Nat.mod_eq_of_lt (by omega)
    have h2 : (UInt32.ofNat (k >>> j)).toNat = k >>> j := Nat.mod_eq_of_lt (by omega)
    rw [UInt32.toNat_shiftRight, nx_cnt ⟨j, hj⟩, h1, h2]
  show (UInt32.ofNat k >>> (UInt32.ofNat j &&& Int32.toUInt32 31)).toInt32 = _
  rw [e2]
  rfl
theorem nx_bit {k j : Nat} (hk : k < 65536) (hj : j < 16) : (((nI k).toUInt32 >>> ((nI j).toUInt32 &&& Int32.toUInt32 31)).toInt32 &&& 1) = 0 ↔ k.testBit j = false := by
  rw [nx_ush hk (by omega)]
  show nI (k >>> j) &&& nI 1 = 0 ↔ _
  rw [nx_and, Nat.and_one_is_mod, ← nI_0, nI_eq (by omega) (by omega), Nat.testBit_eq_decide_div_mod_eq, Nat.shiftRight_eq_div_pow, decide_eq_false_iff_not]
  generalize k / 2 ^ j = z
  omega
theorem nx_mod (k : Nat) : nI k &&& 65535 = nI (k % 65536) := by
  show nI k &&& nI 65535 = _
  rw [nx_and, show (65535 : Nat) = 2 ^ 16 - 1 from rfl, Nat.and_two_pow_sub_one_eq_mod]
theorem nx_m16 {k : Nat} (h : k < 65536) : nI k &&& 65535 = nI k := by rw [nx_mod, Nat.mod_eq_of_lt h]
theorem nx_mask (x : Int32) : ∃ k, k < 65536 ∧ x &&& 65535 = nI k := by
  have e : x = nI x.toBitVec.toNat := by
    apply Int32.toBitVec_inj.1
    show x.toBitVec = BitVec.ofNat 32 x.toBitVec.toNat
    simp
  refine ⟨x.toBitVec.toNat % 65536, Nat.mod_lt _ (by omega), ?_⟩
  rw [← nx_mod, ← e]
end
section
section SPEC
theorem List.any_congr_of {α : Type} {l : List α} {f g : α → Bool} (h : ∀ a ∈ l, f a = g a) : l.any f = l.any g := by
  induction l with
  | nil => rfl
  | cons x r ih => rw [List.any_cons, List.any_cons, h x List.mem_cons_self, ih fun a ha => h a (List.mem_cons_of_mem _ ha)]
theorem List.all_congr_of {α : Type} {l : List α} {f g : α → Bool} (h : ∀ a ∈ l, f a = g a) : l.all f = l.all g := by
  induction l with
  | nil => rfl
  | cons x r ih => rw [List.all_cons, List.all_cons, h x List.mem_cons_self, ih fun a ha => h a (List.mem_cons_of_mem _ ha)]
abbrev Tb : Type := Nat → Nat → Nat
/-- a name's value: by the packed values of the class, by the list of received names, by the model's number -/
def xv (r x : Nat) : Nat := if x < 3 then x else r / 8 ^ (x - 3) % 8
def vl (l : List Nat) (x : Nat) : Nat := if x < 3 then x else l.getD (x - 3) 0
def mvl (r x : Nat) : Nat := if x < 3 then x else r / 6 ^ (x - 3) % 6
def rc : List Nat → Nat
  | [] => 1
  | v :: l => 8 * rc l + v
def md : List Nat → Nat
  | [] => 0
  | v :: l => 6 * md l + v
/-- the next fresh name -/
def fr : List Nat → Nat
  | [] => 3
  | v :: l => max (fr l) (v + 1)
def lok : List Nat → Prop
  | [] => True
  | v :: l => v ≤ fr l ∧ lok l
theorem fr_ge (l : List Nat) : 3 ≤ fr l := by
  induction l with
  | nil => simp [fr]
  | cons v l ih => simp only [fr]; omega
theorem fr_le {l : List Nat} (h : lok l) : fr l ≤ 3 + l.length := by
  induction l with
  | nil => simp [fr]
  | cons v l ih =>
    have := ih h.2
    have := h.1
    simp only [fr, List.length_cons]; omega
theorem fr_cons {l : List Nat} {v : Nat} (h : v ≤ fr l) : fr (v :: l) = if v = fr l then fr l + 1 else fr l := by
  simp only [fr]; split <;> omega
theorem vl_lt {l : List Nat} (h : lok l) (hl : l.length ≤ 3) (x : Nat) : vl l x < 6 := by
  unfold vl
  split
  · omega
  · match l, h, hl with
    | [], _, _ => simp
    | [a], h, _ =>
      have h1 := h.1
      simp only [fr] at h1
      match x - 3 with
      | 0 => simp; omega
      | k + 1 => simp
    | [a, b], h, _ =>
      obtain ⟨h1, h2, -⟩ := h
      simp only [fr] at h1 h2
      match x - 3 with
      | 0 => simp; omega
      | 1 => simp; omega
      | k + 2 => simp
    | [a, b, d], h, _ =>
      obtain ⟨h1, h2, h3, -⟩ := h
      simp only [fr] at h1 h2 h3
      match x - 3 with
      | 0 => simp; omega
      | 1 => simp; omega
      | 2 => simp; omega
      | k + 3 => simp
theorem xv_rc {l : List Nat} (h : lok l) (hl : l.length ≤ 3) {x : Nat} (hx : x < 3 + l.length) : xv (rc l) x = vl l x := by
  unfold xv vl
  split
  · rfl
  · match l, h, hl, hx with
    | [], _, _, hx => simp at hx; omega
    | [a], h, _, hx =>
      have h1 := h.1
      simp only [fr] at h1
      obtain rfl : x = 3 := by simp at hx; omega
      simp [rc]; omega
    | [a, b], h, _, hx =>
      obtain ⟨h1, h2, -⟩ := h
      simp only [fr] at h1 h2
      rcases (by simp at hx; omega : x = 3 ∨ x = 4) with rfl | rfl
      · simp [rc]; omega
      · simp [rc]; omega
    | [a, b, d], h, _, hx =>
      obtain ⟨h1, h2, h3, -⟩ := h
      simp only [fr] at h1 h2 h3
      have ha : a ≤ 5 := by omega
      have hb : b ≤ 4 := by omega
      have hd : d ≤ 3 := by omega
      clear h1 h2 h3
      rcases (by simp at hx; omega : x = 3 ∨ x = 4 ∨ x = 5) with rfl | rfl | rfl
      · simp [rc]; omega
      · simp [rc]; omega
      · have e : (8 * (8 * (8 + d) + b) + a) / 64 = 8 + d := by omega
        simp [rc, e]; omega
theorem mvl_md {l : List Nat} (h : lok l) (hl : l.length ≤ 3) {x : Nat} (hx : x < 6) : mvl (md l) x = vl l x := by
  unfold mvl vl
  split
  · rfl
  · match l, h, hl with
    | [], _, _ => simp [md]
    | [a], h, _ =>
      have h1 := h.1
      simp only [fr] at h1
      rcases (by omega : x = 3 ∨ x = 4 ∨ x = 5) with rfl | rfl | rfl
      · simp [md]; omega
      · simp [md]; omega
      · simp [md]; omega
    | [a, b], h, _ =>
      obtain ⟨h1, h2, -⟩ := h
      simp only [fr] at h1 h2
      rcases (by omega : x = 3 ∨ x = 4 ∨ x = 5) with rfl | rfl | rfl
      · simp [md]; omega
      · simp [md]; omega
      · simp [md]; omega
    | [a, b, d], h, _ =>
      obtain ⟨h1, h2, h3, -⟩ := h
      simp only [fr] at h1 h2 h3
      have ha : a ≤ 5 := by omega
      have hb : b ≤ 4 := by omega
      have hd : d ≤ 3 := by omega
      clear h1 h2 h3
      rcases (by omega : x = 3 ∨ x = 4 ∨ x = 5) with rfl | rfl | rfl
      · simp [md]; omega
      · simp [md]; omega
      · have e : (6 * (6 * d + b) + a) / 36 = d := by omega
        simp [md, e]; omega
theorem rc_lt {l : List Nat} (h : lok l) (hl : l.length ≤ 3) : rc l < 2 ^ 12 ∧ md l < 216 ∧ (l.length ≤ 2 → rc l < 2 ^ 9 ∧ md l < 36) := by
  match l, h, hl with
  | [], _, _ => simp [rc, md]
  | [a], h, _ =>
    have h1 := h.1
    simp only [fr] at h1
    simp [rc, md]; omega
  | [a, b], h, _ =>
    obtain ⟨h1, h2, -⟩ := h
    simp only [fr] at h1 h2
    simp [rc, md]; omega
  | [a, b, d], h, _ =>
    obtain ⟨h1, h2, h3, -⟩ := h
    simp only [fr] at h1 h2 h3
    simp [rc, md]; omega
/-- the class's own search for the next fresh name -/
theorem xv3 (r : Nat) : xv r 3 = r % 8 := by simp [xv]
theorem xv4 (r : Nat) : xv r 4 = r / 8 % 8 := by simp [xv]
theorem xv5 (r : Nat) : xv r 5 = r / 64 % 8 := by simp [xv]
theorem fr_rc {l : List Nat} (h : lok l) (hl : l.length ≤ 3) : max (max (max 3 (xv (rc l) 3 + 1)) (xv (rc l) 4 + 1)) (xv (rc l) 5 + 1) = fr l := by
  rw [xv3, xv4, xv5]
  match l, h, hl with
  | [], _, _ => simp [rc, fr]
  | [a], h, _ =>
    have h1 := h.1
    simp only [fr] at h1
    simp only [rc, fr]
    have e1 : (8 * 1 + a) % 8 = a := by omega
    have e2 : (8 * 1 + a) / 8 % 8 = 1 := by omega
    have e3 : (8 * 1 + a) / 64 % 8 = 0 := by omega
    rw [e1, e2, e3]; omega
  | [a, b], h, _ =>
    obtain ⟨h1, h2, -⟩ := h
    simp only [fr] at h1 h2
    simp only [rc, fr]
    have ha : a ≤ 5 := by omega
    have hb : b ≤ 4 := by omega
    have e1 : (8 * (8 * 1 + b) + a) % 8 = a := by omega
    have e2 : (8 * (8 * 1 + b) + a) / 8 % 8 = b := by omega
    have e3 : (8 * (8 * 1 + b) + a) / 64 % 8 = 1 := by omega
    rw [e1, e2, e3]; omega
  | [a, b, d], h, _ =>
    obtain ⟨h1, h2, h3, -⟩ := h
    simp only [fr] at h1 h2 h3
    simp only [rc, fr]
    have ha : a ≤ 5 := by omega
    have hb : b ≤ 4 := by omega
    have hd : d ≤ 3 := by omega
    have e1 : (8 * (8 * (8 * 1 + d) + b) + a) % 8 = a := by omega
    have e2 : (8 * (8 * (8 * 1 + d) + b) + a) / 8 % 8 = b := by omega
    have e3 : (8 * (8 * (8 * 1 + d) + b) + a) / 64 % 8 = d := by
      have e : (8 * (8 * (8 * 1 + d) + b) + a) / 64 = 8 + d := by omega
      rw [e]; omega
    rw [e1, e2, e3]; omega
/-- a table of processes: fields 0 kind, 1 x, 2 y, 3 p, 4 q, 5 depth, 6 breadth, 7 need, 8 length -/
def hdl : Nat → Nat
  | 1 => 2
  | 2 => 4
  | 3 => 3
  | 4 => 5
  | _ => 1
def WFp (T : Tb) (p : Nat) : Prop :=
  (1 ≤ T 0 p ∧ T 0 p ≤ 5 ∧ T 1 p < 6 ∧ T 2 p < 6 ∧ T 3 p < p ∧ T 4 p < p) ∧
  ((T 0 p = 1 → T 1 p = 0 ∧ T 2 p = 0) ∧ (T 0 p = 3 → T 2 p = 0) ∧ (T 0 p = 5 → T 1 p = 0 ∧ T 2 p = 0) ∧ (T 0 p ≠ 5 → T 4 p = 0)) ∧
  (T 5 p = max (T 5 (T 3 p)) (T 5 (T 4 p)) + (if T 0 p ≤ 3 then 1 else 0) ∧ T 5 p ≤ 3) ∧
  (T 6 p = (if T 0 p ≤ 3 then 1 else T 6 (T 3 p) + T 6 (T 4 p)) ∧ T 6 p ≤ 3) ∧
  T 7 p = max (max (T 1 p) (T 2 p) - 2) (max (T 7 (T 3 p) - (if T 0 p = 3 then 1 else 0)) (T 7 (T 4 p))) ∧
  T 8 p = hdl (T 0 p) + T 8 (T 3 p) + (if T 0 p = 5 then T 8 (T 4 p) + 2 else 0)
def WF (T : Tb) (n : Nat) : Prop := (1 ≤ n ∧ n ≤ 24) ∧ (T 0 0 = 0 ∧ T 1 0 = 0 ∧ T 2 0 = 0 ∧ T 3 0 = 0 ∧ T 4 0 = 0 ∧ T 5 0 = 0 ∧ T 6 0 = 0 ∧ T 7 0 = 0 ∧ T 8 0 = 1) ∧ ∀ p, 0 < p → p < n → WFp T p
def actsF (T : Tb) : Nat → Nat → List (Nat × List (Nat × Nat))
  | 0, _ => []
  | f + 1, p => if T 0 p = 0 then [] else if T 0 p ≤ 3 then [(p, [])] else if T 0 p = 4 then (actsF T f (T 3 p)).map (fun a => (a.1, (T 1 p, T 2 p) :: a.2)) else actsF T f (T 3 p) ++ actsF T f (T 4 p)
def acts (T : Tb) (p : Nat) : List (Nat × List (Nat × Nat)) := actsF T (p + 1) p
variable {T : Tb} {n : Nat}
theorem actsF_eq (hW : WF T n) : ∀ (p : Nat), p < n → ∀ f, p < f → actsF T f p = acts T p := by
  intro p
  induction p using Nat.strongRecOn with
  | ind p ih =>
    intro hp f hf
    obtain ⟨f, rfl⟩ : ∃ k, f = k + 1 := ⟨f - 1, by omega⟩
    unfold acts
    simp only [actsF]
    split
    · rfl
    · rename_i h0
      have hp0 : 0 < p := by
        rcases Nat.eq_zero_or_pos p with h | h
        · subst h; exact absurd hW.2.1.1 h0
        · exact h
      obtain ⟨⟨-, -, -, -, h3, h4⟩, -⟩ := hW.2.2 p hp0 hp
      split
      · rfl
      · split
        · rw [ih _ h3 (by omega) f (by omega), ih _ h3 (by omega) p (by omega)]
        · rw [ih _ h3 (by omega) f (by omega), ih _ h3 (by omega) p (by omega), ih _ h4 (by omega) f (by omega), ih _ h4 (by omega) p (by omega)]
theorem acts_eq (hW : WF T n) {p : Nat} (hp : p < n) : acts T p = if T 0 p = 0 then [] else if T 0 p ≤ 3 then [(p, [])] else if T 0 p = 4 then (acts T (T 3 p)).map (fun a => (a.1, (T 1 p, T 2 p) :: a.2)) else acts T (T 3 p) ++ acts T (T 4 p) := by
  conv => lhs; unfold acts
  simp only [actsF]
  split
  · rfl
  · rename_i h0
    have hp0 : 0 < p := by
      rcases Nat.eq_zero_or_pos p with h | h
      · subst h; exact absurd hW.2.1.1 h0
      · exact h
    obtain ⟨⟨-, -, -, -, h3, h4⟩, -⟩ := hW.2.2 p hp0 hp
    split
    · rfl
    · split
      · rw [actsF_eq hW _ (by omega) p h3]
      · rw [actsF_eq hW _ (by omega) p h3, actsF_eq hW _ (by omega) p h4]
/-- facts of a process below n -/
theorem WF.kind (hW : WF T n) {p : Nat} (hp : p < n) : T 0 p ≤ 5 := by
  rcases Nat.eq_zero_or_pos p with h | h
  · subst h; have := hW.2.1.1; omega
  · exact (hW.2.2 p h hp).1.2.1
theorem WF.name (hW : WF T n) {p : Nat} (hp : p < n) : T 1 p < 6 ∧ T 2 p < 6 := by
  rcases Nat.eq_zero_or_pos p with h | h
  · subst h; obtain ⟨-, ⟨-, h1, h2, -⟩, -⟩ := hW; omega
  · exact ⟨(hW.2.2 p h hp).1.2.2.1, (hW.2.2 p h hp).1.2.2.2.1⟩
theorem WF.part (hW : WF T n) {p : Nat} (hp : p < n) : T 3 p ≤ p ∧ T 4 p ≤ p ∧ T 3 p < n ∧ T 4 p < n := by
  rcases Nat.eq_zero_or_pos p with h | h
  · subst h; obtain ⟨-, ⟨-, h1, h2, h3, h4, -⟩, -⟩ := hW; omega
  · have := (hW.2.2 p h hp).1.2.2.2.2; omega
theorem WF.depth (hW : WF T n) {p : Nat} (hp : p < n) : T 5 p ≤ 3 ∧ T 6 p ≤ 3 := by
  rcases Nat.eq_zero_or_pos p with h | h
  · subst h; obtain ⟨-, ⟨-, -, -, -, -, h5, h6, -⟩, -⟩ := hW; omega
  · obtain ⟨-, -, h5, h6, -⟩ := hW.2.2 p h hp; omega
theorem WF.need (hW : WF T n) : ∀ {p : Nat}, p < n → T 7 p ≤ 3 := by
  intro p
  induction p using Nat.strongRecOn with
  | ind p ih =>
    intro hp
    rcases Nat.eq_zero_or_pos p with h | h
    · subst h; obtain ⟨-, ⟨-, -, -, -, -, -, -, h7, -⟩, -⟩ := hW; omega
    · obtain ⟨⟨-, -, h1, h2, h3, h4⟩, -, -, -, h7, -⟩ := hW.2.2 p h hp
      have a := ih _ h3 (by omega)
      have b := ih _ h4 (by omega)
      omega
theorem hdl_le (k : Nat) : 1 ≤ hdl k ∧ hdl k ≤ 5 := by
  unfold hdl; split <;> omega
theorem WF.len (hW : WF T n) : ∀ {p : Nat}, p < n → 1 ≤ T 8 p ∧ T 8 p + 5 ≤ 8 * 2 ^ p := by
  intro p
  induction p using Nat.strongRecOn with
  | ind p ih =>
    intro hp
    rcases Nat.eq_zero_or_pos p with h | h
    · subst h; obtain ⟨-, ⟨-, -, -, -, -, -, -, -, h8⟩, -⟩ := hW; omega
    · obtain ⟨⟨-, -, -, -, h3, h4⟩, -, -, -, -, h8⟩ := hW.2.2 p h hp
      have a := ih _ h3 (by omega)
      have b := ih _ h4 (by omega)
      have := hdl_le (T 0 p)
      obtain ⟨k, rfl⟩ : ∃ k, p = k + 1 := ⟨p - 1, by omega⟩
      have e3 : 2 ^ (T 3 (k + 1)) ≤ 2 ^ k := Nat.pow_le_pow_right (by omega) (by omega)
      have e4 : 2 ^ (T 4 (k + 1)) ≤ 2 ^ k := Nat.pow_le_pow_right (by omega) (by omega)
      have e5 : 1 ≤ 2 ^ k := Nat.one_le_two_pow
      rw [Nat.pow_succ]
      split at h8
      · rename_i hk
        rw [hk] at h8
        simp only [hdl] at h8
        omega
      · omega
theorem WF.len_lt (hW : WF T n) {p : Nat} (hp : p < n) : 1 ≤ T 8 p ∧ T 8 p < 2 ^ 27 := by
  have h := hW.len hp
  have : (2 : Nat) ^ p ≤ 2 ^ 23 := Nat.pow_le_pow_right (by omega) (by have := hW.1.2; omega)
  omega
theorem acts_len (hW : WF T n) : ∀ {p : Nat}, p < n → (acts T p).length = T 6 p := by
  intro p
  induction p using Nat.strongRecOn with
  | ind p ih =>
    intro hp
    rw [acts_eq hW hp]
    rcases Nat.eq_zero_or_pos p with h | h
    · subst h
      obtain ⟨-, ⟨h0, -, -, -, -, -, h6, -⟩, -⟩ := hW
      rw [if_pos h0, h6]; rfl
    · obtain ⟨⟨hk1, hk2, -, -, h3, h4⟩, ⟨-, -, -, hq⟩, -, ⟨h6, -⟩, -⟩ := hW.2.2 p h hp
      rw [if_neg (by omega)]
      split
      · rename_i hk
        rw [if_pos hk] at h6
        rw [h6]; rfl
      · rename_i hk
        rw [if_neg hk] at h6
        split
        · rename_i hk4
          rw [List.length_map, ih _ h3 (by omega), h6, hq (by omega)]
          have := hW.2.1.2.2.2.2.2.2.1
          omega
        · rw [List.length_append, ih _ h3 (by omega), ih _ h4 (by omega), h6]
/-- what an action with which p can begin is -/
theorem acts_mem (hW : WF T n) : ∀ {p : Nat}, p < n → ∀ a ∈ acts T p, a.1 ≤ p ∧ 0 < a.1 ∧ 1 ≤ T 0 a.1 ∧ T 0 a.1 ≤ 3 ∧ T 5 a.1 ≤ T 5 p ∧ T 7 a.1 ≤ T 7 p ∧ ∀ q ∈ a.2, q.1 < 3 + T 7 p ∧ q.2 < 3 + T 7 p ∧ q.1 < 6 ∧ q.2 < 6 := by
  intro p
  induction p using Nat.strongRecOn with
  | ind p ih =>
    intro hp a ha
    rw [acts_eq hW hp] at ha
    rcases Nat.eq_zero_or_pos p with h | h
    · subst h
      rw [if_pos hW.2.1.1] at ha
      cases ha
    · obtain ⟨⟨hk1, hk2, hx, hy, h3, h4⟩, ⟨-, -, -, hq⟩, ⟨h5, -⟩, -, h7, -⟩ := hW.2.2 p h hp
      rw [if_neg (by omega)] at ha
      split at ha
      · rename_i hk
        obtain rfl := List.mem_singleton.mp ha
        exact ⟨Nat.le_refl _, h, hk1, hk, Nat.le_refl _, Nat.le_refl _, fun q hq => by cases hq⟩
      · rename_i hk
        rw [if_neg hk] at h5
        rw [if_neg (by omega)] at h7
        split at ha
        · obtain ⟨b, hb, rfl⟩ := List.mem_map.mp ha
          obtain ⟨a1, a2, a3, a4, a5, a6, a7⟩ := ih _ h3 (by omega) b hb
          refine ⟨by show b.1 ≤ p; omega, a2, a3, a4, by show T 5 b.1 ≤ _; omega, by show T 7 b.1 ≤ _; omega, fun q hq => ?_⟩
          rcases List.mem_cons.mp hq with rfl | hq
          · simp only; omega
          · have := a7 q hq; omega
        · rcases List.mem_append.mp ha with hb | hb
          · obtain ⟨a1, a2, a3, a4, a5, a6, a7⟩ := ih _ h3 (by omega) a hb
            exact ⟨by omega, a2, a3, a4, by omega, by omega, fun q hq => by have := a7 q hq; omega⟩
          · obtain ⟨a1, a2, a3, a4, a5, a6, a7⟩ := ih _ h4 (by omega) a hb
            exact ⟨by omega, a2, a3, a4, by omega, by omega, fun q hq => by have := a7 q hq; omega⟩
/-- what an action is, and where it leads -/
theorem act_facts (hW : WF T n) {p : Nat} (hp : p < n) (h1 : 1 ≤ T 0 p) (h3 : T 0 p ≤ 3) : T 1 p < 3 + T 7 p ∧ T 2 p < 3 + T 7 p ∧ T 3 p < p ∧ T 5 (T 3 p) + 1 ≤ T 5 p ∧ T 7 (T 3 p) ≤ T 7 p + (if T 0 p = 3 then 1 else 0) := by
  have h : 0 < p := by
    rcases Nat.eq_zero_or_pos p with h | h
    · subst h; have := hW.2.1.1; omega
    · exact h
  obtain ⟨⟨hk1, hk2, hx, hy, hp3, h4⟩, ⟨-, -, -, hq⟩, ⟨h5, -⟩, -, h7, -⟩ := hW.2.2 p h hp
  rw [if_pos h3] at h5
  refine ⟨by omega, by omega, hp3, by omega, by
    by_cases hk : T 0 p = 3
    · rw [if_pos hk] at h7 ⊢; omega
    · rw [if_neg hk] at h7 ⊢; omega⟩
def openb (l : List Nat) (gs : List (Nat × Nat)) : Bool := gs.all fun q => vl l q.1 == vl l q.2
def mvs (T : Tb) (p : Nat) (l : List Nat) : List Nat := ((acts T p).filter (fun a => openb l a.2)).map (·.1)
/-- the action in a slot, if the values let it happen -/
def slG {α : Type} (as : List (Nat × α)) (f : α → Bool) (s : Nat) : Option Nat := match as[s]? with
  | some a => if f a.2 = true then some a.1 else none
  | none => none
def slA (T : Tb) (p : Nat) (l : List Nat) (s : Nat) : Option Nat := slG (acts T p) (openb l) s
def ri : Option Nat → Int32
  | some a => nI a
  | none => -4
theorem slA_list {α : Type} (as : List (Nat × α)) (f : α → Bool) (h : as.length ≤ 3) : (as.filter (fun a => f a.2)).map (·.1) = (List.range 3).filterMap (slG as f) := by
  match as, h with
  | [], _ => rfl
  | [a], _ => by_cases h1 : f a.2 = true <;> simp [List.range_succ, List.filter_cons, List.filterMap_cons, slG, h1]
  | [a, b], _ => by_cases h1 : f a.2 = true <;> by_cases h2 : f b.2 = true <;> simp [List.range_succ, List.filter_cons, List.filterMap_cons, slG, h1, h2]
  | [a, b, d], _ => by_cases h1 : f a.2 = true <;> by_cases h2 : f b.2 = true <;> by_cases h3 : f d.2 = true <;> simp [List.range_succ, List.filter_cons, List.filterMap_cons, slG, h1, h2, h3]
theorem mvs_eq (hW : WF T n) {p : Nat} (hp : p < n) (l : List Nat) : mvs T p l = (List.range 3).filterMap (slA T p l) := by
  unfold mvs
  exact slA_list (acts T p) (openb l) (by rw [acts_len hW hp]; exact (hW.depth hp).2)
theorem slA_mem {p s a : Nat} {l : List Nat} (h : slA T p l s = some a) : ∃ gs, (a, gs) ∈ acts T p ∧ openb l gs = true := by
  unfold slA slG at h
  split at h
  · rename_i b hb
    split at h
    · rename_i ho
      cases h
      exact ⟨b.2, List.mem_of_getElem? hb, ho⟩
    · cases h
  · cases h
theorem mvs_mem (hW : WF T n) {p a : Nat} (hp : p < n) {l : List Nat} (h : a ∈ mvs T p l) : a ≤ p ∧ 0 < a ∧ 1 ≤ T 0 a ∧ T 0 a ≤ 3 ∧ T 5 a ≤ T 5 p ∧ T 7 a ≤ T 7 p := by
  obtain ⟨b, hb, rfl⟩ := List.mem_map.mp h
  obtain ⟨h1, h2, h3, h4, h5, h6, -⟩ := acts_mem hW hp b (List.mem_filter.mp hb).1
  exact ⟨h1, h2, h3, h4, h5, h6⟩
/-- an answer to an attack -/
def agr (T : Tb) (l : List Nat) (a b : Nat) : Bool := T 0 a == T 0 b && vl l (T 1 a) == vl l (T 1 b) && vl l (T 2 a) == vl l (T 2 b)
/-- the names that are chosen with an attack; 9: none -/
def nms (T : Tb) (rel a : Nat) (l : List Nat) : List Nat := if T 0 a = 3 ∧ rel = 1 then List.range (fr l + 1) else [9]
/-- behind an answer: the names that lead on, all of them the attacker's choice -/
def nxt (T : Tb) (rel a v : Nat) (l : List Nat) : List (List Nat) := if T 0 a = 3 then (if rel = 0 then [fr l :: l] else if rel = 1 then [v :: l] else (List.range (fr l + 1)).map (· :: l)) else [l]
/-- the attacker can force a win within so many rounds -/
def win (T : Tb) (rel : Nat) : Nat → Nat → Nat → List Nat → Bool
  | 0, _, _, _ => false
  | k + 1, p, q, l =>
    ((mvs T p l).any fun a => (nms T rel a l).any fun v => (mvs T q l).all fun b => !agr T l a b || (nxt T rel a v l).any fun l' => win T rel k (T 3 a) (T 3 b) l') ||
    ((mvs T q l).any fun a => (nms T rel a l).any fun v => (mvs T p l).all fun b => !agr T l a b || (nxt T rel a v l).any fun l' => win T rel k (T 3 a) (T 3 b) l')
def flw (T : Tb) (rel k a v b : Nat) (l : List Nat) : Bool := (nxt T rel a v l).any fun l' => win T rel k (T 3 a) (T 3 b) l'
def hld (T : Tb) (rel k a v q : Nat) (l : List Nat) : Bool := (mvs T q l).all fun b => !agr T l a b || flw T rel k a v b l
def sid (T : Tb) (rel k p q : Nat) (l : List Nat) : Bool := (mvs T p l).any fun a => (nms T rel a l).any fun v => hld T rel k a v q l
theorem win_eq (T : Tb) (rel k p q : Nat) (l : List Nat) : win T rel (k + 1) p q l = (sid T rel k p q l || sid T rel k q p l) := rfl
theorem agr_refl (l : List Nat) (a : Nat) : agr T l a a = true := by simp [agr]
theorem agr_symm (l : List Nat) (a b : Nat) : agr T l a b = agr T l b a := by
  simp only [agr, Bool.beq_comm]
theorem win_symm (rel : Nat) : ∀ (k p q : Nat) (l : List Nat), win T rel k p q l = win T rel k q p l := by
  intro k p q l
  cases k with
  | zero => rfl
  | succ k => rw [win_eq, win_eq, Bool.or_comm]
theorem win_refl (rel : Nat) : ∀ (k p : Nat) (l : List Nat), win T rel k p p l = false := by
  intro k
  induction k with
  | zero => intros; rfl
  | succ k ih =>
    intro p l
    rw [win_eq, Bool.or_self]
    unfold sid
    rw [List.any_eq_false]
    intro a ha
    rw [Bool.not_eq_true, List.any_eq_false]
    intro v hv
    rw [Bool.not_eq_true]
    unfold hld
    rw [List.all_eq_false]
    refine ⟨a, ha, ?_⟩
    rw [agr_refl]
    simp only [flw, Bool.not_true, Bool.false_or, Bool.not_eq_true, List.any_eq_false]
    intro l' _
    rw [ih]
theorem win_mono (rel : Nat) : ∀ (k p q : Nat) (l : List Nat), win T rel k p q l = true → win T rel (k + 1) p q l = true := by
  intro k
  induction k with
  | zero => intro p q l h; cases h
  | succ k ih =>
    have key : ∀ p q l, sid T rel k p q l = true → sid T rel (k + 1) p q l = true := by
      intro p q l h
      unfold sid at h ⊢
      obtain ⟨a, ha, h⟩ := List.any_eq_true.mp h
      obtain ⟨v, hv, h⟩ := List.any_eq_true.mp h
      refine List.any_eq_true.mpr ⟨a, ha, List.any_eq_true.mpr ⟨v, hv, ?_⟩⟩
      unfold hld at h ⊢
      refine List.all_eq_true.mpr fun b hb => ?_
      have h := List.all_eq_true.mp h b hb
      simp only [Bool.or_eq_true, flw, List.any_eq_true] at h ⊢
      rcases h with h | ⟨l', hl, h⟩
      · exact Or.inl h
      · exact Or.inr ⟨l', hl, ih _ _ _ h⟩
    intro p q l h
    rw [win_eq, Bool.or_eq_true] at h ⊢
    exact h.imp (key _ _ _) (key _ _ _)
theorem win_le (rel : Nat) {j k p q : Nat} {l : List Nat} (hjk : j ≤ k) (h : win T rel j p q l = true) : win T rel k p q l = true := by
  induction hjk with
  | refl => exact h
  | step _ ih => exact win_mono rel _ _ _ _ ih
/-- no more rounds than the depth -/
theorem win_depth (hW : WF T n) (rel : Nat) : ∀ (k p q : Nat) (l : List Nat), p < n → q < n → T 5 p ≤ k → T 5 q ≤ k → win T rel (k + 1) p q l = true → win T rel k p q l = true := by
  intro k
  induction k with
  | zero =>
    intro p q l hp hq h1 h2 h
    have e : ∀ p, p < n → T 5 p ≤ 0 → mvs T p l = [] := by
      intro p hp h5
      rcases hm : mvs T p l with _ | ⟨a, r⟩
      · rfl
      · obtain ⟨a1, a2, a3, a4, a5, a6⟩ := mvs_mem hW hp (l := l) (a := a) (by rw [hm]; exact List.mem_cons_self)
        have := act_facts hW (by omega) a3 a4
        omega
    rw [win_eq] at h
    simp [sid, e p hp h1, e q hq h2] at h
  | succ k ih =>
    have key : ∀ p q l, p < n → q < n → T 5 p ≤ k + 1 → T 5 q ≤ k + 1 → sid T rel (k + 1) p q l = true → sid T rel k p q l = true := by
      intro p q l hp hq h1 h2 h
      unfold sid at h ⊢
      obtain ⟨a, ha, h⟩ := List.any_eq_true.mp h
      obtain ⟨v, hv, h⟩ := List.any_eq_true.mp h
      refine List.any_eq_true.mpr ⟨a, ha, List.any_eq_true.mpr ⟨v, hv, ?_⟩⟩
      unfold hld at h ⊢
      refine List.all_eq_true.mpr fun b hb => ?_
      have h := List.all_eq_true.mp h b hb
      simp only [Bool.or_eq_true, flw, List.any_eq_true] at h ⊢
      rcases h with h | ⟨l', hl, h⟩
      · exact Or.inl h
      · obtain ⟨a1, a2, a3, a4, a5, a6⟩ := mvs_mem hW hp ha
        obtain ⟨b1, b2, b3, b4, b5, b6⟩ := mvs_mem hW hq hb
        obtain ⟨-, -, c3, c5, -⟩ := act_facts hW (by omega) a3 a4
        obtain ⟨-, -, d3, d5, -⟩ := act_facts hW (by omega) b3 b4
        exact Or.inr ⟨l', hl, ih _ _ _ (by omega) (by omega) (by omega) (by omega) h⟩
    intro p q l hp hq h1 h2 h
    rw [win_eq, Bool.or_eq_true] at h ⊢
    exact h.imp (key _ _ _ hp hq h1 h2) (key _ _ _ hq hp h2 h1)
theorem win_stop (hW : WF T n) (rel : Nat) {j k p q : Nat} {l : List Nat} (hp : p < n) (hq : q < n) (h1 : T 5 p ≤ j) (h2 : T 5 q ≤ j) (hjk : j ≤ k) : win T rel k p q l = win T rel j p q l := by
  induction hjk with
  | refl => rfl
  | @step m hm ih =>
    rw [← ih]
    rw [Bool.eq_iff_iff]
    exact ⟨win_depth hW rel _ _ _ _ hp hq (by have : j ≤ m := hm; omega) (by have : j ≤ m := hm; omega), win_mono rel _ _ _ _⟩
/-- the least number of rounds up to k, or 4 -/
def Sp (r : Nat) (P : Nat → Bool) (k : Nat) : Prop := (r ≤ k ∨ r = 4) ∧ ∀ j, j ≤ k → (r ≤ j ↔ P j = true)
/-- tables that agree below n say the same there -/
theorem acts_congr {T' : Tb} {n' : Nat} (hW : WF T n) (hW' : WF T' n') (hn : n ≤ n') (hT : ∀ f p, p < n → T' f p = T f p) : ∀ p, p < n → acts T' p = acts T p := by
  intro p
  induction p using Nat.strongRecOn with
  | ind p ih =>
    intro hp
    rw [acts_eq hW hp, acts_eq hW' (by omega)]
    simp only [hT _ _ hp]
    split
    · rfl
    · rename_i h0
      have hp0 : 0 < p := by
        rcases Nat.eq_zero_or_pos p with h | h
        · subst h; exact absurd hW.2.1.1 h0
        · exact h
      obtain ⟨⟨-, -, -, -, h3, h4⟩, -⟩ := hW.2.2 p hp0 hp
      split
      · rfl
      · split
        · rw [ih _ h3 (by omega)]
        · rw [ih _ h3 (by omega), ih _ h4 (by omega)]
theorem win_congr {T' : Tb} {n' : Nat} (hW : WF T n) (hW' : WF T' n') (hn : n ≤ n') (hT : ∀ f p, p < n → T' f p = T f p) (rel : Nat) : ∀ k p q l, p < n → q < n → win T' rel k p q l = win T rel k p q l := by
  have hm : ∀ p l, p < n → mvs T' p l = mvs T p l := fun p l hp => by unfold mvs; rw [acts_congr hW hW' hn hT p hp]
  intro k
  induction k with
  | zero => intros; rfl
  | succ k ih =>
    have key : ∀ p q l, p < n → q < n → sid T' rel k p q l = sid T rel k p q l := by
      intro p q l hp hq
      unfold sid
      rw [hm p l hp]
      refine List.any_congr_of ?_
      intro a ha
      obtain ⟨a1, a2, a3, a4, -⟩ := mvs_mem hW hp ha
      have han : a < n := by omega
      have hpa := (hW.part han).2.2.1
      have e1 : nms T' rel a l = nms T rel a l := by unfold nms; rw [hT _ _ han]
      rw [e1]
      refine List.any_congr_of ?_
      intro v hv
      unfold hld
      rw [hm q l hq]
      refine List.all_congr_of ?_
      intro b hb
      obtain ⟨b1, b2, b3, b4, -⟩ := mvs_mem hW hq hb
      have hbn : b < n := by omega
      have hpb := (hW.part hbn).2.2.1
      have e2 : agr T' l a b = agr T l a b := by unfold agr; simp only [hT _ _ han, hT _ _ hbn]
      have e3 : nxt T' rel a v l = nxt T rel a v l := by unfold nxt; simp only [hT _ _ han]
      unfold flw
      rw [e2, e3]
      congr 1
      refine List.any_congr_of ?_
      intro l' _
      rw [hT _ _ han, hT _ _ hbn]
      exact ih _ _ _ hpa hpb
    intro p q l hp hq
    rw [win_eq, win_eq, key p q l hp hq, key q p l hq hp]
end SPEC
end
section
section CLEAF
variable {g : Gm} {l : Launch} {μ : Mem}
theorem nI_or (a b : Nat) : nI a ||| nI b = nI (a ||| b) := by
  apply Int32.toBitVec_inj.1
  show BitVec.ofNat 32 a ||| BitVec.ofNat 32 b = BitVec.ofNat 32 (a ||| b)
  apply BitVec.eq_of_getLsbD_eq
  intro i hi
  simp [hi]
theorem or_sum8 {r v : Nat} (h : v < 8) : (r * 8) ||| v = 8 * r + v := by
  have := Nat.shiftLeft_add_eq_or_of_lt (b := v) (i := 3) (by simpa using h) r
  rw [Nat.shiftLeft_eq] at this
  rw [← this]; omega
theorem nI_nz {j : Nat} (hj : j < 2 ^ 31) (h : j ≠ 0) : ¬ nI j = 0 := by
  rw [← nI_0]; exact fun q => h ((nI_eq (by omega) (by omega)).mp q)
theorem and7 (r : Nat) : nI r &&& nI 7 = nI (r % 8) := by
  rw [nx_and]
  congr 1
  exact Nat.and_two_pow_sub_one_eq_mod r 3
theorem c_valueOf {x r : Nat} (hx : x < 6) (hr : r < 2 ^ 31) : Ct (GS g) l (0) yX1_valueOf cX1_valueOf 2 (some .int) [.int (nI x), .int (nI r)] μ (Is (.int (nI (xv r x))) μ) := by
  refine Ct.of (own := RX1) mi_X1_valueOf rfl [some (.int (nI x)), some (.int (nI r))] (Nat.le_of_ble_eq_true rfl) rfl (fun p₀ e₀ s₀ m₀ b₀ h₀ c₀ F => ?_)
  refine V_iload_n F dX1_valueOf_0 rfl ?_
  refine V_iconst F (v := nI 3) dX1_valueOf_1 (by decide) ?_
  refine V_icmp_ge_N F (tgt := 7) dX1_valueOf_2 (by decide) (by omega) (by omega) (fun h => ?_) (fun h => ?_)
  · skip
    refine V_iload_n F dX1_valueOf_7 rfl ?_
    refine V_iconst F (v := nI 3) dX1_valueOf_8 (by decide) ?_
    refine V_iload_n F dX1_valueOf_9 rfl ?_
    refine V_iconst F (v := nI 3) dX1_valueOf_10 (by decide) ?_
    refine V_isubN F (h) dX1_valueOf_11 ?_
    (first | refine V_imulN F dX1_valueOf_12 ?_ | refine V_imul F dX1_valueOf_12 ?_)
    have e : nI r >>> (nI (3 * (x - 3)) &&& 31) = nI (r / 8 ^ (x - 3)) := by
      rcases (by omega : x = 3 ∨ x = 4 ∨ x = 5) with rfl | rfl | rfl
      · exact pk_shrN hr _ 0 (by decide +kernel)
      · exact pk_shrN hr _ 3 (by decide +kernel)
      · exact pk_shrN hr _ 6 (by decide +kernel)
    refine V_ishr F dX1_valueOf_13 ?_
    refine V_val F (e) ?_
    refine V_bipush F (v := nI 7) dX1_valueOf_14 (by decide) ?_
    refine V_iand F dX1_valueOf_16 ?_
    refine V_val F (and7 _) ?_
    exact V_iret F dX1_valueOf_17 (⟨by rw [xv, if_neg (by omega)], rfl⟩)
  · skip
    refine V_iload_n F dX1_valueOf_5 rfl ?_
    exact V_iret F dX1_valueOf_6 (⟨by rw [xv, if_pos (by omega)], rfl⟩)
theorem c_with {r v : Nat} (hr : r < 2 ^ 27) (hv : v < 8) : Ct (GS g) l (0) yX1_with cX1_with 2 (some .int) [.int (nI r), .int (nI v)] μ (Is (.int (nI (8 * r + v))) μ) := by
  refine Ct.of (own := RX1) mi_X1_with rfl [some (.int (nI r)), some (.int (nI v))] (Nat.le_of_ble_eq_true rfl) rfl (fun p₀ e₀ s₀ m₀ b₀ h₀ c₀ F => ?_)
  refine V_iload_n F dX1_with_0 rfl ?_
  refine V_iconst F (v := nI 3) dX1_with_1 (by decide) ?_
  refine V_ishl F dX1_with_2 ?_
  refine V_val F (pk_shlN _ 3 (by decide +kernel) (by omega)) ?_
  refine V_iload_n F dX1_with_3 rfl ?_
  refine V_ior F dX1_with_4 ?_
  refine V_val F ((nI_or _ _).trans (congrArg nI (or_sum8 hv))) ?_
  exact V_iret F dX1_with_5 (⟨rfl, rfl⟩)
theorem c_areEqual {x y r : Nat} (hx : x < 6) (hy : y < 6) (hr : r < 2 ^ 31) : Ct (GS g) l (1) yX1_areEqual cX1_areEqual 3 (some .boolean) [.int (nI x), .int (nI y), .int (nI r)] μ (Is (.int (nI (if xv r x = xv r y then 1 else 0))) μ) := by
  have hb : ∀ x, x < 6 → xv r x < 8 := fun x hx => by unfold xv; split <;> omega
  have hbx := hb x hx
  have hby := hb y hy
  refine Ct.of (own := RX1) mi_X1_areEqual rfl [some (.int (nI x)), some (.int (nI y)), some (.int (nI r))] (Nat.le_of_ble_eq_true rfl) rfl (fun p₀ e₀ s₀ m₀ b₀ h₀ c₀ F => ?_)
  refine V_iload_n F dX1_areEqual_0 rfl ?_
  refine V_iload_n F dX1_areEqual_1 rfl ?_
  refine V_callSi F (c_valueOf hx hr) mi_X1_valueOf ms_X1_valueOf lk_X1_11 dX1_areEqual_2 (rmR (by omega)) rfl rfl (by decide) (Nat.le_of_ble_eq_true rfl) ?_
  refine V_iload_n F dX1_areEqual_5 rfl ?_
  refine V_iload_n F dX1_areEqual_6 rfl ?_
  refine V_callSi F (c_valueOf hy hr) mi_X1_valueOf ms_X1_valueOf lk_X1_11 dX1_areEqual_7 (rmR (by omega)) rfl rfl (by decide) (Nat.le_of_ble_eq_true rfl) ?_
  refine V_icmp_ne_N F (tgt := 17) dX1_areEqual_10 (by decide) (by omega) (by omega) (fun h => ?_) (fun h => ?_)
  · rw [if_neg h]
    refine V_iconst F (v := nI 0) dX1_areEqual_17 (by decide) ?_
    exact V_zret F dX1_areEqual_18 (rfl) (⟨rfl, rfl⟩)
  · rw [if_pos (Classical.not_not.mp h)]
    refine V_iconst F (v := nI 1) dX1_areEqual_13 (by decide) ?_
    refine V_goto F (tgt := 18) dX1_areEqual_14 (by decide) ?_
    exact V_zret F dX1_areEqual_18 (rfl) (⟨rfl, rfl⟩)
theorem c_nextFresh {r : Nat} (hr : r < 2 ^ 31) : Ct (GS g) l (1) yX1_nextFresh cX1_nextFresh 3 (some .int) [.int (nI r)] μ (Is (.int (nI (max (max (max 3 (xv r 3 + 1)) (xv r 4 + 1)) (xv r 5 + 1)))) μ) := by
  have hb : ∀ x, x < 6 → xv r x < 8 := fun x hx => by unfold xv; split <;> omega
  have hb3 := hb 3 (by omega)
  have hb4 := hb 4 (by omega)
  have hb5 := hb 5 (by omega)
  refine Ct.of (own := RX1) mi_X1_nextFresh rfl [some (.int (nI r)), none, none] (Nat.le_of_ble_eq_true rfl) rfl (fun p₀ e₀ s₀ m₀ b₀ h₀ c₀ F => ?_)
  refine V_iconst F (v := nI 3) dX1_nextFresh_0 (by decide) ?_
  refine V_istore_n F (lv' := [_, _, _]) dX1_nextFresh_1 (by decide) rfl rfl ?_
  refine V_iconst F (v := nI 3) dX1_nextFresh_2 (by decide) ?_
  refine V_istore_n F (lv' := [_, _, _]) dX1_nextFresh_3 (by decide) rfl rfl ?_
  refine V_iload_n F dX1_nextFresh_4 rfl ?_
  refine V_bipush F (v := nI 6) dX1_nextFresh_5 (by decide) ?_
  refine V_icmp_ge_f F (tgt := 28) dX1_nextFresh_7 (by decide) (by decide) ?_
  refine V_iload_n F dX1_nextFresh_10 rfl ?_
  refine V_iload_n F dX1_nextFresh_11 rfl ?_
  refine V_iload_n F dX1_nextFresh_12 rfl ?_
  refine V_callSi F (c_valueOf (by omega) hr) mi_X1_valueOf ms_X1_valueOf lk_X1_11 dX1_nextFresh_13 (rmR (by omega)) rfl rfl (by decide) (Nat.le_of_ble_eq_true rfl) ?_
  refine V_iconst F (v := nI 1) dX1_nextFresh_16 (by decide) ?_
  (first | refine V_iaddN F dX1_nextFresh_17 ?_ | refine V_iadd F dX1_nextFresh_17 ?_)
  refine V_maxN F lk_X1_15 dX1_nextFresh_18 (rmM (by omega) (Nat.le_of_ble_eq_true rfl)) (by omega) (by omega) ?_
  refine V_istore_n F (lv' := [_, _, _]) dX1_nextFresh_21 (by decide) rfl rfl ?_
  refine V_iinc F (lv' := [_, _, _]) dX1_nextFresh_22 rfl (by decide) rfl rfl ?_
  refine V_goto F (tgt := 4) dX1_nextFresh_25 (by decide) ?_
  refine V_iload_n F dX1_nextFresh_4 rfl ?_
  refine V_bipush F (v := nI 6) dX1_nextFresh_5 (by decide) ?_
  refine V_icmp_ge_f F (tgt := 28) dX1_nextFresh_7 (by decide) (by decide) ?_
  refine V_iload_n F dX1_nextFresh_10 rfl ?_
  refine V_iload_n F dX1_nextFresh_11 rfl ?_
  refine V_iload_n F dX1_nextFresh_12 rfl ?_
  refine V_callSi F (c_valueOf (x := 4) (by omega) hr) mi_X1_valueOf ms_X1_valueOf lk_X1_11 dX1_nextFresh_13 (rmR (by omega)) rfl rfl (by decide) (Nat.le_of_ble_eq_true rfl) ?_
  refine V_iconst F (v := nI 1) dX1_nextFresh_16 (by decide) ?_
  (first | refine V_iaddN F dX1_nextFresh_17 ?_ | refine V_iadd F dX1_nextFresh_17 ?_)
  refine V_maxN F lk_X1_15 dX1_nextFresh_18 (rmM (by omega) (Nat.le_of_ble_eq_true rfl)) (by omega) (by omega) ?_
  refine V_istore_n F (lv' := [_, _, _]) dX1_nextFresh_21 (by decide) rfl rfl ?_
  refine V_iinc F (lv' := [_, _, _]) dX1_nextFresh_22 rfl (by decide) rfl rfl ?_
  refine V_goto F (tgt := 4) dX1_nextFresh_25 (by decide) ?_
  refine V_iload_n F dX1_nextFresh_4 rfl ?_
  refine V_bipush F (v := nI 6) dX1_nextFresh_5 (by decide) ?_
  refine V_icmp_ge_f F (tgt := 28) dX1_nextFresh_7 (by decide) (by decide) ?_
  refine V_iload_n F dX1_nextFresh_10 rfl ?_
  refine V_iload_n F dX1_nextFresh_11 rfl ?_
  refine V_iload_n F dX1_nextFresh_12 rfl ?_
  refine V_callSi F (c_valueOf (x := 5) (by omega) hr) mi_X1_valueOf ms_X1_valueOf lk_X1_11 dX1_nextFresh_13 (rmR (by omega)) rfl rfl (by decide) (Nat.le_of_ble_eq_true rfl) ?_
  refine V_iconst F (v := nI 1) dX1_nextFresh_16 (by decide) ?_
  (first | refine V_iaddN F dX1_nextFresh_17 ?_ | refine V_iadd F dX1_nextFresh_17 ?_)
  refine V_maxN F lk_X1_15 dX1_nextFresh_18 (rmM (by omega) (Nat.le_of_ble_eq_true rfl)) (by omega) (by omega) ?_
  refine V_istore_n F (lv' := [_, _, _]) dX1_nextFresh_21 (by decide) rfl rfl ?_
  refine V_iinc F (lv' := [_, _, _]) dX1_nextFresh_22 rfl (by decide) rfl rfl ?_
  refine V_goto F (tgt := 4) dX1_nextFresh_25 (by decide) ?_
  refine V_iload_n F dX1_nextFresh_4 rfl ?_
  refine V_bipush F (v := nI 6) dX1_nextFresh_5 (by decide) ?_
  refine V_icmp_ge_t F (tgt := 28) dX1_nextFresh_7 (by decide) (by decide) ?_
  refine V_iload_n F dX1_nextFresh_28 rfl ?_
  exact V_iret F dX1_nextFresh_29 (⟨rfl, rfl⟩)
theorem c_isAction {k : Nat} (hk : k < 6) : Ct (GS g) l (0) yX2_isAction cX2_isAction 1 (some .boolean) [.int (nI k)] μ (Is (.int (nI (if 1 ≤ k ∧ k ≤ 3 then 1 else 0))) μ) := by
  refine Ct.of (own := RX2) mi_X2_isAction rfl [some (.int (nI k))] (Nat.le_of_ble_eq_true rfl) rfl (fun p₀ e₀ s₀ m₀ b₀ h₀ c₀ F => ?_)
  refine V_iload_n F dX2_isAction_0 rfl ?_
  refine V_iconst F (v := nI 1) dX2_isAction_1 (by decide) ?_
  refine V_icmp_eq_N F (tgt := 15) dX2_isAction_2 (by decide) (by omega) (by omega) (fun h => ?_) (fun h => ?_)
  · rw [if_pos (by omega)]
    refine V_iconst F (v := nI 1) dX2_isAction_15 (by decide) ?_
    refine V_goto F (tgt := 20) dX2_isAction_16 (by decide) ?_
    exact V_zret F dX2_isAction_20 (rfl) (⟨rfl, rfl⟩)
  · skip
    refine V_iload_n F dX2_isAction_5 rfl ?_
    refine V_iconst F (v := nI 2) dX2_isAction_6 (by decide) ?_
    refine V_icmp_eq_N F (tgt := 15) dX2_isAction_7 (by decide) (by omega) (by omega) (fun h => ?_) (fun h => ?_)
    · rw [if_pos (by omega)]
      refine V_iconst F (v := nI 1) dX2_isAction_15 (by decide) ?_
      refine V_goto F (tgt := 20) dX2_isAction_16 (by decide) ?_
      exact V_zret F dX2_isAction_20 (rfl) (⟨rfl, rfl⟩)
    · skip
      refine V_iload_n F dX2_isAction_10 rfl ?_
      refine V_iconst F (v := nI 3) dX2_isAction_11 (by decide) ?_
      refine V_icmp_ne_N F (tgt := 19) dX2_isAction_12 (by decide) (by omega) (by omega) (fun h => ?_) (fun h => ?_)
      · rw [if_neg (by omega)]
        refine V_iconst F (v := nI 0) dX2_isAction_19 (by decide) ?_
        exact V_zret F dX2_isAction_20 (rfl) (⟨rfl, rfl⟩)
      · rw [if_pos (by omega)]
        refine V_iconst F (v := nI 1) dX2_isAction_15 (by decide) ?_
        refine V_goto F (tgt := 20) dX2_isAction_16 (by decide) ?_
        exact V_zret F dX2_isAction_20 (rfl) (⟨rfl, rfl⟩)
theorem c_partsOfKind {k : Nat} (hk : k < 6) : Ct (GS g) l (0) yX2_partsOfKind cX2_partsOfKind 1 (some .int) [.int (nI k)] μ (Is (.int (nI (if k = 0 then 0 else if k = 5 then 2 else 1))) μ) := by
  refine Ct.of (own := RX2) mi_X2_partsOfKind rfl [some (.int (nI k))] (Nat.le_of_ble_eq_true rfl) rfl (fun p₀ e₀ s₀ m₀ b₀ h₀ c₀ F => ?_)
  refine V_iload_n F dX2_partsOfKind_0 rfl ?_
  by_cases h0 : k = 0
  · subst h0
    refine V_if_ne_f F (tgt := 6) dX2_partsOfKind_1 (by decide) (nI_0) ?_
    refine V_iconst F (v := nI 0) dX2_partsOfKind_4 (by decide) ?_
    exact V_iret F dX2_partsOfKind_5 (⟨rfl, rfl⟩)
  · rw [if_neg h0]
    refine V_if_ne_t F (tgt := 6) dX2_partsOfKind_1 (by decide) (nI_nz (by omega) h0) ?_
    refine V_iload_n F dX2_partsOfKind_6 rfl ?_
    refine V_iconst F (v := nI 5) dX2_partsOfKind_7 (by decide) ?_
    refine V_icmp_ne_N F (tgt := 15) dX2_partsOfKind_8 (by decide) (by omega) (by omega) (fun h => ?_) (fun h => ?_)
    · rw [if_neg h]
      refine V_iconst F (v := nI 1) dX2_partsOfKind_15 (by decide) ?_
      exact V_iret F dX2_partsOfKind_16 (⟨rfl, rfl⟩)
    · rw [if_pos (Classical.not_not.mp h)]
      refine V_iconst F (v := nI 2) dX2_partsOfKind_11 (by decide) ?_
      refine V_goto F (tgt := 16) dX2_partsOfKind_12 (by decide) ?_
      exact V_iret F dX2_partsOfKind_16 (⟨rfl, rfl⟩)
theorem c_isName_t {j : Nat} (hj : j < 6) : Ct (GS g) l (0) yX3_isName cX3_isName 1 (some .boolean) [.int (nI j)] μ (Is (.int (nI 1)) μ) := by
  refine Ct.of (own := RX3) mi_X3_isName rfl [some (.int (nI j))] (Nat.le_of_ble_eq_true rfl) rfl (fun p₀ e₀ s₀ m₀ b₀ h₀ c₀ F => ?_)
  refine V_iload_n F dX3_isName_0 rfl ?_
  refine V_if_lt_f F (tgt := 14) dX3_isName_1 (by decide) (nI_nn (by omega)) ?_
  refine V_iload_n F dX3_isName_4 rfl ?_
  refine V_bipush F (v := nI 6) dX3_isName_5 (by decide) ?_
  refine V_icmp_ge_N F (tgt := 14) dX3_isName_7 (by decide) (by omega) (by omega) (fun h => ?_) (fun h => ?_)
  · omega
  · skip
    refine V_iconst F (v := nI 1) dX3_isName_10 (by decide) ?_
    refine V_goto F (tgt := 15) dX3_isName_11 (by decide) ?_
    exact V_zret F dX3_isName_15 (rfl) (⟨rfl, rfl⟩)
theorem c_isName_f {p : Int32} (hp : ¬ isP 6 p) : Ct (GS g) l (0) yX3_isName cX3_isName 1 (some .boolean) [.int p] μ (Is (.int (nI 0)) μ) := by
  refine Ct.of (own := RX3) mi_X3_isName rfl [some (.int p)] (Nat.le_of_ble_eq_true rfl) rfl (fun p₀ e₀ s₀ m₀ b₀ h₀ c₀ F => ?_)
  rcases not_isP (by omega) hp with h | ⟨h1, h2⟩
  · skip
    refine V_iload_n F dX3_isName_0 rfl ?_
    refine V_if_lt_t F (tgt := 14) dX3_isName_1 (by decide) (h) ?_
    refine V_iconst F (v := nI 0) dX3_isName_14 (by decide) ?_
    exact V_zret F dX3_isName_15 (rfl) (⟨rfl, rfl⟩)
  · skip
    refine V_iload_n F dX3_isName_0 rfl ?_
    refine V_if_lt_f F (tgt := 14) dX3_isName_1 (by decide) (h1) ?_
    refine V_iload_n F dX3_isName_4 rfl ?_
    refine V_bipush F (v := nI 6) dX3_isName_5 (by decide) ?_
    refine V_icmp_ge_t F (tgt := 14) dX3_isName_7 (by decide) (h2) ?_
    refine V_iconst F (v := nI 0) dX3_isName_14 (by decide) ?_
    exact V_zret F dX3_isName_15 (rfl) (⟨rfl, rfl⟩)
theorem c_isRel_t {j : Nat} (hj : j < 3) : Ct (GS g) l (0) yX3_isRelation cX3_isRelation 1 (some .boolean) [.int (nI j)] μ (Is (.int (nI 1)) μ) := by
  refine Ct.of (own := RX3) mi_X3_isRelation rfl [some (.int (nI j))] (Nat.le_of_ble_eq_true rfl) rfl (fun p₀ e₀ s₀ m₀ b₀ h₀ c₀ F => ?_)
  refine V_iload_n F dX3_isRelation_0 rfl ?_
  refine V_if_lt_f F (tgt := 13) dX3_isRelation_1 (by decide) (nI_nn (by omega)) ?_
  refine V_iload_n F dX3_isRelation_4 rfl ?_
  refine V_iconst F (v := nI 3) dX3_isRelation_5 (by decide) ?_
  refine V_icmp_ge_N F (tgt := 13) dX3_isRelation_6 (by decide) (by omega) (by omega) (fun h => ?_) (fun h => ?_)
  · omega
  · skip
    refine V_iconst F (v := nI 1) dX3_isRelation_9 (by decide) ?_
    refine V_goto F (tgt := 14) dX3_isRelation_10 (by decide) ?_
    exact V_zret F dX3_isRelation_14 (rfl) (⟨rfl, rfl⟩)
theorem c_isRel_f {p : Int32} (hp : ¬ isP 3 p) : Ct (GS g) l (0) yX3_isRelation cX3_isRelation 1 (some .boolean) [.int p] μ (Is (.int (nI 0)) μ) := by
  refine Ct.of (own := RX3) mi_X3_isRelation rfl [some (.int p)] (Nat.le_of_ble_eq_true rfl) rfl (fun p₀ e₀ s₀ m₀ b₀ h₀ c₀ F => ?_)
  rcases not_isP (by omega) hp with h | ⟨h1, h2⟩
  · skip
    refine V_iload_n F dX3_isRelation_0 rfl ?_
    refine V_if_lt_t F (tgt := 13) dX3_isRelation_1 (by decide) (h) ?_
    refine V_iconst F (v := nI 0) dX3_isRelation_13 (by decide) ?_
    exact V_zret F dX3_isRelation_14 (rfl) (⟨rfl, rfl⟩)
  · skip
    refine V_iload_n F dX3_isRelation_0 rfl ?_
    refine V_if_lt_f F (tgt := 13) dX3_isRelation_1 (by decide) (h1) ?_
    refine V_iload_n F dX3_isRelation_4 rfl ?_
    refine V_iconst F (v := nI 3) dX3_isRelation_5 (by decide) ?_
    refine V_icmp_ge_t F (tgt := 13) dX3_isRelation_6 (by decide) (h2) ?_
    refine V_iconst F (v := nI 0) dX3_isRelation_13 (by decide) ?_
    exact V_zret F dX3_isRelation_14 (rfl) (⟨rfl, rfl⟩)
/-- the guards' bits, read against packed values -/
def gsb (w r : Nat) : Bool := (List.range 36).all fun i => !(w.testBit i) || (xv r (i / 6) == xv r (i % 6))
theorem lN_0 : (0 : Int64) = lN 0 := rfl
theorem lN_eq0 {w : Nat} (hw : w < 2 ^ 63) : lN w = 0 ↔ w = 0 := by
  rw [lN_0]; exact pk_lEQ hw (by omega)
theorem c_isOpen {w r : Nat} (hw : w < 2 ^ 36) (hr : r < 2 ^ 31) : Ct (GS g) l (2) yX2_isOpen cX2_isOpen 6 (some .boolean) [.long (lN w), .int (nI r)] μ (Is (.int (nI (if gsb w r = true then 1 else 0))) μ) := by
  have hb : ∀ x, x < 6 → xv r x < 8 := fun x hx => by unfold xv; split <;> omega
  refine Ct.of (own := RX2) mi_X2_isOpen rfl [some (.long (lN w)), none, some (.int (nI r)), none, none, none] (Nat.le_of_ble_eq_true rfl) rfl (fun p₀ e₀ s₀ m₀ b₀ h₀ c₀ F => ?_)
  refine V_lload_n F dX2_isOpen_0 rfl ?_
  refine V_lconst F (v := 0) dX2_isOpen_1 rfl ?_
  refine V_lcmp F dX2_isOpen_2 ?_
  by_cases h0 : w = 0
  · subst h0
    have e : gsb 0 r = true := by simp [gsb]
    rw [if_pos e]
    refine V_if_ne_f F (tgt := 8) dX2_isOpen_3 (by decide) ((lg_cmp_eq _ _).mpr rfl) ?_
    refine V_iconst F (v := nI 1) dX2_isOpen_6 (by decide) ?_
    exact V_zret F dX2_isOpen_7 (rfl) (⟨rfl, rfl⟩)
  · skip
    refine V_if_ne_t F (tgt := 8) dX2_isOpen_3 (by decide) (fun q => h0 ((lN_eq0 (by omega)).mp ((lg_cmp_eq _ _).mp q))) ?_
    have loop : ∀ (k i : Nat), i + k = 36 → (∀ j, j < i → (!(w.testBit j) || (xv r (j / 6) == xv r (j % 6))) = true) → V (GS g) p₀ l e₀ (rmD (2)) s₀ m₀ (List.toArray [.long (lN w), .int (nI r)]) b₀ h₀ c₀ 6 0 0 (MQ b₀ (Qp (GS g) (Is (.int (nI (if gsb w r = true then 1 else 0))) μ)) (List.toArray [.long (lN w), .int (nI r)]) s₀ 0 0 (gA (GS g))) 10 ([some (.long (lN w)), none, some (.int (nI r)), some (.int (nI i)), none, none]) ([]) (μ) := by
      intro k
      induction k with
      | zero =>
        intro i hi hall
        have e : gsb w r = true := List.all_eq_true.mpr fun j hj => hall j (by have := List.mem_range.mp hj; omega)
        rw [if_pos e]
        refine V_iload_n F dX2_isOpen_10 rfl ?_
        refine V_bipush F (v := nI 36) dX2_isOpen_11 (by decide) ?_
        refine V_icmp_ge_N F (tgt := 57) dX2_isOpen_13 (by decide) (by omega) (by omega) (fun h => ?_) (fun h => ?_)
        · skip
          refine V_iconst F (v := nI 1) dX2_isOpen_57 (by decide) ?_
          exact V_zret F dX2_isOpen_58 (rfl) (⟨rfl, rfl⟩)
        · omega
      | succ k ih =>
        intro i hi hall
        refine V_iload_n F dX2_isOpen_10 rfl ?_
        refine V_bipush F (v := nI 36) dX2_isOpen_11 (by decide) ?_
        refine V_icmp_ge_N F (tgt := 57) dX2_isOpen_13 (by decide) (by omega) (by omega) (fun h => ?_) (fun h => ?_)
        · omega
        · skip
          refine V_iload_n F dX2_isOpen_16 rfl ?_
          refine V_bipush F (v := nI 6) dX2_isOpen_17 (by decide) ?_
          refine V_idiv F dX2_isOpen_19 (by decide) ?_
          refine V_val F (pk_div (by omega) (by omega) (by omega)) ?_
          refine V_istore F (lv' := [_, _, _, _, _, _]) dX2_isOpen_20 (by decide) rfl rfl ?_
          refine V_iload_n F dX2_isOpen_22 rfl ?_
          refine V_bipush F (v := nI 6) dX2_isOpen_23 (by decide) ?_
          refine V_irem F dX2_isOpen_25 (by decide) ?_
          refine V_val F (pk_rem (by omega) (by omega) (by omega)) ?_
          refine V_istore F (lv' := [_, _, _, _, _, _]) dX2_isOpen_26 (by decide) rfl rfl ?_
          refine V_lload_n F dX2_isOpen_28 rfl ?_
          refine V_iload_n F dX2_isOpen_29 rfl ?_
          refine V_lushr F dX2_isOpen_30 ?_
          refine V_lconst F (v := 1) dX2_isOpen_31 rfl ?_
          refine V_land F dX2_isOpen_32 ?_
          refine V_valL F (wb_bit (by omega) (by omega)) ?_
          refine V_lconst F (v := 0) dX2_isOpen_33 rfl ?_
          refine V_lcmp F dX2_isOpen_34 ?_
          have hnext : (!(w.testBit i) || (xv r (i / 6) == xv r (i % 6))) = true → V (GS g) p₀ l e₀ (rmD (2)) s₀ m₀ (List.toArray [.long (lN w), .int (nI r)]) b₀ h₀ c₀ 6 0 0 (MQ b₀ (Qp (GS g) (Is (.int (nI (if gsb w r = true then 1 else 0))) μ)) (List.toArray [.long (lN w), .int (nI r)]) s₀ 0 0 (gA (GS g))) 51 ([some (.long (lN w)), none, some (.int (nI r)), some (.int (nI i)), some (.int (nI (i / 6))), some (.int (nI (i % 6)))]) ([]) (μ) := by
            intro hi1
            refine V_iinc F (lv' := [_, _, _, _, _, _]) dX2_isOpen_51 rfl (by decide) rfl rfl ?_
            refine V_goto F (tgt := 10) dX2_isOpen_54 (by decide) ?_
            refine V_msk [true, true, true, true, false, false] (lv' := [some (.long (lN w)), none, some (.int (nI r)), some (.int (nI (i + 1))), none, none]) ?_ (ih (i + 1) (by omega) (fun j hj => ?_))
            · simp only [msk, List.zipWith]
              rw [show nI i + Int32.ofInt 1 = nI (i + 1) from nI_1 i]
              rfl
            · rcases Nat.lt_or_ge j i with h | h
              · exact hall j h
              · rw [show j = i by omega]; exact hi1
          have hbit : w.testBit i = decide (w / 2 ^ i % 2 = 1) := Nat.testBit_eq_decide_div_mod_eq
          by_cases hbi : w / 2 ^ i % 2 = 0
          · skip
            refine V_if_eq_t F (tgt := 51) dX2_isOpen_35 (by decide) ((lg_cmp_eq _ _).mpr (by rw [hbi]; rfl)) ?_
            exact hnext (by rw [hbit, hbi]; rfl)
          · skip
            refine V_if_eq_f F (tgt := 51) dX2_isOpen_35 (by decide) (fun q => hbi ((lN_eq0 (by omega)).mp ((lg_cmp_eq _ _).mp q))) ?_
            refine V_iload F dX2_isOpen_38 rfl ?_
            refine V_iload F dX2_isOpen_40 rfl ?_
            refine V_iload_n F dX2_isOpen_42 rfl ?_
            refine V_callSNi F (c_areEqual (by omega) (by omega) hr) mi_X1_areEqual ms_X1_areEqual nk_X2_106 dX2_isOpen_43 (rmR (by omega)) rfl rfl (by decide) (Nat.le_of_ble_eq_true rfl) ?_
            by_cases he : xv r (i / 6) = xv r (i % 6)
            · rw [if_pos he]
              refine V_if_ne_t F (tgt := 51) dX2_isOpen_46 (by decide) (by decide) ?_
              exact hnext (by simp [he])
            · rw [if_neg he]
              refine V_if_ne_f F (tgt := 51) dX2_isOpen_46 (by decide) (by decide) ?_
              have e : ¬ gsb w r = true := fun q => by
                have := List.all_eq_true.mp q i (List.mem_range.mpr (by omega))
                rw [hbit, show w / 2 ^ i % 2 = 1 by omega] at this
                simp [he] at this
              rw [if_neg e]
              refine V_iconst F (v := nI 0) dX2_isOpen_49 (by decide) ?_
              exact V_zret F dX2_isOpen_50 (rfl) (⟨rfl, rfl⟩)
    refine V_iconst F (v := nI 0) dX2_isOpen_8 (by decide) ?_
    refine V_istore_n F (lv' := [_, _, _, _, _, _]) dX2_isOpen_9 (by decide) rfl rfl ?_
    exact loop 36 0 rfl (fun j hj => absurd hj (Nat.not_lt_zero j))
theorem c_letterOf {x : Nat} (hx : x < 6) : Ct (GS g) l (0) yX2_letterOf cX2_letterOf 1 (some .int) [.int (nI x)] μ (Is (.int (nI (if x < 3 then 97 + x else 45 + x))) μ) := by
  refine Ct.of (own := RX2) mi_X2_letterOf rfl [some (.int (nI x))] (Nat.le_of_ble_eq_true rfl) rfl (fun p₀ e₀ s₀ m₀ b₀ h₀ c₀ F => ?_)
  refine V_iload_n F dX2_letterOf_0 rfl ?_
  refine V_iconst F (v := nI 3) dX2_letterOf_1 (by decide) ?_
  refine V_icmp_ge_N F (tgt := 10) dX2_letterOf_2 (by decide) (by omega) (by omega) (fun h => ?_) (fun h => ?_)
  · rw [if_neg (by omega)]
    refine V_bipush F (v := nI 48) dX2_letterOf_10 (by decide) ?_
    refine V_iload_n F dX2_letterOf_12 rfl ?_
    refine V_iconst F (v := nI 3) dX2_letterOf_13 (by decide) ?_
    refine V_isubN F (h) dX2_letterOf_14 ?_
    (first | refine V_iaddN F dX2_letterOf_15 ?_ | refine V_iadd F dX2_letterOf_15 ?_)
    exact V_iret F dX2_letterOf_16 (⟨by rw [show 48 + (x - 3) = 45 + x by omega], rfl⟩)
  · rw [if_pos (by omega)]
    refine V_bipush F (v := nI 97) dX2_letterOf_5 (by decide) ?_
    refine V_iload_n F dX2_letterOf_7 rfl ?_
    (first | refine V_iaddN F dX2_letterOf_8 ?_ | refine V_iadd F dX2_letterOf_8 ?_)
    exact V_iret F dX2_letterOf_9 (⟨rfl, rfl⟩)
end CLEAF
end
section
section INV
/-- guards as bits -/
def gm (w : Nat) (gs : List (Nat × Nat)) : Prop := w < 2 ^ 36 ∧ ∀ i, i < 36 → w.testBit i = decide ((i / 6, i % 6) ∈ gs)
/-- the class's store holds the table T of n processes -/
def XRep (T : Tb) (n : Nat) (μ : Mem) : Prop := WF T n ∧ μ.1 1 0 = nI n ∧ (∀ f p, f < 9 → p < n → μ.1 (3 + f) p = nI (T f p)) ∧
  ∀ p s a, p < n → (acts T p)[s]? = some a → μ.1 12 (3 * p + s) = nI a.1 ∧ ∃ w, μ.2 (3 * p + s) = lN w ∧ gm w a.2
/-- the model holds it -/
def MRep (T : Tb) (n : Nat) (μ : Mem) : Prop := μ.1 15 0 = nI n ∧ ∀ f p, f < 9 → p < n → μ.1 (16 + f) p = nI (T f p)
def sameM (μ μ' : Mem) : Prop := ∀ c, 15 ≤ c → μ'.1 c = μ.1 c
def sameX (μ μ' : Mem) : Prop := (∀ c, c < 15 → μ'.1 c = μ.1 c) ∧ μ'.2 = μ.2
/-- only the class's kept worths differ -/
def sameW (μ μ' : Mem) : Prop := (∀ c, c ≠ 14 → μ'.1 c = μ.1 c) ∧ μ'.2 = μ.2
theorem sameW.rfl' (μ : Mem) : sameW μ μ := ⟨fun _ _ => rfl, rfl⟩
theorem sameW.trans {a b d : Mem} (h : sameW a b) (h2 : sameW b d) : sameW a d := ⟨fun c hc => (h2.1 c hc).trans (h.1 c hc), h2.2.trans h.2⟩
theorem XRep.of_sameW {T : Tb} {n : Nat} {μ μ' : Mem} (h : XRep T n μ) (s : sameW μ μ') : XRep T n μ' := by
  obtain ⟨h1, h2, h3, h4⟩ := h
  refine ⟨h1, by rw [s.1 1 (by omega)]; exact h2, fun f p hf hp => by rw [s.1 _ (by omega)]; exact h3 f p hf hp, fun p t a hp ha => ?_⟩
  rw [s.1 12 (by omega), s.2]
  exact h4 p t a hp ha
theorem XRep.of_sameX {T : Tb} {n : Nat} {μ μ' : Mem} (h : XRep T n μ) (s : sameX μ μ') : XRep T n μ' := by
  obtain ⟨h1, h2, h3, h4⟩ := h
  refine ⟨h1, by rw [s.1 1 (by omega)]; exact h2, fun f p hf hp => by rw [s.1 _ (by omega)]; exact h3 f p hf hp, fun p t a hp ha => ?_⟩
  rw [s.1 12 (by omega), s.2]
  exact h4 p t a hp ha
theorem MRep.of_sameM {T : Tb} {n : Nat} {μ μ' : Mem} (h : MRep T n μ) (s : sameM μ μ') : MRep T n μ' :=
  ⟨by rw [s 15 (by omega)]; exact h.1, fun f p hf hp => by rw [s _ (by omega)]; exact h.2 f p hf hp⟩
theorem gsb_open {w : Nat} {gs : List (Nat × Nat)} {l : List Nat} (h : gm w gs) (hl : lok l) (h3 : l.length ≤ 3) (hn : ∀ q ∈ gs, q.1 < 3 + l.length ∧ q.2 < 3 + l.length ∧ q.1 < 6 ∧ q.2 < 6) : gsb w (rc l) = openb l gs := by
  rw [Bool.eq_iff_iff]
  unfold gsb openb
  rw [List.all_eq_true, List.all_eq_true]
  constructor
  · intro hg q hq
    obtain ⟨a1, a2, a3, a4⟩ := hn q hq
    have hd : (6 * q.1 + q.2) / 6 = q.1 := by omega
    have hm : (6 * q.1 + q.2) % 6 = q.2 := by omega
    have h1 := hg (6 * q.1 + q.2) (List.mem_range.mpr (by omega))
    rw [h.2 _ (by omega), hd, hm, decide_eq_true (by exact hq : (q.1, q.2) ∈ gs), xv_rc hl h3 a1, xv_rc hl h3 a2] at h1
    simpa using h1
  · intro hg i hi
    have hi := List.mem_range.mp hi
    rw [h.2 i hi]
    by_cases hm : (i / 6, i % 6) ∈ gs
    · obtain ⟨a1, a2, a3, a4⟩ := hn _ hm
      have h1 := hg _ hm
      rw [xv_rc hl h3 a1, xv_rc hl h3 a2]
      simp only [hm, decide_true, Bool.not_true, Bool.false_or]
      exact h1
    · simp [hm]
/-- the number that is meant, if there is one below n -/
def pj (n : Nat) (p : Int32) : Option Nat := if p < 0 then none else if p.toNatClampNeg < n then some p.toNatClampNeg else none
theorem pj_nI {n j : Nat} (hj : j < n) (hn : n < 2 ^ 31) : pj n (nI j) = some j := by
  unfold pj
  rw [if_neg (nI_nn (by omega)), nI_clamp (by omega), if_pos hj]
theorem pj_some {n j : Nat} {p : Int32} (h : pj n p = some j) (hn : n < 2 ^ 31) : j < n ∧ p = nI j := by
  unfold pj at h
  split at h
  · cases h
  · rename_i h0
    obtain ⟨i, hi, rfl⟩ := nI_of h0
    rw [nI_clamp hi] at h
    split at h
    · cases h
      exact ⟨by assumption, rfl⟩
    · cases h
theorem pj_none {n : Nat} {p : Int32} (h : pj n p = none) (hn : n < 2 ^ 31) : ¬ isP n p := by
  rintro ⟨j, hj, rfl⟩
  rw [pj_nI hj hn] at h
  cases h
theorem XRep.n24 {T : Tb} {n : Nat} {μ : Mem} (h : XRep T n μ) : n ≤ 24 ∧ 1 ≤ n := ⟨h.1.1.2, h.1.1.1⟩
theorem XRep.fld {T : Tb} {n : Nat} {μ : Mem} (h : XRep T n μ) (f : Nat) {p c : Nat} (hc : c = 3 + f) (hf : f < 9) (hp : p < n) : μ.1 c p = nI (T f p) := hc ▸ h.2.2.1 f p hf hp
end INV
section STORE
variable {g : Gm} {l : Launch} {μ : Mem} {T : Tb} {n : Nat}
theorem slA_none {p s : Nat} {r : List Nat} (hX : WF T n) (hp : p < n) (h : T 6 p ≤ s) : slA T p r s = none := by
  unfold slA slG
  rw [List.getElem?_eq_none (by rw [acts_len hX hp]; exact h)]
theorem mvs_eq' (hX : WF T n) {p : Nat} (hp : p < n) (r : List Nat) : mvs T p r = (List.range (T 6 p)).filterMap (slA T p r) := by
  rw [mvs_eq hX hp]
  have h6 := (hX.depth hp).2
  have hz : ∀ s, T 6 p ≤ s → slA T p r s = none := fun s hs => slA_none hX hp hs
  rcases (by omega : T 6 p = 0 ∨ T 6 p = 1 ∨ T 6 p = 2 ∨ T 6 p = 3) with h | h | h | h <;> rw [h]
  · simp [List.range_succ, List.filterMap_cons, hz 0 (by omega), hz 1 (by omega), hz 2 (by omega)]
  · simp only [List.range_succ, List.range_zero, List.nil_append, List.cons_append, List.filterMap_cons, hz 1 (by omega), hz 2 (by omega), List.filterMap_nil]
  · simp only [List.range_succ, List.range_zero, List.nil_append, List.cons_append, List.filterMap_cons, hz 2 (by omega), List.filterMap_nil]
theorem pre_succ (p i : Nat) (r : List Nat) : (List.range (i + 1)).filterMap (slA T p r) = (List.range i).filterMap (slA T p r) ++ (slA T p r i).toList := by
  rw [List.range_succ, List.filterMap_append]
  congr 1
theorem c_actionIn {p s : Nat} {r : List Nat} (hX : XRep T n μ) (hp : p < n) (hs : s < 3) (hl : lok r) (h3 : r.length ≤ 3) (hnd : T 7 p ≤ r.length) : Ct (GS g) l (3) yX2_actionIn cX2_actionIn 5 (some .int) [.ref (g.1 1), .int (nI p), .int (nI s), .int (nI (rc r))] μ (Is (.int (ri (slA T p r s))) μ) := by
  have hn := hX.n24
  have hr := (rc_lt hl h3).1
  have h6 := (hX.1.depth hp).2
  refine Ct.of (own := RX2) mi_X2_actionIn rfl [some (.ref (g.1 1)), some (.int (nI p)), some (.int (nI s)), some (.int (nI (rc r))), none] (Nat.le_of_ble_eq_true rfl) rfl (fun p₀ e₀ s₀ m₀ b₀ h₀ c₀ F => ?_)
  refine V_iload_n F dX2_actionIn_0 rfl ?_
  refine V_if_lt_f F (tgt := 16) dX2_actionIn_1 (by decide) (nI_nn (by omega)) ?_
  refine V_iload_n F dX2_actionIn_4 rfl ?_
  refine V_aload_n F dX2_actionIn_5 rfl ?_
  refine V_getf F (q0 := 1) (j := 7) lk_X2_30 dX2_actionIn_6 ig_X2 rfl rfl (by decide) rfl rfl ?_
  refine V_iload_n F dX2_actionIn_9 rfl ?_
  refine V_callSNi F (c_at (q := 9) rfl (show p < 24 by omega) (hX.fld 6 rfl (by omega) hp)) mi_X3_at ms_X3_at nk_X2_68 dX2_actionIn_10 (rmR (by omega)) rfl rfl (by decide) (Nat.le_of_ble_eq_true rfl) ?_
  refine V_icmp_lt_N F (tgt := 19) dX2_actionIn_13 (by decide) (by omega) (by omega) (fun h => ?_) (fun h => ?_)
  · obtain ⟨a, ha⟩ : ∃ a, (acts T p)[s]? = some a := ⟨_, List.getElem?_eq_getElem (by rw [acts_len hX.1 hp]; exact h)⟩
    obtain ⟨hm1, w, hm2, hw⟩ := hX.2.2.2 p s a hp ha
    have hf := acts_mem hX.1 hp a (List.mem_of_getElem? ha)
    have ho := gsb_open hw hl h3 (fun q hq => by have := hf.2.2.2.2.2.2 q hq; omega)
    have hsl : slA T p r s = if openb r a.2 = true then some a.1 else none := by unfold slA slG; rw [ha]
    refine V_iload_n F dX2_actionIn_19 rfl ?_
    refine V_iconst F (v := nI 3) dX2_actionIn_20 (by decide) ?_
    (first | refine V_imulN F dX2_actionIn_21 ?_ | refine V_imul F dX2_actionIn_21 ?_)
    refine V_iload_n F dX2_actionIn_22 rfl ?_
    (first | refine V_iaddN F dX2_actionIn_23 ?_ | refine V_iadd F dX2_actionIn_23 ?_)
    refine V_val F ((by rw [Nat.mul_comm p 3])) ?_
    refine V_istore F (lv' := [_, _, _, _, _]) dX2_actionIn_24 (by decide) rfl rfl ?_
    refine V_aload_n F dX2_actionIn_26 rfl ?_
    refine V_getf F (q0 := 1) (j := 11) lk_X2_46 dX2_actionIn_27 ig_X2 rfl rfl (by decide) rfl rfl ?_
    refine V_iload F dX2_actionIn_30 rfl ?_
    refine V_callSNi F (c_atL (show 3 * p + s < 72 by omega) hm2) mi_X3_at_ ms_X3_at_ nk_X2_103 dX2_actionIn_32 (rmR (by omega)) rfl rfl (by decide) (Nat.le_of_ble_eq_true rfl) ?_
    refine V_iload_n F dX2_actionIn_35 rfl ?_
    refine V_callSi F (c_isOpen hw.1 (by omega)) mi_X2_isOpen ms_X2_isOpen lk_X2_110 dX2_actionIn_36 (rmR (by omega)) rfl rfl (by decide) (Nat.le_of_ble_eq_true rfl) ?_
    rw [ho, hsl]
    by_cases hb : openb r a.2 = true
    · rw [if_pos hb, if_pos hb]
      refine V_if_eq_f F (tgt := 54) dX2_actionIn_39 (by decide) (by decide) ?_
      refine V_aload_n F dX2_actionIn_42 rfl ?_
      refine V_getf F (q0 := 1) (j := 10) lk_X2_43 dX2_actionIn_43 ig_X2 rfl rfl (by decide) rfl rfl ?_
      refine V_iload F dX2_actionIn_46 rfl ?_
      refine V_callSNi F (c_at (q := 12) rfl (show 3 * p + s < 72 by omega) hm1) mi_X3_at ms_X3_at nk_X2_68 dX2_actionIn_48 (rmR (by omega)) rfl rfl (by decide) (Nat.le_of_ble_eq_true rfl) ?_
      refine V_goto F (tgt := 56) dX2_actionIn_51 (by decide) ?_
      exact V_iret F dX2_actionIn_56 (⟨rfl, rfl⟩)
    · rw [if_neg hb, if_neg hb]
      refine V_if_eq_t F (tgt := 54) dX2_actionIn_39 (by decide) (by decide) ?_
      refine V_bipush F (v := (-4)) dX2_actionIn_54 (by decide) ?_
      exact V_iret F dX2_actionIn_56 (⟨rfl, rfl⟩)
  · rw [slA_none hX.1 hp (by omega)]
    refine V_bipush F (v := (-4)) dX2_actionIn_16 (by decide) ?_
    exact V_iret F dX2_actionIn_18 (⟨rfl, rfl⟩)
theorem rc_nil : nI 1 = nI (rc []) := rfl
theorem ri_ne {o : Option Nat} (h : ∀ a, o = some a → a < 24) : ri o = -4 ↔ o = none := by
  cases o with
  | none => exact ⟨fun _ => rfl, fun _ => rfl⟩
  | some a =>
    refine ⟨fun q => ?_, fun q => by cases q⟩
    exfalso
    have ha := h a rfl
    have : ∀ a, a < 24 → nI a ≠ -4 := by decide +kernel
    exact this a ha q
theorem slA_lt (hX : WF T n) {p s : Nat} (hp : p < n) {r : List Nat} : ∀ a, slA T p r s = some a → a < 24 := fun a h => by
  obtain ⟨gs, h1, -⟩ := slA_mem h
  have := acts_mem hX hp _ h1
  have := hX.1.2
  omega
theorem c_movesOf {p : Nat} (hX : XRep T n μ) (hp : p < n) (hnd : T 7 p = 0) : Ct (GS g) l (4) yX2_movesOf cX2_movesOf 4 (some .int) [.ref (g.1 1), .int (nI p)] μ (Is (.int (nI (mvs T p []).length)) μ) := by
  have hn := hX.n24
  have h6 := (hX.1.depth hp).2
  refine Ct.of (own := RX2) mi_X2_movesOf rfl [some (.ref (g.1 1)), some (.int (nI p)), none, none] (Nat.le_of_ble_eq_true rfl) rfl (fun p₀ e₀ s₀ m₀ b₀ h₀ c₀ F => ?_)
  have loop : ∀ (k i : Nat), i + k = T 6 p → V (GS g) p₀ l e₀ (rmD (4)) s₀ m₀ (List.toArray [.ref (g.1 1), .int (nI p)]) b₀ h₀ c₀ 4 0 0 (MQ b₀ (Qp (GS g) (Is (.int (nI (mvs T p []).length)) μ)) (List.toArray [.ref (g.1 1), .int (nI p)]) s₀ 0 0 (gA (GS g))) 4 ([some (.ref (g.1 1)), some (.int (nI p)), some (.int (nI ((List.range i).filterMap (slA T p [])).length)), some (.int (nI i))]) ([]) (μ) := by
    intro k
    induction k with
    | zero =>
      intro i hi
      refine V_iload_n F dX2_movesOf_4 rfl ?_
      refine V_aload_n F dX2_movesOf_5 rfl ?_
      refine V_getf F (q0 := 1) (j := 7) lk_X2_30 dX2_movesOf_6 ig_X2 rfl rfl (by decide) rfl rfl ?_
      refine V_iload_n F dX2_movesOf_9 rfl ?_
      refine V_callSNi F (c_at (q := 9) rfl (show p < 24 by omega) (hX.fld 6 rfl (by omega) hp)) mi_X3_at ms_X3_at nk_X2_68 dX2_movesOf_10 (rmR (by omega)) rfl rfl (by decide) (Nat.le_of_ble_eq_true rfl) ?_
      refine V_icmp_ge_N F (tgt := 37) dX2_movesOf_13 (by decide) (by omega) (by omega) (fun h => ?_) (fun h => ?_)
      · skip
        refine V_iload_n F dX2_movesOf_37 rfl ?_
        exact V_iret F dX2_movesOf_38 (⟨by rw [mvs_eq' hX.1 hp, show i = T 6 p by omega], rfl⟩)
      · omega
    | succ k ih =>
      intro i hi
      refine V_iload_n F dX2_movesOf_4 rfl ?_
      refine V_aload_n F dX2_movesOf_5 rfl ?_
      refine V_getf F (q0 := 1) (j := 7) lk_X2_30 dX2_movesOf_6 ig_X2 rfl rfl (by decide) rfl rfl ?_
      refine V_iload_n F dX2_movesOf_9 rfl ?_
      refine V_callSNi F (c_at (q := 9) rfl (show p < 24 by omega) (hX.fld 6 rfl (by omega) hp)) mi_X3_at ms_X3_at nk_X2_68 dX2_movesOf_10 (rmR (by omega)) rfl rfl (by decide) (Nat.le_of_ble_eq_true rfl) ?_
      refine V_icmp_ge_N F (tgt := 37) dX2_movesOf_13 (by decide) (by omega) (by omega) (fun h => ?_) (fun h => ?_)
      · omega
      · skip
        refine V_aload_n F dX2_movesOf_16 rfl ?_
        refine V_iload_n F dX2_movesOf_17 rfl ?_
        refine V_iload_n F dX2_movesOf_18 rfl ?_
        refine V_iconst F (v := nI 1) dX2_movesOf_19 (by decide) ?_
        refine V_callVi F (q0 := 1) (c_actionIn (r := []) hX hp (by omega) trivial (by simp) (by simp [hnd])) mi_X2_actionIn mm_X2_actionIn lk_X2_114 dX2_movesOf_20 (rmR (by omega)) rfl rfl (by decide) (Nat.le_of_ble_eq_true rfl) rfl rfl rfl ?_
        refine V_bipush F (v := (-4)) dX2_movesOf_23 (by decide) ?_
        have e := ih (i + 1) (by omega)
        rw [pre_succ] at e
        cases hs : slA T p [] i with
        | none =>
          rw [hs] at e
          simp only [Option.toList, List.append_nil] at e
          refine V_icmp_eq_t F (tgt := 31) dX2_movesOf_25 (by decide) (rfl) ?_
          refine V_iinc F (lv' := [_, _, _, _]) dX2_movesOf_31 rfl (by decide) rfl rfl ?_
          rw [show nI i + Int32.ofInt 1 = nI (i + 1) from nI_1 i]
          refine V_goto F (tgt := 4) dX2_movesOf_34 (by decide) ?_
          exact e
        | some a =>
          rw [hs] at e
          simp only [Option.toList, List.length_append, List.length_singleton] at e
          refine V_icmp_eq_f F (tgt := 31) dX2_movesOf_25 (by decide) (fun q => by have := (ri_ne (by intro b hb; cases hb; exact slA_lt hX.1 hp a hs)).mp q; cases this) ?_
          refine V_iinc F (lv' := [_, _, _, _]) dX2_movesOf_28 rfl (by decide) rfl rfl ?_
          refine V_iinc F (lv' := [_, _, _, _]) dX2_movesOf_31 rfl (by decide) rfl rfl ?_
          rw [show nI i + Int32.ofInt 1 = nI (i + 1) from nI_1 i, show ∀ z, nI z + Int32.ofInt 1 = nI (z + 1) from nI_1]
          refine V_goto F (tgt := 4) dX2_movesOf_34 (by decide) ?_
          exact e
  refine V_iconst F (v := nI 0) dX2_movesOf_0 (by decide) ?_
  refine V_istore_n F (lv' := [_, _, _, _]) dX2_movesOf_1 (by decide) rfl rfl ?_
  refine V_iconst F (v := nI 0) dX2_movesOf_2 (by decide) ?_
  refine V_istore_n F (lv' := [_, _, _, _]) dX2_movesOf_3 (by decide) rfl rfl ?_
  exact loop (T 6 p) 0 (by omega)
theorem c_actionOf {p mv : Nat} (hX : XRep T n μ) (hp : p < n) (hnd : T 7 p = 0) (hmv : mv < 2 ^ 31) : Ct (GS g) l (4) yX2_actionOf cX2_actionOf 6 (some .int) [.ref (g.1 1), .int (nI p), .int (nI mv)] μ (Is (.int (ri ((mvs T p [])[mv]?))) μ) := by
  have hn := hX.n24
  have h6 := (hX.1.depth hp).2
  refine Ct.of (own := RX2) mi_X2_actionOf rfl [some (.ref (g.1 1)), some (.int (nI p)), some (.int (nI mv)), none, none, none] (Nat.le_of_ble_eq_true rfl) rfl (fun p₀ e₀ s₀ m₀ b₀ h₀ c₀ F => ?_)
  have loop : ∀ (k i : Nat), i + k = T 6 p → ((List.range i).filterMap (slA T p [])).length ≤ mv → V (GS g) p₀ l e₀ (rmD (4)) s₀ m₀ (List.toArray [.ref (g.1 1), .int (nI p), .int (nI mv)]) b₀ h₀ c₀ 6 0 0 (MQ b₀ (Qp (GS g) (Is (.int (ri ((mvs T p [])[mv]?))) μ)) (List.toArray [.ref (g.1 1), .int (nI p), .int (nI mv)]) s₀ 0 0 (gA (GS g))) 5 ([some (.ref (g.1 1)), some (.int (nI p)), some (.int (nI mv)), some (.int (nI ((List.range i).filterMap (slA T p [])).length)), some (.int (nI i)), none]) ([]) (μ) := by
    intro k
    induction k with
    | zero =>
      intro i hi hle
      refine V_iload F dX2_actionOf_5 rfl ?_
      refine V_aload_n F dX2_actionOf_7 rfl ?_
      refine V_getf F (q0 := 1) (j := 7) lk_X2_30 dX2_actionOf_8 ig_X2 rfl rfl (by decide) rfl rfl ?_
      refine V_iload_n F dX2_actionOf_11 rfl ?_
      refine V_callSNi F (c_at (q := 9) rfl (show p < 24 by omega) (hX.fld 6 rfl (by omega) hp)) mi_X3_at ms_X3_at nk_X2_68 dX2_actionOf_12 (rmR (by omega)) rfl rfl (by decide) (Nat.le_of_ble_eq_true rfl) ?_
      refine V_icmp_ge_N F (tgt := 52) dX2_actionOf_15 (by decide) (by omega) (by omega) (fun h => ?_) (fun h => ?_)
      · skip
        refine V_bipush F (v := (-4)) dX2_actionOf_52 (by decide) ?_
        exact V_iret F dX2_actionOf_54 (⟨by rw [mvs_eq' hX.1 hp, ← show i = T 6 p by omega, List.getElem?_eq_none hle]; rfl, rfl⟩)
      · omega
    | succ k ih =>
      intro i hi hle
      have hlen : ((List.range i).filterMap (slA T p [])).length ≤ i := Nat.le_trans (List.length_filterMap_le _ _) (by simp)
      refine V_iload F dX2_actionOf_5 rfl ?_
      refine V_aload_n F dX2_actionOf_7 rfl ?_
      refine V_getf F (q0 := 1) (j := 7) lk_X2_30 dX2_actionOf_8 ig_X2 rfl rfl (by decide) rfl rfl ?_
      refine V_iload_n F dX2_actionOf_11 rfl ?_
      refine V_callSNi F (c_at (q := 9) rfl (show p < 24 by omega) (hX.fld 6 rfl (by omega) hp)) mi_X3_at ms_X3_at nk_X2_68 dX2_actionOf_12 (rmR (by omega)) rfl rfl (by decide) (Nat.le_of_ble_eq_true rfl) ?_
      refine V_icmp_ge_N F (tgt := 52) dX2_actionOf_15 (by decide) (by omega) (by omega) (fun h => ?_) (fun h => ?_)
      · omega
      · skip
        refine V_aload_n F dX2_actionOf_18 rfl ?_
        refine V_iload_n F dX2_actionOf_19 rfl ?_
        refine V_iload F dX2_actionOf_20 rfl ?_
        refine V_iconst F (v := nI 1) dX2_actionOf_22 (by decide) ?_
        refine V_callVi F (q0 := 1) (c_actionIn (r := []) hX hp (by omega) trivial (by simp) (by simp [hnd])) mi_X2_actionIn mm_X2_actionIn lk_X2_114 dX2_actionOf_23 (rmR (by omega)) rfl rfl (by decide) (Nat.le_of_ble_eq_true rfl) rfl rfl rfl ?_
        refine V_istore F (lv' := [_, _, _, _, _, _]) dX2_actionOf_26 (by decide) rfl rfl ?_
        refine V_iload F dX2_actionOf_28 rfl ?_
        refine V_bipush F (v := (-4)) dX2_actionOf_30 (by decide) ?_
        have e := ih (i + 1) (by omega)
        rw [pre_succ] at e
        cases hs : slA T p [] i with
        | none =>
          rw [hs] at e
          simp only [Option.toList, List.append_nil] at e
          refine V_icmp_eq_t F (tgt := 46) dX2_actionOf_32 (by decide) (rfl) ?_
          refine V_iinc F (lv' := [_, _, _, _, _, _]) dX2_actionOf_46 rfl (by decide) rfl rfl ?_
          refine V_goto F (tgt := 5) dX2_actionOf_49 (by decide) ?_
          refine V_msk [true, true, true, true, true, false] (lv' := [some (.ref (g.1 1)), some (.int (nI p)), some (.int (nI mv)), some (.int (nI ((List.range i).filterMap (slA T p [])).length)), some (.int (nI (i + 1))), none]) ?_ (e hle)
          rw [show nI i + Int32.ofInt 1 = nI (i + 1) from nI_1 i]
          rfl
        | some a =>
          rw [hs] at e
          simp only [Option.toList, List.length_append, List.length_singleton] at e
          refine V_icmp_eq_f F (tgt := 46) dX2_actionOf_32 (by decide) (fun q => by have := (ri_ne (by intro b hb; cases hb; exact slA_lt hX.1 hp a hs)).mp q; cases this) ?_
          refine V_iload_n F dX2_actionOf_35 rfl ?_
          refine V_iload_n F dX2_actionOf_36 rfl ?_
          refine V_icmp_ne_N F (tgt := 43) dX2_actionOf_37 (by decide) (by omega) (by omega) (fun hc => ?_) (fun hc => ?_)
          · skip
            refine V_iinc F (lv' := [_, _, _, _, _, _]) dX2_actionOf_43 rfl (by decide) rfl rfl ?_
            refine V_iinc F (lv' := [_, _, _, _, _, _]) dX2_actionOf_46 rfl (by decide) rfl rfl ?_
            refine V_goto F (tgt := 5) dX2_actionOf_49 (by decide) ?_
            refine V_msk [true, true, true, true, true, false] (lv' := [some (.ref (g.1 1)), some (.int (nI p)), some (.int (nI mv)), some (.int (nI (((List.range i).filterMap (slA T p [])).length + 1))), some (.int (nI (i + 1))), none]) ?_ (e (by omega))
            rw [show nI i + Int32.ofInt 1 = nI (i + 1) from nI_1 i, show ∀ z, nI z + Int32.ofInt 1 = nI (z + 1) from nI_1]
            rfl
          · skip
            refine V_iload F dX2_actionOf_40 rfl ?_
            have hc := Classical.not_not.mp hc
            have hg : (mvs T p [])[mv]? = some a := by
              rw [mvs_eq' hX.1 hp]
              obtain ⟨d, hd⟩ : ∃ d, T 6 p = (i + 1) + d := ⟨T 6 p - (i + 1), by omega⟩
              have : List.range (T 6 p) = List.range (i + 1) ++ (List.range d).map (i + 1 + ·) := by rw [hd, List.range_add]
              rw [this, List.filterMap_append, pre_succ, hs, List.append_assoc, List.getElem?_append_right (by omega), hc, Nat.sub_self]
              rfl
            exact V_iret F dX2_actionOf_42 (⟨by rw [hg], rfl⟩)
  refine V_iconst F (v := nI 0) dX2_actionOf_0 (by decide) ?_
  refine V_istore_n F (lv' := [_, _, _, _, _, _]) dX2_actionOf_1 (by decide) rfl rfl ?_
  refine V_iconst F (v := nI 0) dX2_actionOf_2 (by decide) ?_
  refine V_istore F (lv' := [_, _, _, _, _, _]) dX2_actionOf_3 (by decide) rfl rfl ?_
  exact loop (T 6 p) 0 (by omega) (Nat.zero_le _)
end STORE
end
section
section RES
def rFld (T : Tb) (n f : Nat) (p : Int32) : Int32 := match pj n p with
  | none => -1
  | some j => nI (T f j)
def rPart (T : Tb) (n : Nat) (p i : Int32) : Int32 := match pj n p with
  | none => -1
  | some j => match pj 2 i with
    | none => -1
    | some d => if d = 0 then (if T 0 j = 0 then -4 else nI (T 3 j)) else if T 0 j = 5 then nI (T 4 j) else -4
def rMC (T : Tb) (n : Nat) (p : Int32) : Int32 := match pj n p with
  | none => -1
  | some j => if T 7 j = 0 then nI (mvs T j []).length else -2
def rMv (f : Nat → Nat) (T : Tb) (n : Nat) (p mv : Int32) : Int32 := match pj n p with
  | none => -1
  | some j => if mv < 0 then -1 else if T 7 j = 0 then (match (mvs T j [])[mv.toNatClampNeg]? with
    | none => -4
    | some a => nI (f a)) else -2
def nmf (T : Tb) (a : Nat) : Nat := if T 0 a = 1 then 99 else if T 0 a = 2 then 10 * T 1 a + T 2 a else 10 * T 1 a + 9
end RES
section QUERY
variable {g : Gm} {l : Launch} {μ : Mem} {T : Tb} {n : Nat}
theorem nI_ge0 {j : Nat} (hj : j < 2 ^ 31) : 0 ≤ nI j := by rw [← nI_0]; exact (nI_leI (by omega) hj).mpr (Nat.zero_le _)
theorem mvs_at (hX : WF T n) {p i a : Nat} (hp : p < n) {r : List Nat} (h : (mvs T p r)[i]? = some a) : 0 < a ∧ a < n ∧ 1 ≤ T 0 a ∧ T 0 a ≤ 3 ∧ T 7 a ≤ T 7 p := by
  obtain ⟨h1, h2, h3, h4, h5, h6⟩ := mvs_mem hX hp (List.mem_of_getElem? h)
  exact ⟨h2, by omega, h3, h4, h6⟩
theorem c_kindOf (hX : XRep T n μ) (p : Int32) : Ct (GS g) l (1) yX3_kindOf cX3_kindOf 2 (some .int) [.ref (g.1 0), .int p] μ (Is (.int (rFld T n 0 p)) μ) := by
  have hn := hX.n24
  refine Ct.of (own := RX3) mi_X3_kindOf rfl [some (.ref (g.1 0)), some (.int p)] (Nat.le_of_ble_eq_true rfl) rfl (fun p₀ e₀ s₀ m₀ b₀ h₀ c₀ F => ?_)
  refine V_aload_n F dX3_kindOf_0 rfl ?_
  refine V_getf F (q0 := 0) (j := 0) lk_X3_10 dX3_kindOf_1 ig_X3 rfl rfl (by decide) rfl rfl ?_
  refine V_iload_n F dX3_kindOf_4 rfl ?_
  cases h : pj n p with
  | none =>
    have e : rFld T n 0 p = -1 := by unfold rFld; rw [h]
    rw [e]
    refine V_callVNi F (q0 := 1) (c_holds_f hX.2.1 (by omega) (pj_none h (by omega))) mi_X2_holds mm_X2_holds nk_X3_25 dX3_kindOf_5 (rmR (by omega)) rfl rfl (by decide) (Nat.le_of_ble_eq_true rfl) rfl rfl rfl ?_
    refine V_if_eq_t F (tgt := 25) dX3_kindOf_8 (by decide) (by decide) ?_
    refine V_iconst F (v := (-1)) dX3_kindOf_25 (by decide) ?_
    exact V_iret F dX3_kindOf_26 (⟨rfl, rfl⟩)
  | some j =>
    obtain ⟨hj, rfl⟩ := pj_some h (by omega)
    have e : rFld T n 0 (nI j) = nI (T 0 j) := by unfold rFld; rw [h]
    rw [e]
    refine V_callVNi F (q0 := 1) (c_holds_t hX.2.1 (by omega) hj) mi_X2_holds mm_X2_holds nk_X3_25 dX3_kindOf_5 (rmR (by omega)) rfl rfl (by decide) (Nat.le_of_ble_eq_true rfl) rfl rfl rfl ?_
    refine V_if_eq_f F (tgt := 25) dX3_kindOf_8 (by decide) (by decide) ?_
    refine V_aload_n F dX3_kindOf_11 rfl ?_
    refine V_getf F (q0 := 0) (j := 0) lk_X3_10 dX3_kindOf_12 ig_X3 rfl rfl (by decide) rfl rfl ?_
    refine V_getN F (q0 := 1) (j := 1) nk_X3_44 dX3_kindOf_15 ig_X2 rfl rfl (by decide) rfl rfl ?_
    refine V_iload_n F dX3_kindOf_18 rfl ?_
    refine V_callSi F (c_at (q := 3) rfl (show j < 24 by omega) (hX.fld 0 rfl (by omega) hj)) mi_X3_at ms_X3_at lk_X3_48 dX3_kindOf_19 (rmR (by omega)) rfl rfl (by decide) (Nat.le_of_ble_eq_true rfl) ?_
    refine V_goto F (tgt := 26) dX3_kindOf_22 (by decide) ?_
    exact V_iret F dX3_kindOf_26 (⟨rfl, rfl⟩)
theorem c_depthOf (hX : XRep T n μ) (p : Int32) : Ct (GS g) l (1) yX3_depthOf cX3_depthOf 2 (some .int) [.ref (g.1 0), .int p] μ (Is (.int (rFld T n 5 p)) μ) := by
  have hn := hX.n24
  refine Ct.of (own := RX3) mi_X3_depthOf rfl [some (.ref (g.1 0)), some (.int p)] (Nat.le_of_ble_eq_true rfl) rfl (fun p₀ e₀ s₀ m₀ b₀ h₀ c₀ F => ?_)
  refine V_aload_n F dX3_depthOf_0 rfl ?_
  refine V_getf F (q0 := 0) (j := 0) lk_X3_10 dX3_depthOf_1 ig_X3 rfl rfl (by decide) rfl rfl ?_
  refine V_iload_n F dX3_depthOf_4 rfl ?_
  cases h : pj n p with
  | none =>
    have e : rFld T n 5 p = -1 := by unfold rFld; rw [h]
    rw [e]
    refine V_callVNi F (q0 := 1) (c_holds_f hX.2.1 (by omega) (pj_none h (by omega))) mi_X2_holds mm_X2_holds nk_X3_25 dX3_depthOf_5 (rmR (by omega)) rfl rfl (by decide) (Nat.le_of_ble_eq_true rfl) rfl rfl rfl ?_
    refine V_if_eq_t F (tgt := 25) dX3_depthOf_8 (by decide) (by decide) ?_
    refine V_iconst F (v := (-1)) dX3_depthOf_25 (by decide) ?_
    exact V_iret F dX3_depthOf_26 (⟨rfl, rfl⟩)
  | some j =>
    obtain ⟨hj, rfl⟩ := pj_some h (by omega)
    have e : rFld T n 5 (nI j) = nI (T 5 j) := by unfold rFld; rw [h]
    rw [e]
    refine V_callVNi F (q0 := 1) (c_holds_t hX.2.1 (by omega) hj) mi_X2_holds mm_X2_holds nk_X3_25 dX3_depthOf_5 (rmR (by omega)) rfl rfl (by decide) (Nat.le_of_ble_eq_true rfl) rfl rfl rfl ?_
    refine V_if_eq_f F (tgt := 25) dX3_depthOf_8 (by decide) (by decide) ?_
    refine V_aload_n F dX3_depthOf_11 rfl ?_
    refine V_getf F (q0 := 0) (j := 0) lk_X3_10 dX3_depthOf_12 ig_X3 rfl rfl (by decide) rfl rfl ?_
    refine V_getN F (q0 := 1) (j := 6) nk_X3_62 dX3_depthOf_15 ig_X2 rfl rfl (by decide) rfl rfl ?_
    refine V_iload_n F dX3_depthOf_18 rfl ?_
    refine V_callSi F (c_at (q := 8) rfl (show j < 24 by omega) (hX.fld 5 rfl (by omega) hj)) mi_X3_at ms_X3_at lk_X3_48 dX3_depthOf_19 (rmR (by omega)) rfl rfl (by decide) (Nat.le_of_ble_eq_true rfl) ?_
    refine V_goto F (tgt := 26) dX3_depthOf_22 (by decide) ?_
    exact V_iret F dX3_depthOf_26 (⟨rfl, rfl⟩)
theorem c_needOf (hX : XRep T n μ) (p : Int32) : Ct (GS g) l (1) yX3_needOf cX3_needOf 2 (some .int) [.ref (g.1 0), .int p] μ (Is (.int (rFld T n 7 p)) μ) := by
  have hn := hX.n24
  refine Ct.of (own := RX3) mi_X3_needOf rfl [some (.ref (g.1 0)), some (.int p)] (Nat.le_of_ble_eq_true rfl) rfl (fun p₀ e₀ s₀ m₀ b₀ h₀ c₀ F => ?_)
  refine V_aload_n F dX3_needOf_0 rfl ?_
  refine V_getf F (q0 := 0) (j := 0) lk_X3_10 dX3_needOf_1 ig_X3 rfl rfl (by decide) rfl rfl ?_
  refine V_iload_n F dX3_needOf_4 rfl ?_
  cases h : pj n p with
  | none =>
    have e : rFld T n 7 p = -1 := by unfold rFld; rw [h]
    rw [e]
    refine V_callVNi F (q0 := 1) (c_holds_f hX.2.1 (by omega) (pj_none h (by omega))) mi_X2_holds mm_X2_holds nk_X3_25 dX3_needOf_5 (rmR (by omega)) rfl rfl (by decide) (Nat.le_of_ble_eq_true rfl) rfl rfl rfl ?_
    refine V_if_eq_t F (tgt := 25) dX3_needOf_8 (by decide) (by decide) ?_
    refine V_iconst F (v := (-1)) dX3_needOf_25 (by decide) ?_
    exact V_iret F dX3_needOf_26 (⟨rfl, rfl⟩)
  | some j =>
    obtain ⟨hj, rfl⟩ := pj_some h (by omega)
    have e : rFld T n 7 (nI j) = nI (T 7 j) := by unfold rFld; rw [h]
    rw [e]
    refine V_callVNi F (q0 := 1) (c_holds_t hX.2.1 (by omega) hj) mi_X2_holds mm_X2_holds nk_X3_25 dX3_needOf_5 (rmR (by omega)) rfl rfl (by decide) (Nat.le_of_ble_eq_true rfl) rfl rfl rfl ?_
    refine V_if_eq_f F (tgt := 25) dX3_needOf_8 (by decide) (by decide) ?_
    refine V_aload_n F dX3_needOf_11 rfl ?_
    refine V_getf F (q0 := 0) (j := 0) lk_X3_10 dX3_needOf_12 ig_X3 rfl rfl (by decide) rfl rfl ?_
    refine V_getN F (q0 := 1) (j := 8) nk_X3_65 dX3_needOf_15 ig_X2 rfl rfl (by decide) rfl rfl ?_
    refine V_iload_n F dX3_needOf_18 rfl ?_
    refine V_callSi F (c_at (q := 10) rfl (show j < 24 by omega) (hX.fld 7 rfl (by omega) hj)) mi_X3_at ms_X3_at lk_X3_48 dX3_needOf_19 (rmR (by omega)) rfl rfl (by decide) (Nat.le_of_ble_eq_true rfl) ?_
    refine V_goto F (tgt := 26) dX3_needOf_22 (by decide) ?_
    exact V_iret F dX3_needOf_26 (⟨rfl, rfl⟩)
theorem c_textLength (hX : XRep T n μ) (p : Int32) : Ct (GS g) l (1) yX3_textLength cX3_textLength 2 (some .int) [.ref (g.1 0), .int p] μ (Is (.int (rFld T n 8 p)) μ) := by
  have hn := hX.n24
  refine Ct.of (own := RX3) mi_X3_textLength rfl [some (.ref (g.1 0)), some (.int p)] (Nat.le_of_ble_eq_true rfl) rfl (fun p₀ e₀ s₀ m₀ b₀ h₀ c₀ F => ?_)
  refine V_aload_n F dX3_textLength_0 rfl ?_
  refine V_getf F (q0 := 0) (j := 0) lk_X3_10 dX3_textLength_1 ig_X3 rfl rfl (by decide) rfl rfl ?_
  refine V_iload_n F dX3_textLength_4 rfl ?_
  cases h : pj n p with
  | none =>
    have e : rFld T n 8 p = -1 := by unfold rFld; rw [h]
    rw [e]
    refine V_callVNi F (q0 := 1) (c_holds_f hX.2.1 (by omega) (pj_none h (by omega))) mi_X2_holds mm_X2_holds nk_X3_25 dX3_textLength_5 (rmR (by omega)) rfl rfl (by decide) (Nat.le_of_ble_eq_true rfl) rfl rfl rfl ?_
    refine V_if_eq_t F (tgt := 25) dX3_textLength_8 (by decide) (by decide) ?_
    refine V_iconst F (v := (-1)) dX3_textLength_25 (by decide) ?_
    exact V_iret F dX3_textLength_26 (⟨rfl, rfl⟩)
  | some j =>
    obtain ⟨hj, rfl⟩ := pj_some h (by omega)
    have e : rFld T n 8 (nI j) = nI (T 8 j) := by unfold rFld; rw [h]
    rw [e]
    refine V_callVNi F (q0 := 1) (c_holds_t hX.2.1 (by omega) hj) mi_X2_holds mm_X2_holds nk_X3_25 dX3_textLength_5 (rmR (by omega)) rfl rfl (by decide) (Nat.le_of_ble_eq_true rfl) rfl rfl rfl ?_
    refine V_if_eq_f F (tgt := 25) dX3_textLength_8 (by decide) (by decide) ?_
    refine V_aload_n F dX3_textLength_11 rfl ?_
    refine V_getf F (q0 := 0) (j := 0) lk_X3_10 dX3_textLength_12 ig_X3 rfl rfl (by decide) rfl rfl ?_
    refine V_getN F (q0 := 1) (j := 9) nk_X3_68 dX3_textLength_15 ig_X2 rfl rfl (by decide) rfl rfl ?_
    refine V_iload_n F dX3_textLength_18 rfl ?_
    refine V_callSi F (c_at (q := 11) rfl (show j < 24 by omega) (hX.fld 8 rfl (by omega) hj)) mi_X3_at ms_X3_at lk_X3_48 dX3_textLength_19 (rmR (by omega)) rfl rfl (by decide) (Nat.le_of_ble_eq_true rfl) ?_
    refine V_goto F (tgt := 26) dX3_textLength_22 (by decide) ?_
    exact V_iret F dX3_textLength_26 (⟨rfl, rfl⟩)
theorem c_processCount (hX : XRep T n μ) : Ct (GS g) l (0) yX3_processCount cX3_processCount 1 (some .int) [.ref (g.1 0)] μ (Is (.int (nI n)) μ) := by
  refine Ct.of (own := RX3) mi_X3_processCount rfl [some (.ref (g.1 0))] (Nat.le_of_ble_eq_true rfl) rfl (fun p₀ e₀ s₀ m₀ b₀ h₀ c₀ F => ?_)
  refine V_aload_n F dX3_processCount_0 rfl ?_
  refine V_getf F (q0 := 0) (j := 0) lk_X3_10 dX3_processCount_1 ig_X3 rfl rfl (by decide) rfl rfl ?_
  refine V_getN F (q0 := 1) (j := 0) nk_X3_36 dX3_processCount_4 ig_X2 rfl rfl (by decide) rfl rfl ?_
  refine V_val F (hX.2.1) ?_
  exact V_iret F dX3_processCount_7 (⟨rfl, rfl⟩)
theorem c_partOf (hX : XRep T n μ) (p i : Int32) : Ct (GS g) l (1) yX3_partOf cX3_partOf 3 (some .int) [.ref (g.1 0), .int p, .int i] μ (Is (.int (rPart T n p i)) μ) := by
  have hn := hX.n24
  refine Ct.of (own := RX3) mi_X3_partOf rfl [some (.ref (g.1 0)), some (.int p), some (.int i)] (Nat.le_of_ble_eq_true rfl) rfl (fun p₀ e₀ s₀ m₀ b₀ h₀ c₀ F => ?_)
  refine V_aload_n F dX3_partOf_0 rfl ?_
  refine V_getf F (q0 := 0) (j := 0) lk_X3_10 dX3_partOf_1 ig_X3 rfl rfl (by decide) rfl rfl ?_
  refine V_iload_n F dX3_partOf_4 rfl ?_
  cases h : pj n p with
  | none =>
    have e : rPart T n p i = -1 := by unfold rPart; rw [h]
    rw [e]
    refine V_callVNi F (q0 := 1) (c_holds_f hX.2.1 (by omega) (pj_none h (by omega))) mi_X2_holds mm_X2_holds nk_X3_25 dX3_partOf_5 (rmR (by omega)) rfl rfl (by decide) (Nat.le_of_ble_eq_true rfl) rfl rfl rfl ?_
    refine V_if_eq_t F (tgt := 20) dX3_partOf_8 (by decide) (by decide) ?_
    refine V_iconst F (v := (-1)) dX3_partOf_20 (by decide) ?_
    exact V_iret F dX3_partOf_21 (⟨rfl, rfl⟩)
  | some j =>
    obtain ⟨hj, rfl⟩ := pj_some h (by omega)
    have hk := hX.1.kind hj
    refine V_callVNi F (q0 := 1) (c_holds_t hX.2.1 (by omega) hj) mi_X2_holds mm_X2_holds nk_X3_25 dX3_partOf_5 (rmR (by omega)) rfl rfl (by decide) (Nat.le_of_ble_eq_true rfl) rfl rfl rfl ?_
    refine V_if_eq_f F (tgt := 20) dX3_partOf_8 (by decide) (by decide) ?_
    refine V_iload_n F dX3_partOf_11 rfl ?_
    cases h2 : pj 2 i with
    | none =>
      have e : rPart T n (nI j) i = -1 := by unfold rPart; rw [h]; simp only [h2]
      rw [e]
      rcases not_isP (by omega) (pj_none h2 (by omega)) with h0 | ⟨h0, h1⟩
      · skip
        refine V_if_lt_t F (tgt := 20) dX3_partOf_12 (by decide) (h0) ?_
        refine V_iconst F (v := (-1)) dX3_partOf_20 (by decide) ?_
        exact V_iret F dX3_partOf_21 (⟨rfl, rfl⟩)
      · skip
        refine V_if_lt_f F (tgt := 20) dX3_partOf_12 (by decide) (h0) ?_
        refine V_iload_n F dX3_partOf_15 rfl ?_
        refine V_iconst F (v := nI 1) dX3_partOf_16 (by decide) ?_
        refine V_icmp_le_f F (tgt := 22) dX3_partOf_17 (by decide) (fun q => by have : (2 : Int32) ≤ 1 := Int32.le_trans h1 q; exact absurd this (by decide)) ?_
        refine V_iconst F (v := (-1)) dX3_partOf_20 (by decide) ?_
        exact V_iret F dX3_partOf_21 (⟨rfl, rfl⟩)
    | some d =>
      obtain ⟨hd, rfl⟩ := pj_some h2 (by omega)
      have e : rPart T n (nI j) (nI d) = if d = 0 then (if T 0 j = 0 then -4 else nI (T 3 j)) else if T 0 j = 5 then nI (T 4 j) else -4 := by unfold rPart; rw [h]; simp only [h2]
      rw [e]
      refine V_if_lt_f F (tgt := 20) dX3_partOf_12 (by decide) (nI_nn (by omega)) ?_
      refine V_iload_n F dX3_partOf_15 rfl ?_
      refine V_iconst F (v := nI 1) dX3_partOf_16 (by decide) ?_
      refine V_icmp_le_t F (tgt := 22) dX3_partOf_17 (by decide) ((nI_leI (by omega) (by omega)).mpr (by omega)) ?_
      refine V_iload_n F dX3_partOf_22 rfl ?_
      refine V_aload_n F dX3_partOf_23 rfl ?_
      refine V_getf F (q0 := 0) (j := 0) lk_X3_10 dX3_partOf_24 ig_X3 rfl rfl (by decide) rfl rfl ?_
      refine V_getN F (q0 := 1) (j := 1) nk_X3_44 dX3_partOf_27 ig_X2 rfl rfl (by decide) rfl rfl ?_
      refine V_iload_n F dX3_partOf_30 rfl ?_
      refine V_callSi F (c_at (q := 3) rfl (show j < 24 by omega) (hX.fld 0 rfl (by omega) hj)) mi_X3_at ms_X3_at lk_X3_48 dX3_partOf_31 (rmR (by omega)) rfl rfl (by decide) (Nat.le_of_ble_eq_true rfl) ?_
      refine V_callSNi F (c_partsOfKind (by omega)) mi_X2_partsOfKind ms_X2_partsOfKind nk_X3_52 dX3_partOf_34 (rmR (by omega)) rfl rfl (by decide) (Nat.le_of_ble_eq_true rfl) ?_
      have hle : (if T 0 j = 0 then 0 else if T 0 j = 5 then 2 else 1) ≤ 2 := by split <;> first | omega | (split <;> omega)
      refine V_icmp_lt_N F (tgt := 43) dX3_partOf_37 (by decide) (by omega) (by omega) (fun hc => ?_) (fun hc => ?_)
      · skip
        refine V_iload_n F dX3_partOf_43 rfl ?_
        by_cases hd0 : d = 0
        · subst hd0
          rw [if_pos rfl, if_neg (by intro q; rw [q] at hc; simp at hc)]
          refine V_if_ne_f F (tgt := 57) dX3_partOf_44 (by decide) (nI_0) ?_
          refine V_aload_n F dX3_partOf_47 rfl ?_
          refine V_getf F (q0 := 0) (j := 0) lk_X3_10 dX3_partOf_48 ig_X3 rfl rfl (by decide) rfl rfl ?_
          refine V_getN F (q0 := 1) (j := 4) nk_X3_56 dX3_partOf_51 ig_X2 rfl rfl (by decide) rfl rfl ?_
          refine V_goto F (tgt := 64) dX3_partOf_54 (by decide) ?_
          refine V_iload_n F dX3_partOf_64 rfl ?_
          refine V_callSi F (c_at (q := 6) rfl (show j < 24 by omega) (hX.fld 3 rfl (by omega) hj)) mi_X3_at ms_X3_at lk_X3_48 dX3_partOf_65 (rmR (by omega)) rfl rfl (by decide) (Nat.le_of_ble_eq_true rfl) ?_
          exact V_iret F dX3_partOf_68 (⟨rfl, rfl⟩)
        · rw [if_neg hd0, if_pos (by split at hc <;> first | omega | (split at hc <;> omega))]
          refine V_if_ne_t F (tgt := 57) dX3_partOf_44 (by decide) (nI_nz (by omega) hd0) ?_
          refine V_aload_n F dX3_partOf_57 rfl ?_
          refine V_getf F (q0 := 0) (j := 0) lk_X3_10 dX3_partOf_58 ig_X3 rfl rfl (by decide) rfl rfl ?_
          refine V_getN F (q0 := 1) (j := 5) nk_X3_59 dX3_partOf_61 ig_X2 rfl rfl (by decide) rfl rfl ?_
          refine V_iload_n F dX3_partOf_64 rfl ?_
          refine V_callSi F (c_at (q := 7) rfl (show j < 24 by omega) (hX.fld 4 rfl (by omega) hj)) mi_X3_at ms_X3_at lk_X3_48 dX3_partOf_65 (rmR (by omega)) rfl rfl (by decide) (Nat.le_of_ble_eq_true rfl) ?_
          exact V_iret F dX3_partOf_68 (⟨rfl, rfl⟩)
      · have e2 : (if d = 0 then (if T 0 j = 0 then (-4 : Int32) else nI (T 3 j)) else if T 0 j = 5 then nI (T 4 j) else -4) = -4 := by
          split at hc
          · rename_i q
            by_cases hd0 : d = 0
            · rw [if_pos hd0, if_pos q]
            · rw [if_neg hd0, if_neg (by omega)]
          · split at hc
            · omega
            · rename_i q
              rw [if_neg (by omega), if_neg q]
        rw [e2]
        refine V_bipush F (v := (-4)) dX3_partOf_40 (by decide) ?_
        exact V_iret F dX3_partOf_42 (⟨rfl, rfl⟩)
theorem c_moveCount (hX : XRep T n μ) (p : Int32) : Ct (GS g) l (5) yX3_moveCount cX3_moveCount 2 (some .int) [.ref (g.1 0), .int p] μ (Is (.int (rMC T n p)) μ) := by
  have hn := hX.n24
  refine Ct.of (own := RX3) mi_X3_moveCount rfl [some (.ref (g.1 0)), some (.int p)] (Nat.le_of_ble_eq_true rfl) rfl (fun p₀ e₀ s₀ m₀ b₀ h₀ c₀ F => ?_)
  refine V_aload_n F dX3_moveCount_0 rfl ?_
  refine V_getf F (q0 := 0) (j := 0) lk_X3_10 dX3_moveCount_1 ig_X3 rfl rfl (by decide) rfl rfl ?_
  refine V_iload_n F dX3_moveCount_4 rfl ?_
  cases h : pj n p with
  | none =>
    have e : rMC T n p = -1 := by unfold rMC; rw [h]
    rw [e]
    refine V_callVNi F (q0 := 1) (c_holds_f hX.2.1 (by omega) (pj_none h (by omega))) mi_X2_holds mm_X2_holds nk_X3_25 dX3_moveCount_5 (rmR (by omega)) rfl rfl (by decide) (Nat.le_of_ble_eq_true rfl) rfl rfl rfl ?_
    refine V_if_ne_f F (tgt := 13) dX3_moveCount_8 (by decide) (by decide) ?_
    refine V_iconst F (v := (-1)) dX3_moveCount_11 (by decide) ?_
    exact V_iret F dX3_moveCount_12 (⟨rfl, rfl⟩)
  | some j =>
    obtain ⟨hj, rfl⟩ := pj_some h (by omega)
    have h7 := hX.1.need hj
    have e : rMC T n (nI j) = if T 7 j = 0 then nI (mvs T j []).length else -2 := by unfold rMC; rw [h]
    rw [e]
    refine V_callVNi F (q0 := 1) (c_holds_t hX.2.1 (by omega) hj) mi_X2_holds mm_X2_holds nk_X3_25 dX3_moveCount_5 (rmR (by omega)) rfl rfl (by decide) (Nat.le_of_ble_eq_true rfl) rfl rfl rfl ?_
    refine V_if_ne_t F (tgt := 13) dX3_moveCount_8 (by decide) (by decide) ?_
    refine V_aload_n F dX3_moveCount_13 rfl ?_
    refine V_getf F (q0 := 0) (j := 0) lk_X3_10 dX3_moveCount_14 ig_X3 rfl rfl (by decide) rfl rfl ?_
    refine V_iload_n F dX3_moveCount_17 rfl ?_
    refine V_callVNi F (q0 := 1) (c_isClosed (d := T 7 j) (by omega) (hX.fld 7 rfl (by omega) hj) (by omega)) mi_X2_isClosed mm_X2_isClosed nk_X3_75 dX3_moveCount_18 (rmR (by omega)) rfl rfl (by decide) (Nat.le_of_ble_eq_true rfl) rfl rfl rfl ?_
    by_cases h0 : T 7 j = 0
    · rw [if_pos h0, if_pos h0]
      refine V_if_eq_f F (tgt := 35) dX3_moveCount_21 (by decide) (by decide) ?_
      refine V_aload_n F dX3_moveCount_24 rfl ?_
      refine V_getf F (q0 := 0) (j := 0) lk_X3_10 dX3_moveCount_25 ig_X3 rfl rfl (by decide) rfl rfl ?_
      refine V_iload_n F dX3_moveCount_28 rfl ?_
      refine V_callVNi F (q0 := 1) (c_movesOf hX hj h0) mi_X2_movesOf mm_X2_movesOf nk_X3_78 dX3_moveCount_29 (rmR (by omega)) rfl rfl (by decide) (Nat.le_of_ble_eq_true rfl) rfl rfl rfl ?_
      refine V_goto F (tgt := 37) dX3_moveCount_32 (by decide) ?_
      exact V_iret F dX3_moveCount_37 (⟨rfl, rfl⟩)
    · rw [if_neg h0, if_neg h0]
      refine V_if_eq_t F (tgt := 35) dX3_moveCount_21 (by decide) (by decide) ?_
      refine V_bipush F (v := (-2)) dX3_moveCount_35 (by decide) ?_
      exact V_iret F dX3_moveCount_37 (⟨rfl, rfl⟩)
theorem c_actionOrError (hX : XRep T n μ) (p mv : Int32) : Ct (GS g) l (5) yX3_actionOrError cX3_actionOrError 3 (some .int) [.ref (g.1 0), .int p, .int mv] μ (Is (.int (rMv id T n p mv)) μ) := by
  have hn := hX.n24
  refine Ct.of (own := RX3) mi_X3_actionOrError rfl [some (.ref (g.1 0)), some (.int p), some (.int mv)] (Nat.le_of_ble_eq_true rfl) rfl (fun p₀ e₀ s₀ m₀ b₀ h₀ c₀ F => ?_)
  refine V_aload_n F dX3_actionOrError_0 rfl ?_
  refine V_getf F (q0 := 0) (j := 0) lk_X3_10 dX3_actionOrError_1 ig_X3 rfl rfl (by decide) rfl rfl ?_
  refine V_iload_n F dX3_actionOrError_4 rfl ?_
  cases h : pj n p with
  | none =>
    have e : rMv id T n p mv = -1 := by unfold rMv; rw [h]
    rw [e]
    refine V_callVNi F (q0 := 1) (c_holds_f hX.2.1 (by omega) (pj_none h (by omega))) mi_X2_holds mm_X2_holds nk_X3_25 dX3_actionOrError_5 (rmR (by omega)) rfl rfl (by decide) (Nat.le_of_ble_eq_true rfl) rfl rfl rfl ?_
    refine V_if_eq_t F (tgt := 15) dX3_actionOrError_8 (by decide) (by decide) ?_
    refine V_iconst F (v := (-1)) dX3_actionOrError_15 (by decide) ?_
    exact V_iret F dX3_actionOrError_16 (⟨rfl, rfl⟩)
  | some j =>
    obtain ⟨hj, rfl⟩ := pj_some h (by omega)
    have h7 := hX.1.need hj
    refine V_callVNi F (q0 := 1) (c_holds_t hX.2.1 (by omega) hj) mi_X2_holds mm_X2_holds nk_X3_25 dX3_actionOrError_5 (rmR (by omega)) rfl rfl (by decide) (Nat.le_of_ble_eq_true rfl) rfl rfl rfl ?_
    refine V_if_eq_f F (tgt := 15) dX3_actionOrError_8 (by decide) (by decide) ?_
    refine V_iload_n F dX3_actionOrError_11 rfl ?_
    by_cases hm : mv < 0
    · have e : rMv id T n (nI j) mv = -1 := by unfold rMv; rw [h]; simp only [if_pos hm]
      rw [e]
      refine V_if_ge_f F (tgt := 17) dX3_actionOrError_12 (by decide) (fun q => Int32.not_lt.mpr q hm) ?_
      refine V_iconst F (v := (-1)) dX3_actionOrError_15 (by decide) ?_
      exact V_iret F dX3_actionOrError_16 (⟨rfl, rfl⟩)
    · obtain ⟨i, hi, rfl⟩ := nI_of hm
      have e : rMv id T n (nI j) (nI i) = if T 7 j = 0 then ri (mvs T j [])[i]? else -2 := by
        unfold rMv; rw [h]; simp only [if_neg hm, nI_clamp hi]
        cases (mvs T j [])[i]? <;> rfl
      rw [e]
      refine V_if_ge_t F (tgt := 17) dX3_actionOrError_12 (by decide) (nI_ge0 hi) ?_
      refine V_aload_n F dX3_actionOrError_17 rfl ?_
      refine V_getf F (q0 := 0) (j := 0) lk_X3_10 dX3_actionOrError_18 ig_X3 rfl rfl (by decide) rfl rfl ?_
      refine V_iload_n F dX3_actionOrError_21 rfl ?_
      refine V_callVNi F (q0 := 1) (c_isClosed (d := T 7 j) (by omega) (hX.fld 7 rfl (by omega) hj) (by omega)) mi_X2_isClosed mm_X2_isClosed nk_X3_75 dX3_actionOrError_22 (rmR (by omega)) rfl rfl (by decide) (Nat.le_of_ble_eq_true rfl) rfl rfl rfl ?_
      by_cases h0 : T 7 j = 0
      · rw [if_pos h0, if_pos h0]
        refine V_if_eq_f F (tgt := 40) dX3_actionOrError_25 (by decide) (by decide) ?_
        refine V_aload_n F dX3_actionOrError_28 rfl ?_
        refine V_getf F (q0 := 0) (j := 0) lk_X3_10 dX3_actionOrError_29 ig_X3 rfl rfl (by decide) rfl rfl ?_
        refine V_iload_n F dX3_actionOrError_32 rfl ?_
        refine V_iload_n F dX3_actionOrError_33 rfl ?_
        refine V_callVNi F (q0 := 1) (c_actionOf hX hj h0 hi) mi_X2_actionOf mm_X2_actionOf nk_X3_106 dX3_actionOrError_34 (rmR (by omega)) rfl rfl (by decide) (Nat.le_of_ble_eq_true rfl) rfl rfl rfl ?_
        refine V_goto F (tgt := 42) dX3_actionOrError_37 (by decide) ?_
        exact V_iret F dX3_actionOrError_42 (⟨rfl, rfl⟩)
      · rw [if_neg h0, if_neg h0]
        refine V_if_eq_t F (tgt := 40) dX3_actionOrError_25 (by decide) (by decide) ?_
        refine V_bipush F (v := (-2)) dX3_actionOrError_40 (by decide) ?_
        exact V_iret F dX3_actionOrError_42 (⟨rfl, rfl⟩)
/-- the answer about a move: an error below 0, or the action -/
theorem rMv_cases (hX : WF T n) (f : Nat → Nat) (p mv : Int32) : (rMv id T n p mv < 0 ∧ rMv f T n p mv = rMv id T n p mv) ∨ ∃ a, a < n ∧ 0 < a ∧ 1 ≤ T 0 a ∧ T 0 a ≤ 3 ∧ rMv id T n p mv = nI a ∧ rMv f T n p mv = nI (f a) := by
  unfold rMv
  cases h : pj n p with
  | none => exact Or.inl ⟨(by decide : (-1 : Int32) < 0), rfl⟩
  | some j =>
    have hj := (pj_some h (by have := hX.1.2; omega)).1
    simp only
    by_cases hm : mv < 0
    · simp only [if_pos hm]; exact Or.inl ⟨by decide, trivial⟩
    · simp only [if_neg hm]
      by_cases h0 : T 7 j = 0
      · simp only [if_pos h0]
        cases hq : (mvs T j [])[mv.toNatClampNeg]? with
        | none => exact Or.inl ⟨(by decide : (-4 : Int32) < 0), rfl⟩
        | some a =>
          obtain ⟨h1, h2, h3, h4, -⟩ := mvs_at hX hj hq
          exact Or.inr ⟨a, h2, h1, h3, h4, rfl, rfl⟩
      · simp only [if_neg h0]; exact Or.inl ⟨by decide, trivial⟩
theorem c_moveKind (hX : XRep T n μ) (p mv : Int32) : Ct (GS g) l (6) yX3_moveKind cX3_moveKind 4 (some .int) [.ref (g.1 0), .int p, .int mv] μ (Is (.int (rMv (T 0) T n p mv)) μ) := by
  have hn := hX.n24
  refine Ct.of (own := RX3) mi_X3_moveKind rfl [some (.ref (g.1 0)), some (.int p), some (.int mv), none] (Nat.le_of_ble_eq_true rfl) rfl (fun p₀ e₀ s₀ m₀ b₀ h₀ c₀ F => ?_)
  refine V_aload_n F dX3_moveKind_0 rfl ?_
  refine V_iload_n F dX3_moveKind_1 rfl ?_
  refine V_iload_n F dX3_moveKind_2 rfl ?_
  refine V_callVi F (q0 := 0) (c_actionOrError hX p mv) mi_X3_actionOrError mm_X3_actionOrError lk_X3_81 dX3_moveKind_3 (rmR (by omega)) rfl rfl (by decide) (Nat.le_of_ble_eq_true rfl) rfl rfl rfl ?_
  refine V_istore_n F (lv' := [_, _, _, _]) dX3_moveKind_6 (by decide) rfl rfl ?_
  refine V_iload_n F dX3_moveKind_7 rfl ?_
  rcases rMv_cases hX.1 (T 0) p mv with ⟨h1, h2⟩ | ⟨a, ha, -, -, -, h1, h2⟩
  · skip
    refine V_if_ge_f F (tgt := 15) dX3_moveKind_8 (by decide) (fun q => Int32.not_lt.mpr q h1) ?_
    refine V_iload_n F dX3_moveKind_11 rfl ?_
    refine V_goto F (tgt := 26) dX3_moveKind_12 (by decide) ?_
    exact V_iret F dX3_moveKind_26 (⟨by rw [h2], rfl⟩)
  · rw [h1, h2]
    refine V_if_ge_t F (tgt := 15) dX3_moveKind_8 (by decide) (nI_ge0 (by omega)) ?_
    refine V_aload_n F dX3_moveKind_15 rfl ?_
    refine V_getf F (q0 := 0) (j := 0) lk_X3_10 dX3_moveKind_16 ig_X3 rfl rfl (by decide) rfl rfl ?_
    refine V_getN F (q0 := 1) (j := 1) nk_X3_44 dX3_moveKind_19 ig_X2 rfl rfl (by decide) rfl rfl ?_
    refine V_iload_n F dX3_moveKind_22 rfl ?_
    refine V_callSi F (c_at (q := 3) rfl (show a < 24 by omega) (hX.fld 0 rfl (by omega) ha)) mi_X3_at ms_X3_at lk_X3_48 dX3_moveKind_23 (rmR (by omega)) rfl rfl (by decide) (Nat.le_of_ble_eq_true rfl) ?_
    exact V_iret F dX3_moveKind_26 (⟨rfl, rfl⟩)
theorem c_moveTarget (hX : XRep T n μ) (p mv : Int32) : Ct (GS g) l (6) yX3_moveTarget cX3_moveTarget 4 (some .int) [.ref (g.1 0), .int p, .int mv] μ (Is (.int (rMv (T 3) T n p mv)) μ) := by
  have hn := hX.n24
  refine Ct.of (own := RX3) mi_X3_moveTarget rfl [some (.ref (g.1 0)), some (.int p), some (.int mv), none] (Nat.le_of_ble_eq_true rfl) rfl (fun p₀ e₀ s₀ m₀ b₀ h₀ c₀ F => ?_)
  refine V_aload_n F dX3_moveTarget_0 rfl ?_
  refine V_iload_n F dX3_moveTarget_1 rfl ?_
  refine V_iload_n F dX3_moveTarget_2 rfl ?_
  refine V_callVi F (q0 := 0) (c_actionOrError hX p mv) mi_X3_actionOrError mm_X3_actionOrError lk_X3_81 dX3_moveTarget_3 (rmR (by omega)) rfl rfl (by decide) (Nat.le_of_ble_eq_true rfl) rfl rfl rfl ?_
  refine V_istore_n F (lv' := [_, _, _, _]) dX3_moveTarget_6 (by decide) rfl rfl ?_
  refine V_iload_n F dX3_moveTarget_7 rfl ?_
  rcases rMv_cases hX.1 (T 3) p mv with ⟨h1, h2⟩ | ⟨a, ha, -, -, -, h1, h2⟩
  · skip
    refine V_if_ge_f F (tgt := 15) dX3_moveTarget_8 (by decide) (fun q => Int32.not_lt.mpr q h1) ?_
    refine V_iload_n F dX3_moveTarget_11 rfl ?_
    refine V_goto F (tgt := 26) dX3_moveTarget_12 (by decide) ?_
    exact V_iret F dX3_moveTarget_26 (⟨by rw [h2], rfl⟩)
  · rw [h1, h2]
    refine V_if_ge_t F (tgt := 15) dX3_moveTarget_8 (by decide) (nI_ge0 (by omega)) ?_
    refine V_aload_n F dX3_moveTarget_15 rfl ?_
    refine V_getf F (q0 := 0) (j := 0) lk_X3_10 dX3_moveTarget_16 ig_X3 rfl rfl (by decide) rfl rfl ?_
    refine V_getN F (q0 := 1) (j := 4) nk_X3_56 dX3_moveTarget_19 ig_X2 rfl rfl (by decide) rfl rfl ?_
    refine V_iload_n F dX3_moveTarget_22 rfl ?_
    refine V_callSi F (c_at (q := 6) rfl (show a < 24 by omega) (hX.fld 3 rfl (by omega) ha)) mi_X3_at ms_X3_at lk_X3_48 dX3_moveTarget_23 (rmR (by omega)) rfl rfl (by decide) (Nat.le_of_ble_eq_true rfl) ?_
    exact V_iret F dX3_moveTarget_26 (⟨rfl, rfl⟩)
theorem c_moveNames (hX : XRep T n μ) (p mv : Int32) : Ct (GS g) l (6) yX3_moveNames cX3_moveNames 7 (some .int) [.ref (g.1 0), .int p, .int mv] μ (Is (.int (rMv (nmf T) T n p mv)) μ) := by
  have hn := hX.n24
  refine Ct.of (own := RX3) mi_X3_moveNames rfl [some (.ref (g.1 0)), some (.int p), some (.int mv), none, none, none, none] (Nat.le_of_ble_eq_true rfl) rfl (fun p₀ e₀ s₀ m₀ b₀ h₀ c₀ F => ?_)
  refine V_aload_n F dX3_moveNames_0 rfl ?_
  refine V_iload_n F dX3_moveNames_1 rfl ?_
  refine V_iload_n F dX3_moveNames_2 rfl ?_
  refine V_callVi F (q0 := 0) (c_actionOrError hX p mv) mi_X3_actionOrError mm_X3_actionOrError lk_X3_81 dX3_moveNames_3 (rmR (by omega)) rfl rfl (by decide) (Nat.le_of_ble_eq_true rfl) rfl rfl rfl ?_
  refine V_istore_n F (lv' := [_, _, _, _, _, _, _]) dX3_moveNames_6 (by decide) rfl rfl ?_
  refine V_iload_n F dX3_moveNames_7 rfl ?_
  rcases rMv_cases hX.1 (nmf T) p mv with ⟨h1, h2⟩ | ⟨a, ha, h0, hk1, hk3, h1, h2⟩
  · skip
    refine V_if_ge_f F (tgt := 13) dX3_moveNames_8 (by decide) (fun q => Int32.not_lt.mpr q h1) ?_
    refine V_iload_n F dX3_moveNames_11 rfl ?_
    exact V_iret F dX3_moveNames_12 (⟨by rw [h2], rfl⟩)
  · rw [h1, h2]
    have hnm := hX.1.name ha
    refine V_if_ge_t F (tgt := 13) dX3_moveNames_8 (by decide) (nI_ge0 (by omega)) ?_
    refine V_aload_n F dX3_moveNames_13 rfl ?_
    refine V_getf F (q0 := 0) (j := 0) lk_X3_10 dX3_moveNames_14 ig_X3 rfl rfl (by decide) rfl rfl ?_
    refine V_getN F (q0 := 1) (j := 1) nk_X3_44 dX3_moveNames_17 ig_X2 rfl rfl (by decide) rfl rfl ?_
    refine V_iload_n F dX3_moveNames_20 rfl ?_
    refine V_callSi F (c_at (q := 3) rfl (show a < 24 by omega) (hX.fld 0 rfl (by omega) ha)) mi_X3_at ms_X3_at lk_X3_48 dX3_moveNames_21 (rmR (by omega)) rfl rfl (by decide) (Nat.le_of_ble_eq_true rfl) ?_
    refine V_istore F (lv' := [_, _, _, _, _, _, _]) dX3_moveNames_24 (by decide) rfl rfl ?_
    refine V_iload F dX3_moveNames_26 rfl ?_
    refine V_iconst F (v := nI 1) dX3_moveNames_28 (by decide) ?_
    refine V_icmp_ne_N F (tgt := 37) dX3_moveNames_29 (by decide) (by omega) (by omega) (fun hk => ?_) (fun hk => ?_)
    · skip
      refine V_aload_n F dX3_moveNames_37 rfl ?_
      refine V_getf F (q0 := 0) (j := 0) lk_X3_10 dX3_moveNames_38 ig_X3 rfl rfl (by decide) rfl rfl ?_
      refine V_getN F (q0 := 1) (j := 2) nk_X3_84 dX3_moveNames_41 ig_X2 rfl rfl (by decide) rfl rfl ?_
      refine V_iload_n F dX3_moveNames_44 rfl ?_
      refine V_callSi F (c_at (q := 4) rfl (show a < 24 by omega) (hX.fld 1 rfl (by omega) ha)) mi_X3_at ms_X3_at lk_X3_48 dX3_moveNames_45 (rmR (by omega)) rfl rfl (by decide) (Nat.le_of_ble_eq_true rfl) ?_
      refine V_istore F (lv' := [_, _, _, _, _, _, _]) dX3_moveNames_48 (by decide) rfl rfl ?_
      refine V_iload F dX3_moveNames_50 rfl ?_
      refine V_iconst F (v := nI 2) dX3_moveNames_52 (by decide) ?_
      refine V_icmp_ne_N F (tgt := 70) dX3_moveNames_53 (by decide) (by omega) (by omega) (fun hk2 => ?_) (fun hk2 => ?_)
      · skip
        refine V_bipush F (v := nI 9) dX3_moveNames_70 (by decide) ?_
        refine V_istore F (lv' := [_, _, _, _, _, _, _]) dX3_moveNames_72 (by decide) rfl rfl ?_
        refine V_bipush F (v := nI 10) dX3_moveNames_74 (by decide) ?_
        refine V_iload F dX3_moveNames_76 rfl ?_
        (first | refine V_imulN F dX3_moveNames_78 ?_ | refine V_imul F dX3_moveNames_78 ?_)
        refine V_iload F dX3_moveNames_79 rfl ?_
        (first | refine V_iaddN F dX3_moveNames_81 ?_ | refine V_iadd F dX3_moveNames_81 ?_)
        exact V_iret F dX3_moveNames_82 (⟨by rw [nmf, if_neg hk, if_neg hk2], rfl⟩)
      · skip
        refine V_aload_n F dX3_moveNames_56 rfl ?_
        refine V_getf F (q0 := 0) (j := 0) lk_X3_10 dX3_moveNames_57 ig_X3 rfl rfl (by decide) rfl rfl ?_
        refine V_getN F (q0 := 1) (j := 3) nk_X3_87 dX3_moveNames_60 ig_X2 rfl rfl (by decide) rfl rfl ?_
        refine V_iload_n F dX3_moveNames_63 rfl ?_
        refine V_callSi F (c_at (q := 5) rfl (show a < 24 by omega) (hX.fld 2 rfl (by omega) ha)) mi_X3_at ms_X3_at lk_X3_48 dX3_moveNames_64 (rmR (by omega)) rfl rfl (by decide) (Nat.le_of_ble_eq_true rfl) ?_
        refine V_goto F (tgt := 72) dX3_moveNames_67 (by decide) ?_
        refine V_istore F (lv' := [_, _, _, _, _, _, _]) dX3_moveNames_72 (by decide) rfl rfl ?_
        refine V_bipush F (v := nI 10) dX3_moveNames_74 (by decide) ?_
        refine V_iload F dX3_moveNames_76 rfl ?_
        (first | refine V_imulN F dX3_moveNames_78 ?_ | refine V_imul F dX3_moveNames_78 ?_)
        refine V_iload F dX3_moveNames_79 rfl ?_
        (first | refine V_iaddN F dX3_moveNames_81 ?_ | refine V_iadd F dX3_moveNames_81 ?_)
        exact V_iret F dX3_moveNames_82 (⟨by rw [nmf, if_neg hk, if_pos (Classical.not_not.mp hk2)], rfl⟩)
    · have hk := Classical.not_not.mp hk
      refine V_bipush F (v := nI 9) dX3_moveNames_32 (by decide) ?_
      refine V_goto F (tgt := 48) dX3_moveNames_34 (by decide) ?_
      refine V_istore F (lv' := [_, _, _, _, _, _, _]) dX3_moveNames_48 (by decide) rfl rfl ?_
      refine V_iload F dX3_moveNames_50 rfl ?_
      refine V_iconst F (v := nI 2) dX3_moveNames_52 (by decide) ?_
      refine V_icmp_ne_N F (tgt := 70) dX3_moveNames_53 (by decide) (by omega) (by omega) (fun hk2 => ?_) (fun hk2 => ?_)
      · skip
        refine V_bipush F (v := nI 9) dX3_moveNames_70 (by decide) ?_
        refine V_istore F (lv' := [_, _, _, _, _, _, _]) dX3_moveNames_72 (by decide) rfl rfl ?_
        refine V_bipush F (v := nI 10) dX3_moveNames_74 (by decide) ?_
        refine V_iload F dX3_moveNames_76 rfl ?_
        (first | refine V_imulN F dX3_moveNames_78 ?_ | refine V_imul F dX3_moveNames_78 ?_)
        refine V_iload F dX3_moveNames_79 rfl ?_
        (first | refine V_iaddN F dX3_moveNames_81 ?_ | refine V_iadd F dX3_moveNames_81 ?_)
        exact V_iret F dX3_moveNames_82 (⟨by rw [nmf, if_pos hk], rfl⟩)
      · omega
end QUERY
end
section
section STRROWS
variable {G : Geo} {p : Program} {l : Launch} {e : Env} {R : Room} {s : State} {m : MethodId} {args : Array Value} {below : List Frame} {meth : Method} {c : Code} {k n : Nat} {Z : State → Prop} {own : String} {cc : ByteArray} {nL pc : Nat} {ret : Option FieldType} {lv : List (Option Value)} {st : List Value} {μ : Mem}
theorem V_compact (F : Fx G p R s m args meth c own cc nL ret k n) {index : Nat} (hlink : Cond.fieldLink own index "java/lang/String" "COMPACT_STRINGS" "Z" ∈ wsG) (d : decode cc pc = .ok (.getstatic index, 3)) (kk : V G p l e R s m args below meth c nL k n Z (pc + 3) lv (.int 1 :: st) μ) : V G p l e R s m args below meth c nL k n Z pc lv st μ := by
  intro H locs ls hP hS hl
  exact va_gets F.1 F.2.1 F.2.2.2.2.2.2.2.1.2.2.2.2.2.1 hS F.2.2.2.2.2.1 (F.2.2.2.2.2.2.1 _ hlink) (fun _ h => h) d (kk H locs ls hP hS hl)
theorem V_sioobe (F : Fx G p R s m args meth c own cc nL ret k n) {index : Nat} (hlink : Cond.fieldLink own index "jdk/internal/util/Preconditions" "SIOOBE_FORMATTER" "Ljava/util/function/BiFunction;" ∈ wsG) (d : decode cc pc = .ok (.getstatic index, 3)) (kn : V G p l e R s m args below meth c nL k n Z (pc + 3) lv (.null :: st) μ) (kr : ∀ t, V G p l e R s m args below meth c nL k n Z (pc + 3) lv (.ref t :: st) μ) : V G p l e R s m args below meth c nL k n Z pc lv st μ := by
  intro H locs ls hP hS hl
  rcases F.2.2.2.2.2.2.2.1.2.2.2.2.2.2 with h | ⟨t, h⟩
  · exact va_gets F.1 F.2.1 h hS F.2.2.2.2.2.1 (F.2.2.2.2.2.2.1 _ hlink) (fun _ h => h) d (kn H locs ls hP hS hl)
  · exact va_gets F.1 F.2.1 h hS F.2.2.2.2.2.1 (F.2.2.2.2.2.2.1 _ hlink) (fun _ h => h) d (kr t H locs ls hP hS hl)
theorem V_svalue (F : Fx G p R s m args meth c own cc nL ret k n) {i index : Nat} (hi : i < 6) (hlink : Cond.fieldLink own index "java/lang/String" "value" "[B" ∈ wsG) (d : decode cc pc = .ok (.getfield index, 3)) (kk : V G p l e R s m args below meth c nL k n Z (pc + 3) lv (.ref (gV G i) :: st) μ) : V G p l e R s m args below meth c nL k n Z pc lv (.ref (gK G i) :: st) μ := by
  intro H locs ls hP hS hl
  exact vk_getf F.1 F.2.1 (F.2.2.2.2.2.2.2.1.2.2.2.1.1 i hi).2.2.1 hS F.2.2.2.2.2.1 (F.2.2.2.2.2.2.1 _ hlink) (fun _ h => h) d (kk H locs ls hP hS hl)
theorem V_scoder (F : Fx G p R s m args meth c own cc nL ret k n) {i index : Nat} (hi : i < 6) (hlink : Cond.fieldLink own index "java/lang/String" "coder" "B" ∈ wsG) (d : decode cc pc = .ok (.getfield index, 3)) (kk : V G p l e R s m args below meth c nL k n Z (pc + 3) lv (.int 0 :: st) μ) : V G p l e R s m args below meth c nL k n Z pc lv (.ref (gK G i) :: st) μ := by
  intro H locs ls hP hS hl
  exact vk_getf F.1 F.2.1 (F.2.2.2.2.2.2.2.1.2.2.2.1.1 i hi).2.1 hS F.2.2.2.2.2.1 (F.2.2.2.2.2.2.1 _ hlink) (fun _ h => h) d (kk H locs ls hP hS hl)
theorem V_slen (F : Fx G p R s m args meth c own cc nL ret k n) {i : Nat} (hi : i < 6) (d : decode cc pc = .ok (.arraylength, 1)) (kk : V G p l e R s m args below meth c nL k n Z (pc + 1) lv (.int (nI (sLen.getD i 0)) :: st) μ) : V G p l e R s m args below meth c nL k n Z pc lv (.ref (gV G i) :: st) μ := by
  intro H locs ls hP hS hl
  exact va_tlen F.1 F.2.1 (F.2.2.2.2.2.2.2.1.2.2.2.1.1 i hi).2.2.2 hS rfl d (kk H locs ls hP hS hl)
theorem V_sbald (F : Fx G p R s m args meth c own cc nL ret k n) {i j : Nat} (hi : i < 6) (hj : j < sLen.getD i 0) (hj2 : j < 2 ^ 30) (d : decode cc pc = .ok (.baload, 1)) (kk : V G p l e R s m args below meth c nL k n Z (pc + 1) lv (.int ((sByt.getD i []).getD j 0) :: st) μ) : V G p l e R s m args below meth c nL k n Z pc lv (.int (nI j) :: .ref (gV G i) :: st) μ := by
  intro H locs ls hP hS hl
  refine va_tb F.1 F.2.1 (F.2.2.2.2.2.2.2.1.2.2.2.1.1 i hi).2.2.2 hS ?_ (v := .int ((sByt.getD i []).getD j 0)) (by rw [nI_clamp (by omega)]) d (kk H locs ls hP hS hl)
  refine vp_in_nI hj ?_
  have : ∀ i, i < 6 → sLen.getD i 0 < 2 ^ 31 := by decide +kernel
  exact this i hi
/-- a call on a String constant -/
theorem V_callK (F : Fx G p R s m args meth c own cc nL ret k n) {y : MethodName} {b : ByteArray} {nLc dp index j i : Nat} {retc : Option FieldType} {As : List Value} {v : Value} (hi : i < 6) (hC : Ct G l dp y b nLc retc (.ref (gK G i) :: As) μ (Is v μ)) (hM : MI y b nLc retc j) (hs : Cond.instanceMethod y ∈ wsG ∧ Cond.selects y.cls y y ∈ wsG) (hlink : Cond.methodLink own index y ∈ wsG) (d : decode cc pc = .ok (.invokevirtual index, 3)) (hR : dp + 1 ≤ R.frames ∧ (dp + 1) * 40 ≤ R.locals) {st0 : List Value} (hst : st0 = As.reverse ++ .ref (gK G i) :: st) (hn : As.length = j) (hnl : nLc ≤ 21) (hw : (st.map fun v => v.category).sum ≤ 8)
    (hqc : "java/lang/String" = y.cls) (kk : V G p l e R s m args below meth c nL k n Z (pc + 3) lv (v :: st) μ) : V G p l e R s m args below meth c nL k n Z pc lv st0 μ := by
  refine V_run (st := st) (As := (Value.ref (gK G i) :: As).toArray) (Qc := Is v μ) (fun H locs ls hP hS hz => ?_) (fun r μ' h => by obtain ⟨rfl, rfl⟩ := h; exact kk)
  subst hst
  exact va_runV ⟨F.1, F.2.1, F.2.2.2.2.1, F.2.2.2.2.2.1, F.2.2.2.2.2.2.1⟩ hC ⟨callB_of j F.2.2.2.2.2.2.1 (good_code hM.1) rfl rfl rfl (F.2.2.2.2.2.2.1 _ hM.2.1) (F.2.2.2.2.2.2.1 _ hlink) hM.2.2.1 (room_ok hR hnl), F.2.2.2.2.2.2.1 _ hs.1, F.2.2.2.2.2.2.1 _ hs.2⟩
    ⟨Pp.blind, hqc ▸ vk_recv F.2.2.2.2.2.2.2.1.2.2.2.1 hi hS, fun U hU hW => ⟨rfl, by rw [hU]; exact hP, by rw [hU]; exact F.2.2.2.2.2.2.2.1.step hS hW⟩⟩ rfl hn hz rfl (lv_room hw) d F.2.2.2.2.2.2.2.2
end STRROWS
section STR
variable {G : Geo} {g : Gm} {l : Launch} {μ : Mem}
theorem c_coder {i : Nat} (hi : i < 6) : Ct G l (0) yJ0_coder_7d493 cJ0_coder_7d493 1 (some .byte) [.ref (gK G i)] μ (Is (.int 0) μ) := by
  refine Ct.of (own := RJ0) mi_J0_coder_7d493 rfl [some (.ref (gK G i))] (Nat.le_of_ble_eq_true rfl) rfl (fun p₀ e₀ s₀ m₀ b₀ h₀ c₀ F => ?_)
  refine V_compact F lk_J0_38 dJ0_coder_7d493_0 ?_
  refine V_if_eq_f F (tgt := 13) dJ0_coder_7d493_3 (by decide) (by decide) ?_
  refine V_aload_n F dJ0_coder_7d493_6 rfl ?_
  refine V_scoder F hi lk_J0_15 dJ0_coder_7d493_7 ?_
  refine V_goto F (tgt := 14) dJ0_coder_7d493_10 (by decide) ?_
  exact V_xret F dJ0_coder_7d493_14 (rfl) (⟨rfl, rfl⟩)
theorem c_slen {i : Nat} (hi : i < 6) : Ct G l (1) yJ0_length_8abf5 cJ0_length_8abf5 1 (some .int) [.ref (gK G i)] μ (Is (.int (nI (sLen.getD i 0))) μ) := by
  have hb : ∀ i, i < 6 → sLen.getD i 0 < 2 ^ 31 := by decide +kernel
  refine Ct.of (own := RJ0) mi_J0_length_8abf5 rfl [some (.ref (gK G i))] (Nat.le_of_ble_eq_true rfl) rfl (fun p₀ e₀ s₀ m₀ b₀ h₀ c₀ F => ?_)
  refine V_aload_n F dJ0_length_8abf5_0 rfl ?_
  refine V_svalue F hi lk_J0_9 dJ0_length_8abf5_1 ?_
  refine V_slen F hi dJ0_length_8abf5_4 ?_
  refine V_aload_n F dJ0_length_8abf5_5 rfl ?_
  refine V_callK F hi (c_coder hi) mi_J0_coder_7d493 mm_J0_coder_7d493 lk_J0_335 dJ0_length_8abf5_6 (rmR (by omega)) rfl rfl (by decide) (Nat.le_of_ble_eq_true rfl) rfl ?_
  refine V_ishr F dJ0_length_8abf5_9 ?_
  refine V_val F (sc_shr0 (hb i hi)) ?_
  exact V_iret F dJ0_length_8abf5_10 (⟨rfl, rfl⟩)
theorem c_isLatin1 {i : Nat} (hi : i < 6) : Ct G l (0) yJ0_isLatin1_aae02 cJ0_isLatin1_aae02 1 (some .boolean) [.ref (gK G i)] μ (Is (.int (nI 1)) μ) := by
  refine Ct.of (own := RJ0) mi_J0_isLatin1_aae02 rfl [some (.ref (gK G i))] (Nat.le_of_ble_eq_true rfl) rfl (fun p₀ e₀ s₀ m₀ b₀ h₀ c₀ F => ?_)
  refine V_compact F lk_J0_38 dJ0_isLatin1_aae02_0 ?_
  refine V_if_eq_f F (tgt := 17) dJ0_isLatin1_aae02_3 (by decide) (by decide) ?_
  refine V_aload_n F dJ0_isLatin1_aae02_6 rfl ?_
  refine V_scoder F hi lk_J0_15 dJ0_isLatin1_aae02_7 ?_
  refine V_if_ne_f F (tgt := 17) dJ0_isLatin1_aae02_10 (by decide) (by decide) ?_
  refine V_iconst F (v := nI 1) dJ0_isLatin1_aae02_13 (by decide) ?_
  refine V_goto F (tgt := 18) dJ0_isLatin1_aae02_14 (by decide) ?_
  exact V_zret F dJ0_isLatin1_aae02_18 (rfl) (⟨rfl, rfl⟩)
theorem c_check3 {i n : Nat} (hi : i < n) (hn : n < 2 ^ 31) {v : Value} (hv : v.category = 1) : Ct G l (0) yJ3_checkIndex_8e157 cJ3_checkIndex_8e157 3 (some .int) [.int (nI i), .int (nI n), v] μ (Is (.int (nI i)) μ) := by
  refine Ct.of (own := RJ3) mi_J3_checkIndex_8e157 rfl [some (.int (nI i)), some (.int (nI n)), some v] ?_ rfl (fun p₀ e₀ s₀ m₀ b₀ h₀ c₀ F => ?_)
  · cases v <;> first | exact Nat.le_of_ble_eq_true rfl | cases hv
  refine V_iload_n F dJ3_checkIndex_8e157_0 rfl ?_
  refine V_if_lt_f F (tgt := 9) dJ3_checkIndex_8e157_1 (by decide) (nI_nn (by omega)) ?_
  refine V_iload_n F dJ3_checkIndex_8e157_4 rfl ?_
  refine V_iload_n F dJ3_checkIndex_8e157_5 rfl ?_
  refine V_icmp_lt_t F (tgt := 16) dJ3_checkIndex_8e157_6 (by decide) ((nI_ltI (by omega) hn).mpr hi) ?_
  refine V_iload_n F dJ3_checkIndex_8e157_16 rfl ?_
  exact V_iret F dJ3_checkIndex_8e157_17 (⟨rfl, rfl⟩)
theorem c_check2 {i n : Nat} (hi : i < n) (hn : n < 2 ^ 31) : Ct G l (1) yJ0_checkIndex_df160 cJ0_checkIndex_df160 2 none [.int (nI i), .int (nI n)] μ (IsN μ) := by
  refine Ct.of (own := RJ0) mi_J0_checkIndex_df160 rfl [some (.int (nI i)), some (.int (nI n))] (Nat.le_of_ble_eq_true rfl) rfl (fun p₀ e₀ s₀ m₀ b₀ h₀ c₀ F => ?_)
  refine V_iload_n F dJ0_checkIndex_df160_0 rfl ?_
  refine V_iload_n F dJ0_checkIndex_df160_1 rfl ?_
  refine V_sioobe F lk_J0_1053 dJ0_checkIndex_df160_2 ?_ (fun t => ?_)
  · skip
    refine V_callSi F (c_check3 hi hn (v := .null) rfl) mi_J3_checkIndex_8e157 ms_J3_checkIndex_8e157 lk_J0_1059 dJ0_checkIndex_df160_5 (rmR (by omega)) rfl rfl (by decide) (Nat.le_of_ble_eq_true rfl) ?_
    refine V_pop F dJ0_checkIndex_df160_8 rfl ?_
    exact V_vret F dJ0_checkIndex_df160_9 (⟨rfl, rfl⟩)
  · skip
    refine V_callSi F (c_check3 hi hn (v := .ref t) rfl) mi_J3_checkIndex_8e157 ms_J3_checkIndex_8e157 lk_J0_1059 dJ0_checkIndex_df160_5 (rmR (by omega)) rfl rfl (by decide) (Nat.le_of_ble_eq_true rfl) ?_
    refine V_pop F dJ0_checkIndex_df160_8 rfl ?_
    exact V_vret F dJ0_checkIndex_df160_9 (⟨rfl, rfl⟩)
def sCod : List (List Nat) := [[116, 46], [120, 33, 121, 46], [120, 63, 46], [91, 120, 61, 121, 93], [40], [48]]
theorem sCod_ok : ∀ i, i < 6 → ∀ j, j < sLen.getD i 0 → ((((sByt.getD i []).getD j 0) &&& nI 255).toUInt32 % 65536).toInt32 = nI ((sCod.getD i []).getD j 0) ∧ narrow .char (.int (nI ((sCod.getD i []).getD j 0))) = .int (nI ((sCod.getD i []).getD j 0)) := by decide +kernel
theorem sLen_b : ∀ i, i < 6 → sLen.getD i 0 ≤ 5 := by decide +kernel
theorem c_char1 {i j : Nat} (hi : i < 6) (hj : j < sLen.getD i 0) : Ct G l (2) yJ1_charAt_3b067 cJ1_charAt_3b067 2 (some .char) [.ref (gV G i), .int (nI j)] μ (Is (.int (nI ((sCod.getD i []).getD j 0))) μ) := by
  have hb := sLen_b i hi
  have hc := sCod_ok i hi j hj
  refine Ct.of (own := RJ1) mi_J1_charAt_3b067 rfl [some (.ref (gV G i)), some (.int (nI j))] (Nat.le_of_ble_eq_true rfl) rfl (fun p₀ e₀ s₀ m₀ b₀ h₀ c₀ F => ?_)
  refine V_iload_n F dJ1_charAt_3b067_0 rfl ?_
  refine V_aload_n F dJ1_charAt_3b067_1 rfl ?_
  refine V_slen F hi dJ1_charAt_3b067_2 ?_
  refine V_callS0 F (c_check2 hj (by omega)) mi_J0_checkIndex_df160 ms_J0_checkIndex_df160 lk_J1_9 dJ1_charAt_3b067_3 (rmR (by omega)) rfl rfl (by decide) (Nat.le_of_ble_eq_true rfl) ?_
  refine V_aload_n F dJ1_charAt_3b067_6 rfl ?_
  refine V_iload_n F dJ1_charAt_3b067_7 rfl ?_
  refine V_sbald F hi hj (by omega) dJ1_charAt_3b067_8 ?_
  refine V_sipush F (v := nI 255) dJ1_charAt_3b067_9 (by decide) ?_
  refine V_iand F dJ1_charAt_3b067_12 ?_
  refine V_i2c F dJ1_charAt_3b067_13 ?_
  refine V_val F (hc.1) ?_
  exact V_xret F dJ1_charAt_3b067_14 (hc.2) (⟨rfl, rfl⟩)
theorem c_charAt {i j : Nat} (hi : i < 6) (hj : j < sLen.getD i 0) : Ct G l (4) yJ0_charAt_5068e cJ0_charAt_5068e 2 (some .char) [.ref (gK G i), .int (nI j)] μ (Is (.int (nI ((sCod.getD i []).getD j 0))) μ) := by
  have hc := sCod_ok i hi j hj
  refine Ct.of (own := RJ0) mi_J0_charAt_5068e rfl [some (.ref (gK G i)), some (.int (nI j))] (Nat.le_of_ble_eq_true rfl) rfl (fun p₀ e₀ s₀ m₀ b₀ h₀ c₀ F => ?_)
  refine V_aload_n F dJ0_charAt_5068e_0 rfl ?_
  refine V_callK F hi (c_isLatin1 hi) mi_J0_isLatin1_aae02 mm_J0_isLatin1_aae02 lk_J0_492 dJ0_charAt_5068e_1 (rmR (by omega)) rfl rfl (by decide) (Nat.le_of_ble_eq_true rfl) rfl ?_
  refine V_if_eq_f F (tgt := 16) dJ0_charAt_5068e_4 (by decide) (by decide) ?_
  refine V_aload_n F dJ0_charAt_5068e_7 rfl ?_
  refine V_svalue F hi lk_J0_9 dJ0_charAt_5068e_8 ?_
  refine V_iload_n F dJ0_charAt_5068e_11 rfl ?_
  refine V_callSi F (c_char1 hi hj) mi_J1_charAt_3b067 ms_J1_charAt_3b067 lk_J0_495 dJ0_charAt_5068e_12 (rmR (by omega)) rfl rfl (by decide) (Nat.le_of_ble_eq_true rfl) ?_
  exact V_xret F dJ0_charAt_5068e_15 (hc.2) (⟨rfl, rfl⟩)
/-- which constant stands ahead of a process of a kind -/
def hix : Nat → Nat
  | 1 => 0
  | 2 => 1
  | 3 => 2
  | 4 => 3
  | 5 => 4
  | _ => 5
theorem hix_len : ∀ k, k < 6 → sLen.getD (hix k) 0 = hdl k ∧ hix k < 6 := by decide +kernel
theorem c_headOf {k : Nat} (hk : k < 6) : Ct G l (0) yX2_headOf cX2_headOf 1 (some (.object "java/lang/String")) [.int (nI k)] μ (Is (.ref (gK G (hix k))) μ) := by
  have e : (nI k).toInt = (k : Int) := nI_toInt (by omega)
  refine Ct.of (own := RX2) mi_X2_headOf rfl [some (.int (nI k))] (Nat.le_of_ble_eq_true rfl) rfl (fun p₀ e₀ s₀ m₀ b₀ h₀ c₀ F => ?_)
  refine V_iload_n F dX2_headOf_0 rfl ?_
  rcases (by omega : k = 0 ∨ k = 1 ∨ k = 2 ∨ k = 3 ∨ k = 4 ∨ k = 5) with rfl | rfl | rfl | rfl | rfl | rfl
  · refine V_tableOut F (tgt := 51) dX2_headOf_1 (by rw [e]; omega) (by decide) ?_
    refine V_ldcS F (i := 5) (by decide) rfl dX2_headOf_51 ?_
    exact V_aret F dX2_headOf_53 (⟨rfl, rfl⟩)
  · refine V_tableIn F (off := 35) (tgt := 36) dX2_headOf_1 (by rw [e]; omega) (by rw [e]; omega) (by rw [e]; rfl) (by decide) ?_
    refine V_ldcS F (i := 0) (by decide) rfl dX2_headOf_36 ?_
    exact V_aret F dX2_headOf_38 (⟨rfl, rfl⟩)
  · refine V_tableIn F (off := 38) (tgt := 39) dX2_headOf_1 (by rw [e]; omega) (by rw [e]; omega) (by rw [e]; rfl) (by decide) ?_
    refine V_ldcS F (i := 1) (by decide) rfl dX2_headOf_39 ?_
    exact V_aret F dX2_headOf_41 (⟨rfl, rfl⟩)
  · refine V_tableIn F (off := 41) (tgt := 42) dX2_headOf_1 (by rw [e]; omega) (by rw [e]; omega) (by rw [e]; rfl) (by decide) ?_
    refine V_ldcS F (i := 2) (by decide) rfl dX2_headOf_42 ?_
    exact V_aret F dX2_headOf_44 (⟨rfl, rfl⟩)
  · refine V_tableIn F (off := 44) (tgt := 45) dX2_headOf_1 (by rw [e]; omega) (by rw [e]; omega) (by rw [e]; rfl) (by decide) ?_
    refine V_ldcS F (i := 3) (by decide) rfl dX2_headOf_45 ?_
    exact V_aret F dX2_headOf_47 (⟨rfl, rfl⟩)
  · refine V_tableIn F (off := 47) (tgt := 48) dX2_headOf_1 (by rw [e]; omega) (by rw [e]; omega) (by rw [e]; rfl) (by decide) ?_
    refine V_ldcS F (i := 4) (by decide) rfl dX2_headOf_48 ?_
    exact V_aret F dX2_headOf_50 (⟨rfl, rfl⟩)
end STR
end
section
section TEXTS
variable {T : Tb} {n : Nat}
def lt1 (x : Nat) : Nat := if x < 3 then 97 + x else 45 + x
/-- a sign ahead of a process's first part -/
def hch (T : Tb) (p i : Nat) : Nat := if (sCod.getD (hix (T 0 p)) []).getD i 0 = 120 then lt1 (T 1 p) else if (sCod.getD (hix (T 0 p)) []).getD i 0 = 121 then lt1 (T 2 p) else (sCod.getD (hix (T 0 p)) []).getD i 0
def chrF (T : Tb) : Nat → Nat → Nat → Nat
  | 0, _, _ => 0
  | f + 1, p, i => if i < hdl (T 0 p) then hch T p i else
    if i - hdl (T 0 p) < T 8 (T 3 p) then chrF T f (T 3 p) (i - hdl (T 0 p)) else
    if i - hdl (T 0 p) = T 8 (T 3 p) then 43 else
    if i - hdl (T 0 p) - (T 8 (T 3 p) + 1) < T 8 (T 4 p) then chrF T f (T 4 p) (i - hdl (T 0 p) - (T 8 (T 3 p) + 1)) else 41
def chr (T : Tb) (p i : Nat) : Nat := chrF T (p + 1) p i
theorem chrF_eq (hW : WF T n) : ∀ (p : Nat), p < n → ∀ f i, p < f → i < T 8 p → chrF T f p i = chr T p i := by
  intro p
  induction p using Nat.strongRecOn with
  | ind p ih =>
    intro hp f i hf hi
    obtain ⟨f, rfl⟩ : ∃ k, f = k + 1 := ⟨f - 1, by omega⟩
    unfold chr
    simp only [chrF]
    split
    · rfl
    · rename_i h0
      rcases Nat.eq_zero_or_pos p with h | h
      · subst h
        obtain ⟨-, ⟨k0, -, -, -, -, -, -, -, h8⟩, -⟩ := hW
        rw [k0] at h0
        simp only [hdl] at h0
        omega
      · obtain ⟨⟨-, -, -, -, h3, h4⟩, -⟩ := hW.2.2 p h hp
        split
        · rename_i h1
          rw [ih _ h3 (by omega) f _ (by omega) h1, ih _ h3 (by omega) p _ (by omega) h1]
        · split
          · rfl
          · split
            · rename_i h1
              rw [ih _ h4 (by omega) f _ (by omega) h1, ih _ h4 (by omega) p _ (by omega) h1]
            · rfl
theorem chr_eq (hW : WF T n) {p i : Nat} (hp : p < n) (hi : i < T 8 p) : chr T p i = if i < hdl (T 0 p) then hch T p i else
    if i - hdl (T 0 p) < T 8 (T 3 p) then chr T (T 3 p) (i - hdl (T 0 p)) else
    if i - hdl (T 0 p) = T 8 (T 3 p) then 43 else
    if i - hdl (T 0 p) - (T 8 (T 3 p) + 1) < T 8 (T 4 p) then chr T (T 4 p) (i - hdl (T 0 p) - (T 8 (T 3 p) + 1)) else 41 := by
  conv => lhs; unfold chr
  simp only [chrF]
  split
  · rfl
  · rename_i h0
    rcases Nat.eq_zero_or_pos p with h | h
    · subst h
      obtain ⟨-, ⟨k0, -, -, -, -, -, -, -, h8⟩, -⟩ := hW
      rw [k0] at h0
      simp only [hdl] at h0
      omega
    · obtain ⟨⟨-, -, -, -, h3, h4⟩, -⟩ := hW.2.2 p h hp
      split
      · rename_i h1
        rw [chrF_eq hW _ (by omega) p _ (by omega) h1]
      · split
        · rfl
        · split
          · rename_i h1
            rw [chrF_eq hW _ (by omega) p _ (by omega) h1]
          · rfl
/-- behind a head: a process that is not 0 -/
theorem beyond (hW : WF T n) {p i : Nat} (hp : p < n) (hi : i < T 8 p) (hh : ¬ i < hdl (T 0 p)) : 0 < p ∧ T 3 p < p ∧ T 4 p < p ∧ T 8 p = hdl (T 0 p) + T 8 (T 3 p) + (if T 0 p = 5 then T 8 (T 4 p) + 2 else 0) := by
  rcases Nat.eq_zero_or_pos p with h | h
  · subst h
    obtain ⟨-, ⟨k0, -, -, -, -, -, -, -, h8⟩, -⟩ := hW
    rw [k0] at hh
    simp only [hdl] at hh
    omega
  · obtain ⟨⟨-, -, -, -, h3, h4⟩, -, -, -, -, h8⟩ := hW.2.2 p h hp
    exact ⟨h, h3, h4, h8⟩
def rTx (T : Tb) (n : Nat) (p i : Int32) : Int32 := match pj n p with
  | none => -1
  | some j => if i < 0 then -1 else if T 8 j ≤ i.toNatClampNeg then -4 else nI (chr T j i.toNatClampNeg)
theorem sCod_le : ∀ i, i < 6 → ∀ j, j < sLen.getD i 0 → (sCod.getD i []).getD j 0 < 128 := by decide +kernel
end TEXTS
section TEXT
variable {g : Gm} {l : Launch} {μ : Mem} {T : Tb} {n : Nat}
theorem c_headChar {p i : Nat} (hX : XRep T n μ) (hp : p < n) (hi : i < hdl (T 0 p)) : Ct (GS g) l (5) yX2_headCharacter cX2_headCharacter 5 (some .int) [.ref (g.1 1), .int (nI p), .int (nI i)] μ (Is (.int (nI (hch T p i))) μ) := by
  have hn := hX.n24
  have hk := hX.1.kind hp
  have hnm := hX.1.name hp
  obtain ⟨hx1, hx2⟩ := hix_len (T 0 p) (by omega)
  have hb := hdl_le (T 0 p)
  have hc := sCod_le (hix (T 0 p)) hx2 i (by omega)
  refine Ct.of (own := RX2) mi_X2_headCharacter rfl [some (.ref (g.1 1)), some (.int (nI p)), some (.int (nI i)), none, none] (Nat.le_of_ble_eq_true rfl) rfl (fun p₀ e₀ s₀ m₀ b₀ h₀ c₀ F => ?_)
  refine V_aload_n F dX2_headCharacter_0 rfl ?_
  refine V_getf F (q0 := 1) (j := 1) lk_X2_9 dX2_headCharacter_1 ig_X2 rfl rfl (by decide) rfl rfl ?_
  refine V_iload_n F dX2_headCharacter_4 rfl ?_
  refine V_callSNi F (c_at (q := 3) rfl (show p < 24 by omega) (hX.fld 0 rfl (by omega) hp)) mi_X3_at ms_X3_at nk_X2_68 dX2_headCharacter_5 (rmR (by omega)) rfl rfl (by decide) (Nat.le_of_ble_eq_true rfl) ?_
  refine V_callSi F (c_headOf (by omega)) mi_X2_headOf ms_X2_headOf lk_X2_54 dX2_headCharacter_8 (rmR (by omega)) rfl rfl (by decide) (Nat.le_of_ble_eq_true rfl) ?_
  refine V_astore_n F (lv' := [_, _, _, _, _]) dX2_headCharacter_11 (by decide) rfl rfl ?_
  refine V_iload_n F dX2_headCharacter_12 rfl ?_
  refine V_if_lt_f F (tgt := 24) dX2_headCharacter_13 (by decide) (nI_nn (by omega)) ?_
  refine V_iload_n F dX2_headCharacter_16 rfl ?_
  refine V_aload_n F dX2_headCharacter_17 rfl ?_
  refine V_callK F hx2 (c_slen hx2) mi_J0_length_8abf5 mm_J0_length_8abf5 lk_X2_58 dX2_headCharacter_18 (rmR (by omega)) rfl rfl (by decide) (Nat.le_of_ble_eq_true rfl) rfl ?_
  rw [hx1]
  refine V_icmp_lt_N F (tgt := 27) dX2_headCharacter_21 (by decide) (by omega) (by omega) (fun h => ?_) (fun h => ?_)
  · skip
    refine V_aload_n F dX2_headCharacter_27 rfl ?_
    refine V_iload_n F dX2_headCharacter_28 rfl ?_
    refine V_callK F hx2 (As := [.int (nI i)]) (c_charAt hx2 (by omega)) mi_J0_charAt_5068e mm_J0_charAt_5068e lk_X2_132 dX2_headCharacter_29 (rmR (by omega)) rfl rfl (by decide) (Nat.le_of_ble_eq_true rfl) rfl ?_
    refine V_istore F (lv' := [_, _, _, _, _]) dX2_headCharacter_32 (by decide) rfl rfl ?_
    refine V_iload F dX2_headCharacter_34 rfl ?_
    refine V_bipush F (v := nI 120) dX2_headCharacter_36 (by decide) ?_
    refine V_icmp_ne_N F (tgt := 53) dX2_headCharacter_38 (by decide) (by omega) (by omega) (fun h1 => ?_) (fun h1 => ?_)
    · skip
      refine V_iload F dX2_headCharacter_53 rfl ?_
      refine V_bipush F (v := nI 121) dX2_headCharacter_55 (by decide) ?_
      refine V_icmp_ne_N F (tgt := 74) dX2_headCharacter_57 (by decide) (by omega) (by omega) (fun h2 => ?_) (fun h2 => ?_)
      · skip
        refine V_iload F dX2_headCharacter_74 rfl ?_
        exact V_iret F dX2_headCharacter_76 (⟨by rw [hch, if_neg h1, if_neg h2], rfl⟩)
      · skip
        refine V_aload_n F dX2_headCharacter_60 rfl ?_
        refine V_getf F (q0 := 1) (j := 3) lk_X2_18 dX2_headCharacter_61 ig_X2 rfl rfl (by decide) rfl rfl ?_
        refine V_iload_n F dX2_headCharacter_64 rfl ?_
        refine V_callSNi F (c_at (q := 5) rfl (show p < 24 by omega) (hX.fld 2 rfl (by omega) hp)) mi_X3_at ms_X3_at nk_X2_68 dX2_headCharacter_65 (rmR (by omega)) rfl rfl (by decide) (Nat.le_of_ble_eq_true rfl) ?_
        refine V_callSi F (c_letterOf hnm.2) mi_X2_letterOf ms_X2_letterOf lk_X2_136 dX2_headCharacter_68 (rmR (by omega)) rfl rfl (by decide) (Nat.le_of_ble_eq_true rfl) ?_
        refine V_goto F (tgt := 76) dX2_headCharacter_71 (by decide) ?_
        exact V_iret F dX2_headCharacter_76 (⟨by rw [hch, if_neg h1, if_pos (Classical.not_not.mp h2)]; rfl, rfl⟩)
    · skip
      refine V_aload_n F dX2_headCharacter_41 rfl ?_
      refine V_getf F (q0 := 1) (j := 2) lk_X2_15 dX2_headCharacter_42 ig_X2 rfl rfl (by decide) rfl rfl ?_
      refine V_iload_n F dX2_headCharacter_45 rfl ?_
      refine V_callSNi F (c_at (q := 4) rfl (show p < 24 by omega) (hX.fld 1 rfl (by omega) hp)) mi_X3_at ms_X3_at nk_X2_68 dX2_headCharacter_46 (rmR (by omega)) rfl rfl (by decide) (Nat.le_of_ble_eq_true rfl) ?_
      refine V_callSi F (c_letterOf hnm.1) mi_X2_letterOf ms_X2_letterOf lk_X2_136 dX2_headCharacter_49 (rmR (by omega)) rfl rfl (by decide) (Nat.le_of_ble_eq_true rfl) ?_
      exact V_iret F dX2_headCharacter_52 (⟨by rw [hch, if_pos (Classical.not_not.mp h1)]; rfl, rfl⟩)
  · omega
theorem c_charOf {p₁ i₁ : Nat} (hX : XRep T n μ) (hp₁ : p₁ < n) (hi₁ : i₁ < T 8 p₁) : Ct (GS g) l (6) yX2_characterOf cX2_characterOf 11 (some .int) [.ref (g.1 1), .int (nI p₁), .int (nI i₁)] μ (Is (.int (nI (chr T p₁ i₁))) μ) := by
  have hn := hX.n24
  refine Ct.of (own := RX2) mi_X2_characterOf rfl [some (.ref (g.1 1)), some (.int (nI p₁)), some (.int (nI i₁)), none, none, none, none, none, none, none, none] (Nat.le_of_ble_eq_true rfl) rfl (fun p₀ e₀ s₀ m₀ b₀ h₀ c₀ F => ?_)
  have loop : ∀ (p i lev : Nat), p < n → i < T 8 p → p + lev ≤ 23 → chr T p i = chr T p₁ i₁ → V (GS g) p₀ l e₀ (rmD (6)) s₀ m₀ (List.toArray [.ref (g.1 1), .int (nI p₁), .int (nI i₁)]) b₀ h₀ c₀ 11 0 0 (MQ b₀ (Qp (GS g) (Is (.int (nI (chr T p₁ i₁))) μ)) (List.toArray [.ref (g.1 1), .int (nI p₁), .int (nI i₁)]) s₀ 0 0 (gA (GS g))) 8 ([some (.ref (g.1 1)), some (.int (nI p₁)), some (.int (nI i₁)), some (.int (nI p)), some (.int (nI i)), some (.int (nI lev)), none, none, none, none, none]) ([]) (μ) := by
    intro p
    induction p using Nat.strongRecOn with
    | ind p ih =>
      intro i lev hp hi hlev hres
      rw [chr_eq hX.1 hp hi] at hres
      have hk := hX.1.kind hp
      obtain ⟨hx1, hx2⟩ := hix_len (T 0 p) (by omega)
      have hhd := hdl_le (T 0 p)
      have hL := hX.1.len_lt hp
      refine V_iload F dX2_characterOf_8 rfl ?_
      refine V_bipush F (v := nI 24) dX2_characterOf_10 (by decide) ?_
      refine V_icmp_ge_N F (tgt := 144) dX2_characterOf_12 (by decide) (by omega) (by omega) (fun h => ?_) (fun h => ?_)
      · omega
      · skip
        refine V_aload_n F dX2_characterOf_15 rfl ?_
        refine V_getf F (q0 := 1) (j := 1) lk_X2_9 dX2_characterOf_16 ig_X2 rfl rfl (by decide) rfl rfl ?_
        refine V_iload_n F dX2_characterOf_19 rfl ?_
        refine V_callSNi F (c_at (q := 3) rfl (show p < 24 by omega) (hX.fld 0 rfl (by omega) hp)) mi_X3_at ms_X3_at nk_X2_68 dX2_characterOf_20 (rmR (by omega)) rfl rfl (by decide) (Nat.le_of_ble_eq_true rfl) ?_
        refine V_istore F (lv' := [_, _, _, _, _, _, _, _, _, _, _]) dX2_characterOf_23 (by decide) rfl rfl ?_
        refine V_iload F dX2_characterOf_25 rfl ?_
        refine V_callSi F (c_headOf (by omega)) mi_X2_headOf ms_X2_headOf lk_X2_54 dX2_characterOf_27 (rmR (by omega)) rfl rfl (by decide) (Nat.le_of_ble_eq_true rfl) ?_
        refine V_callK F hx2 (c_slen hx2) mi_J0_length_8abf5 mm_J0_length_8abf5 lk_X2_58 dX2_characterOf_30 (rmR (by omega)) rfl rfl (by decide) (Nat.le_of_ble_eq_true rfl) rfl ?_
        rw [hx1]
        refine V_istore F (lv' := [_, _, _, _, _, _, _, _, _, _, _]) dX2_characterOf_33 (by decide) rfl rfl ?_
        refine V_iload F dX2_characterOf_35 rfl ?_
        refine V_iload F dX2_characterOf_37 rfl ?_
        refine V_icmp_ge_N F (tgt := 50) dX2_characterOf_39 (by decide) (by omega) (by omega) (fun h1 => ?_) (fun h1 => ?_)
        · obtain ⟨hp0, h3, h4, h8⟩ := beyond hX.1 hp hi (by omega)
          have hL3 := hX.1.len_lt (show T 3 p < n by omega)
          have hL4 := hX.1.len_lt (show T 4 p < n by omega)
          rw [if_neg (by omega)] at hres
          refine V_iload F dX2_characterOf_50 rfl ?_
          refine V_iload F dX2_characterOf_52 rfl ?_
          refine V_isubN F (by omega) dX2_characterOf_54 ?_
          refine V_istore F (lv' := [_, _, _, _, _, _, _, _, _, _, _]) dX2_characterOf_55 (by decide) rfl rfl ?_
          refine V_aload_n F dX2_characterOf_57 rfl ?_
          refine V_getf F (q0 := 1) (j := 4) lk_X2_21 dX2_characterOf_58 ig_X2 rfl rfl (by decide) rfl rfl ?_
          refine V_iload_n F dX2_characterOf_61 rfl ?_
          refine V_callSNi F (c_at (q := 6) rfl (show p < 24 by omega) (hX.fld 3 rfl (by omega) hp)) mi_X3_at ms_X3_at nk_X2_68 dX2_characterOf_62 (rmR (by omega)) rfl rfl (by decide) (Nat.le_of_ble_eq_true rfl) ?_
          refine V_istore F (lv' := [_, _, _, _, _, _, _, _, _, _, _]) dX2_characterOf_65 (by decide) rfl rfl ?_
          refine V_aload_n F dX2_characterOf_67 rfl ?_
          refine V_getf F (q0 := 1) (j := 9) lk_X2_40 dX2_characterOf_68 ig_X2 rfl rfl (by decide) rfl rfl ?_
          refine V_iload F dX2_characterOf_71 rfl ?_
          refine V_callSNi F (c_at (q := 11) rfl (show T 3 p < 24 by omega) (hX.fld 8 rfl (by omega) (by omega))) mi_X3_at ms_X3_at nk_X2_68 dX2_characterOf_73 (rmR (by omega)) rfl rfl (by decide) (Nat.le_of_ble_eq_true rfl) ?_
          refine V_istore F (lv' := [_, _, _, _, _, _, _, _, _, _, _]) dX2_characterOf_76 (by decide) rfl rfl ?_
          refine V_iload F dX2_characterOf_78 rfl ?_
          refine V_iload F dX2_characterOf_80 rfl ?_
          refine V_icmp_ge_N F (tgt := 91) dX2_characterOf_82 (by decide) (by omega) (by omega) (fun h2 => ?_) (fun h2 => ?_)
          · rw [if_neg (by omega)] at hres
            have hk5 : T 0 p = 5 := Classical.byContradiction fun q => by rw [if_neg q] at h8; omega
            rw [if_pos hk5] at h8
            refine V_aload_n F dX2_characterOf_91 rfl ?_
            refine V_getf F (q0 := 1) (j := 5) lk_X2_24 dX2_characterOf_92 ig_X2 rfl rfl (by decide) rfl rfl ?_
            refine V_iload_n F dX2_characterOf_95 rfl ?_
            refine V_callSNi F (c_at (q := 7) rfl (show p < 24 by omega) (hX.fld 4 rfl (by omega) hp)) mi_X3_at ms_X3_at nk_X2_68 dX2_characterOf_96 (rmR (by omega)) rfl rfl (by decide) (Nat.le_of_ble_eq_true rfl) ?_
            refine V_istore F (lv' := [_, _, _, _, _, _, _, _, _, _, _]) dX2_characterOf_99 (by decide) rfl rfl ?_
            refine V_iload F dX2_characterOf_101 rfl ?_
            refine V_iload F dX2_characterOf_103 rfl ?_
            refine V_iconst F (v := nI 1) dX2_characterOf_105 (by decide) ?_
            (first | refine V_iaddN F dX2_characterOf_106 ?_ | refine V_iadd F dX2_characterOf_106 ?_)
            by_cases h5 : i - hdl (T 0 p) = T 8 (T 3 p)
            · rw [if_pos h5] at hres
              refine V_isub F dX2_characterOf_107 ?_
              refine V_istore F (lv' := [_, _, _, _, _, _, _, _, _, _, _]) dX2_characterOf_108 (by decide) rfl rfl ?_
              refine V_iload F dX2_characterOf_110 rfl ?_
              refine V_if_ge_f F (tgt := 118) dX2_characterOf_112 (by decide) (fun q => Int32.not_lt.mpr q (pk_sneg (by omega) (by omega))) ?_
              refine V_bipush F (v := nI 43) dX2_characterOf_115 (by decide) ?_
              exact V_iret F dX2_characterOf_117 (⟨by rw [← hres], rfl⟩)
            · rw [if_neg h5] at hres
              refine V_isubN F (by omega) dX2_characterOf_107 ?_
              refine V_istore F (lv' := [_, _, _, _, _, _, _, _, _, _, _]) dX2_characterOf_108 (by decide) rfl rfl ?_
              refine V_iload F dX2_characterOf_110 rfl ?_
              refine V_if_ge_t F (tgt := 118) dX2_characterOf_112 (by decide) (nI_ge0 (by omega)) ?_
              refine V_iload F dX2_characterOf_118 rfl ?_
              refine V_aload_n F dX2_characterOf_120 rfl ?_
              refine V_getf F (q0 := 1) (j := 9) lk_X2_40 dX2_characterOf_121 ig_X2 rfl rfl (by decide) rfl rfl ?_
              refine V_iload F dX2_characterOf_124 rfl ?_
              refine V_callSNi F (c_at (q := 11) rfl (show T 4 p < 24 by omega) (hX.fld 8 rfl (by omega) (by omega))) mi_X3_at ms_X3_at nk_X2_68 dX2_characterOf_126 (rmR (by omega)) rfl rfl (by decide) (Nat.le_of_ble_eq_true rfl) ?_
              refine V_icmp_lt_N F (tgt := 135) dX2_characterOf_129 (by decide) (by omega) (by omega) (fun h6 => ?_) (fun h6 => ?_)
              · rw [if_pos h6] at hres
                refine V_iload F dX2_characterOf_135 rfl ?_
                refine V_istore_n F (lv' := [_, _, _, _, _, _, _, _, _, _, _]) dX2_characterOf_137 (by decide) rfl rfl ?_
                refine V_iinc F (lv' := [_, _, _, _, _, _, _, _, _, _, _]) dX2_characterOf_138 rfl (by decide) rfl rfl ?_
                refine V_goto F (tgt := 8) dX2_characterOf_141 (by decide) ?_
                rw [show nI lev + Int32.ofInt 1 = nI (lev + 1) from nI_1 lev]
                refine V_msk [true, true, true, true, true, true, false, false, false, false, false] (lv' := [_, _, _, _, _, _, _, _, _, _, _]) rfl ?_
                exact ih _ h4 _ (lev + 1) (by omega) h6 (by omega) hres
              · rw [if_neg h6] at hres
                refine V_bipush F (v := nI 41) dX2_characterOf_132 (by decide) ?_
                exact V_iret F dX2_characterOf_134 (⟨by rw [← hres], rfl⟩)
          · rw [if_pos (by omega)] at hres
            refine V_iload F dX2_characterOf_85 rfl ?_
            refine V_istore_n F (lv' := [_, _, _, _, _, _, _, _, _, _, _]) dX2_characterOf_87 (by decide) rfl rfl ?_
            refine V_goto F (tgt := 138) dX2_characterOf_88 (by decide) ?_
            refine V_iinc F (lv' := [_, _, _, _, _, _, _, _, _, _, _]) dX2_characterOf_138 rfl (by decide) rfl rfl ?_
            refine V_goto F (tgt := 8) dX2_characterOf_141 (by decide) ?_
            rw [show nI lev + Int32.ofInt 1 = nI (lev + 1) from nI_1 lev]
            refine V_msk [true, true, true, true, true, true, false, false, false, false, false] (lv' := [_, _, _, _, _, _, _, _, _, _, _]) rfl ?_
            exact ih _ h3 _ (lev + 1) (by omega) (by omega) (by omega) hres
        · rw [if_pos (by omega)] at hres
          refine V_aload_n F dX2_characterOf_42 rfl ?_
          refine V_iload_n F dX2_characterOf_43 rfl ?_
          refine V_iload F dX2_characterOf_44 rfl ?_
          refine V_callVi F (q0 := 1) (c_headChar hX hp (by omega)) mi_X2_headCharacter mm_X2_headCharacter lk_X2_129 dX2_characterOf_46 (rmR (by omega)) rfl rfl (by decide) (Nat.le_of_ble_eq_true rfl) rfl rfl rfl ?_
          exact V_iret F dX2_characterOf_49 (⟨by rw [hres], rfl⟩)
  refine V_iload_n F dX2_characterOf_0 rfl ?_
  refine V_istore_n F (lv' := [_, _, _, _, _, _, _, _, _, _, _]) dX2_characterOf_1 (by decide) rfl rfl ?_
  refine V_iload_n F dX2_characterOf_2 rfl ?_
  refine V_istore F (lv' := [_, _, _, _, _, _, _, _, _, _, _]) dX2_characterOf_3 (by decide) rfl rfl ?_
  refine V_iconst F (v := nI 0) dX2_characterOf_5 (by decide) ?_
  refine V_istore F (lv' := [_, _, _, _, _, _, _, _, _, _, _]) dX2_characterOf_6 (by decide) rfl rfl ?_
  exact loop p₁ i₁ 0 hp₁ hi₁ (by omega) rfl
theorem c_textAt (hX : XRep T n μ) (p i : Int32) : Ct (GS g) l (7) yX3_textAt cX3_textAt 3 (some .int) [.ref (g.1 0), .int p, .int i] μ (Is (.int (rTx T n p i)) μ) := by
  have hn := hX.n24
  refine Ct.of (own := RX3) mi_X3_textAt rfl [some (.ref (g.1 0)), some (.int p), some (.int i)] (Nat.le_of_ble_eq_true rfl) rfl (fun p₀ e₀ s₀ m₀ b₀ h₀ c₀ F => ?_)
  refine V_aload_n F dX3_textAt_0 rfl ?_
  refine V_getf F (q0 := 0) (j := 0) lk_X3_10 dX3_textAt_1 ig_X3 rfl rfl (by decide) rfl rfl ?_
  refine V_iload_n F dX3_textAt_4 rfl ?_
  cases h : pj n p with
  | none =>
    have e : rTx T n p i = -1 := by unfold rTx; rw [h]
    rw [e]
    refine V_callVNi F (q0 := 1) (c_holds_f hX.2.1 (by omega) (pj_none h (by omega))) mi_X2_holds mm_X2_holds nk_X3_25 dX3_textAt_5 (rmR (by omega)) rfl rfl (by decide) (Nat.le_of_ble_eq_true rfl) rfl rfl rfl ?_
    refine V_if_eq_t F (tgt := 15) dX3_textAt_8 (by decide) (by decide) ?_
    refine V_iconst F (v := (-1)) dX3_textAt_15 (by decide) ?_
    exact V_iret F dX3_textAt_16 (⟨rfl, rfl⟩)
  | some j =>
    obtain ⟨hj, rfl⟩ := pj_some h (by omega)
    have hL := hX.1.len_lt hj
    refine V_callVNi F (q0 := 1) (c_holds_t hX.2.1 (by omega) hj) mi_X2_holds mm_X2_holds nk_X3_25 dX3_textAt_5 (rmR (by omega)) rfl rfl (by decide) (Nat.le_of_ble_eq_true rfl) rfl rfl rfl ?_
    refine V_if_eq_f F (tgt := 15) dX3_textAt_8 (by decide) (by decide) ?_
    refine V_iload_n F dX3_textAt_11 rfl ?_
    by_cases hm : i < 0
    · have e : rTx T n (nI j) i = -1 := by unfold rTx; rw [h]; simp only [if_pos hm]
      rw [e]
      refine V_if_ge_f F (tgt := 17) dX3_textAt_12 (by decide) (fun q => Int32.not_lt.mpr q hm) ?_
      refine V_iconst F (v := (-1)) dX3_textAt_15 (by decide) ?_
      exact V_iret F dX3_textAt_16 (⟨rfl, rfl⟩)
    · obtain ⟨k, hk, rfl⟩ := nI_of hm
      have e : rTx T n (nI j) (nI k) = if T 8 j ≤ k then -4 else nI (chr T j k) := by
        unfold rTx; rw [h]; simp only [if_neg hm, nI_clamp hk]
      rw [e]
      refine V_if_ge_t F (tgt := 17) dX3_textAt_12 (by decide) (nI_ge0 hk) ?_
      refine V_iload_n F dX3_textAt_17 rfl ?_
      refine V_aload_n F dX3_textAt_18 rfl ?_
      refine V_getf F (q0 := 0) (j := 0) lk_X3_10 dX3_textAt_19 ig_X3 rfl rfl (by decide) rfl rfl ?_
      refine V_getN F (q0 := 1) (j := 9) nk_X3_68 dX3_textAt_22 ig_X2 rfl rfl (by decide) rfl rfl ?_
      refine V_iload_n F dX3_textAt_25 rfl ?_
      refine V_callSi F (c_at (q := 11) rfl (show j < 24 by omega) (hX.fld 8 rfl (by omega) hj)) mi_X3_at ms_X3_at lk_X3_48 dX3_textAt_26 (rmR (by omega)) rfl rfl (by decide) (Nat.le_of_ble_eq_true rfl) ?_
      refine V_icmp_lt_N F (tgt := 35) dX3_textAt_29 (by decide) (by omega) (by omega) (fun h1 => ?_) (fun h1 => ?_)
      · rw [if_neg (by omega)]
        refine V_aload_n F dX3_textAt_35 rfl ?_
        refine V_getf F (q0 := 0) (j := 0) lk_X3_10 dX3_textAt_36 ig_X3 rfl rfl (by decide) rfl rfl ?_
        refine V_iload_n F dX3_textAt_39 rfl ?_
        refine V_iload_n F dX3_textAt_40 rfl ?_
        refine V_callVNi F (q0 := 1) (c_charOf hX hj (by omega)) mi_X2_characterOf mm_X2_characterOf nk_X3_71 dX3_textAt_41 (rmR (by omega)) rfl rfl (by decide) (Nat.le_of_ble_eq_true rfl) rfl rfl rfl ?_
        exact V_iret F dX3_textAt_44 (⟨rfl, rfl⟩)
      · rw [if_pos (by omega)]
        refine V_bipush F (v := (-4)) dX3_textAt_32 (by decide) ?_
        exact V_iret F dX3_textAt_34 (⟨rfl, rfl⟩)
end TEXT
end
section
section BUILDS
variable {T : Tb} {n : Nat}
def bD (T : Tb) (k p q : Nat) : Nat := max (T 5 p) (T 5 q) + (if k ≤ 3 then 1 else 0)
def bB (T : Tb) (k p q : Nat) : Nat := if k ≤ 3 then 1 else T 6 p + T 6 q
def bN (T : Tb) (k x y p q : Nat) : Nat := max (max x y - 2) (max (T 7 p - (if k = 3 then 1 else 0)) (T 7 q))
def bL (T : Tb) (k p q : Nat) : Nat := hdl k + T 8 p + (if k = 5 then T 8 q + 2 else 0)
def bT (T : Tb) (n k x y p q : Nat) : Tb := fun f j => if j = n then (match f with
  | 0 => k
  | 1 => x
  | 2 => y
  | 3 => p
  | 4 => q
  | 5 => bD T k p q
  | 6 => bB T k p q
  | 7 => bN T k x y p q
  | 8 => bL T k p q
  | _ => 0) else T f j
/-- what can be asked to be built -/
def bOk (n k x y p q : Nat) : Prop := 1 ≤ k ∧ k ≤ 5 ∧ x < 6 ∧ y < 6 ∧ p < n ∧ q < n ∧ (k = 1 → x = 0 ∧ y = 0) ∧ (k = 3 → y = 0) ∧ (k = 5 → x = 0 ∧ y = 0) ∧ (k ≠ 5 → q = 0)
def bFit (T : Tb) (n k p q : Nat) : Prop := n < 24 ∧ bD T k p q ≤ 3 ∧ bB T k p q ≤ 3
theorem bT_old {k x y p q f j : Nat} (h : j ≠ n) : bT T n k x y p q f j = T f j := by unfold bT; rw [if_neg h]
theorem bT_wf {k x y p q : Nat} (hW : WF T n) (ho : bOk n k x y p q) (hf : bFit T n k p q) : WF (bT T n k x y p q) (n + 1) := by
  obtain ⟨o1, o2, o3, o4, o5, o6, o7, o8, o9, o10⟩ := ho
  obtain ⟨f1, f2, f3⟩ := hf
  refine ⟨by omega, ?_, fun j hj hjn => ?_⟩
  · simp only [bT_old (show 0 ≠ n by omega)]
    exact hW.2.1
  · by_cases he : j = n
    · subst he
      have ep : ∀ f, bT T j k x y p q f p = T f p := fun f => bT_old (by omega)
      have eq : ∀ f, bT T j k x y p q f q = T f q := fun f => bT_old (by omega)
      have e0 : bT T j k x y p q 0 j = k := by simp [bT]
      have e1 : bT T j k x y p q 1 j = x := by simp [bT]
      have e2 : bT T j k x y p q 2 j = y := by simp [bT]
      have e3 : bT T j k x y p q 3 j = p := by simp [bT]
      have e4 : bT T j k x y p q 4 j = q := by simp [bT]
      have e5 : bT T j k x y p q 5 j = bD T k p q := by simp [bT]
      have e6 : bT T j k x y p q 6 j = bB T k p q := by simp [bT]
      have e7 : bT T j k x y p q 7 j = bN T k x y p q := by simp [bT]
      have e8 : bT T j k x y p q 8 j = bL T k p q := by simp [bT]
      unfold WFp
      rw [e0, e1, e2, e3, e4, e5, e6, e7, e8]
      simp only [ep, eq]
      exact ⟨⟨o1, o2, o3, o4, o5, o6⟩, ⟨o7, o8, o9, o10⟩, ⟨rfl, f2⟩, ⟨rfl, f3⟩, rfl, rfl⟩
    · have hw := hW.2.2 j hj (by omega)
      have e : ∀ f, bT T n k x y p q f j = T f j := fun f => bT_old he
      obtain ⟨⟨-, -, -, -, h3, h4⟩, -⟩ := id hw
      have ep : ∀ f, bT T n k x y p q f (T 3 j) = T f (T 3 j) := fun f => bT_old (by omega)
      have eq : ∀ f, bT T n k x y p q f (T 4 j) = T f (T 4 j) := fun f => bT_old (by omega)
      unfold WFp at hw ⊢
      simp only [e, ep, eq]
      exact hw
/-- which worths are kept where -/
def plc (hi lo rel view : Nat) : Nat := hi * (hi - 1) / 2 * 15 + lo * 15 + (rel * 5 + view)
def vls : Nat → List Nat
  | 0 => []
  | v + 1 => [v]
def Memo (T : Tb) (n : Nat) (μ : Mem) : Prop := ∀ hi lo rel view, hi < 24 → lo < hi → rel < 3 → view < 5 → μ.1 14 (plc hi lo rel view) = 0 ∨
  (hi < n ∧ T 7 hi ≤ (vls view).length ∧ T 7 lo ≤ (vls view).length ∧ ∃ r, μ.1 14 (plc hi lo rel view) = nI r ∧ r ≤ 4 ∧ Sp r (fun k => win T rel k hi lo (vls view)) 3)
def XInv (T : Tb) (n : Nat) (μ : Mem) : Prop := XRep T n μ ∧ Memo T n μ
theorem Memo.grow {T' : Tb} {n' : Nat} {μ μ' : Mem} (hW : WF T n) (hW' : WF T' n') (hn : n ≤ n') (hT : ∀ f p, p < n → T' f p = T f p) (h : Memo T n μ) (hm : μ'.1 14 = μ.1 14) : Memo T' n' μ' := by
  intro hi lo rel view h1 h2 h3 h4
  rw [hm]
  rcases h hi lo rel view h1 h2 h3 h4 with h | ⟨a1, a2, a3, r, a4, a5, a6⟩
  · exact Or.inl h
  · refine Or.inr ⟨by omega, by rw [hT _ _ a1]; exact a2, by rw [hT _ _ (by omega)]; exact a3, r, a4, a5, a6.1, fun j hj => ?_⟩
    show r ≤ j ↔ win T' rel j hi lo (vls view) = true
    rw [win_congr hW hW' hn hT rel j hi lo _ a1 (by omega)]
    exact a6.2 j hj
theorem XInv.of_sameX {μ μ' : Mem} (h : XInv T n μ) (s : sameX μ μ') : XInv T n μ' := ⟨h.1.of_sameX s, h.2.grow h.1.1 h.1.1 (Nat.le_refl _) (fun _ _ _ => rfl) (s.1 14 (by omega))⟩
theorem gm_cons {w x y : Nat} {gs : List (Nat × Nat)} (h : gm w gs) (hx : x < 6) (hy : y < 6) : gm (w ||| 2 ^ (x * 6 + y)) ((x, y) :: gs) := by
  refine ⟨Nat.or_lt_two_pow h.1 (Nat.pow_lt_pow_right (by omega) (by omega)), fun i hi => ?_⟩
  rw [Nat.testBit_or, h.2 i hi, Nat.testBit_two_pow]
  rw [Bool.eq_iff_iff]
  simp only [Bool.or_eq_true, decide_eq_true_eq, List.mem_cons, Prod.mk.injEq]
  constructor
  · rintro (h | h)
    · exact Or.inr h
    · left; omega
  · rintro (h | h)
    · right; omega
    · exact Or.inl h
theorem gm_nil : gm 0 [] := ⟨by omega, fun i hi => by simp⟩
theorem needE : ∀ m, m < 6 → ∀ a, a < 4 → ∀ s, s < 2 → ∀ c, c < 4 →
    (if nI 0 < (if nI m - nI 2 < (if nI a - nI s < nI c then nI c else nI a - nI s) then (if nI a - nI s < nI c then nI c else nI a - nI s) else nI m - nI 2) then (if nI m - nI 2 < (if nI a - nI s < nI c then nI c else nI a - nI s) then (if nI a - nI s < nI c then nI c else nI a - nI s) else nI m - nI 2) else nI 0) = nI (max (m - 2) (max (a - s) c)) := by decide +kernel
theorem wr_ne {μ : Mem} {c i d j : Nat} {v : Int32} (h : ¬ (d = c ∧ j = i)) : (wr μ c i v).1 d j = μ.1 d j := by rw [wr_at, if_neg h]
theorem wr_eq {μ : Mem} {c i : Nat} {v : Int32} : (wr μ c i v).1 c i = v := by rw [wr_at, if_pos ⟨rfl, rfl⟩]
end BUILDS
section BUILD
variable {g : Gm} {l : Launch} {μ : Mem} {T : Tb} {n : Nat}
theorem c_needFor {k x y p q a c : Nat} (hk : k < 6) (hx : x < 6) (hy : y < 6) (hp : p < 24) (hq : q < 24) (ha : a < 4) (hc : c < 4) (h1 : μ.1 10 p = nI a) (h2 : μ.1 10 q = nI c) : Ct (GS g) l (1) yX2_needFor cX2_needFor 9 (some .int) [.ref (g.1 1), .int (nI k), .int (nI x), .int (nI y), .int (nI p), .int (nI q)] μ (Is (.int (nI (max (max x y - 2) (max (a - (if k = 3 then 1 else 0)) c)))) μ) := by
  refine Ct.of (own := RX2) mi_X2_needFor rfl [some (.ref (g.1 1)), some (.int (nI k)), some (.int (nI x)), some (.int (nI y)), some (.int (nI p)), some (.int (nI q)), none, none, none] (Nat.le_of_ble_eq_true rfl) rfl (fun p₀ e₀ s₀ m₀ b₀ h₀ c₀ F => ?_)
  refine V_iload_n F dX2_needFor_0 rfl ?_
  refine V_iload_n F dX2_needFor_1 rfl ?_
  refine V_maxN F lk_X2_72 dX2_needFor_2 (rmM (by omega) (Nat.le_of_ble_eq_true rfl)) (by omega) (by omega) ?_
  refine V_iconst F (v := nI 2) dX2_needFor_5 (by decide) ?_
  refine V_isub F dX2_needFor_6 ?_
  refine V_istore F (lv' := [_, _, _, _, _, _, _, _, _]) dX2_needFor_7 (by decide) rfl rfl ?_
  refine V_aload_n F dX2_needFor_9 rfl ?_
  refine V_getf F (q0 := 1) (j := 8) lk_X2_33 dX2_needFor_10 ig_X2 rfl rfl (by decide) rfl rfl ?_
  refine V_iload F dX2_needFor_13 rfl ?_
  refine V_callSNi F (c_at (q := 10) rfl hp h1) mi_X3_at ms_X3_at nk_X2_68 dX2_needFor_15 (rmR (by omega)) rfl rfl (by decide) (Nat.le_of_ble_eq_true rfl) ?_
  refine V_iload_n F dX2_needFor_18 rfl ?_
  refine V_iconst F (v := nI 3) dX2_needFor_19 (by decide) ?_
  have hm : max x y < 6 := by omega
  refine V_icmp_ne_N F (tgt := 27) dX2_needFor_20 (by decide) (by omega) (by omega) (fun h3 => ?_) (fun h3 => ?_)
  · rw [if_neg h3]
    refine V_iconst F (v := nI 0) dX2_needFor_27 (by decide) ?_
    refine V_isub F dX2_needFor_28 ?_
    refine V_istore F (lv' := [_, _, _, _, _, _, _, _, _]) dX2_needFor_29 (by decide) rfl rfl ?_
    refine V_iload F dX2_needFor_31 rfl ?_
    refine V_aload_n F dX2_needFor_33 rfl ?_
    refine V_getf F (q0 := 1) (j := 8) lk_X2_33 dX2_needFor_34 ig_X2 rfl rfl (by decide) rfl rfl ?_
    refine V_iload F dX2_needFor_37 rfl ?_
    refine V_callSNi F (c_at (q := 10) rfl hq h2) mi_X3_at ms_X3_at nk_X2_68 dX2_needFor_39 (rmR (by omega)) rfl rfl (by decide) (Nat.le_of_ble_eq_true rfl) ?_
    refine V_max F lk_X2_72 dX2_needFor_42 (rmM (by omega) (Nat.le_of_ble_eq_true rfl)) ?_
    refine V_istore F (lv' := [_, _, _, _, _, _, _, _, _]) dX2_needFor_45 (by decide) rfl rfl ?_
    refine V_iconst F (v := nI 0) dX2_needFor_47 (by decide) ?_
    refine V_iload F dX2_needFor_48 rfl ?_
    refine V_iload F dX2_needFor_50 rfl ?_
    refine V_max F lk_X2_72 dX2_needFor_52 (rmM (by omega) (Nat.le_of_ble_eq_true rfl)) ?_
    refine V_max F lk_X2_72 dX2_needFor_55 (rmM (by omega) (Nat.le_of_ble_eq_true rfl)) ?_
    refine V_val F (needE _ hm a ha 0 (by omega) c hc) ?_
    exact V_iret F dX2_needFor_58 (⟨rfl, rfl⟩)
  · rw [if_pos (Classical.not_not.mp h3)]
    refine V_iconst F (v := nI 1) dX2_needFor_23 (by decide) ?_
    refine V_goto F (tgt := 28) dX2_needFor_24 (by decide) ?_
    refine V_isub F dX2_needFor_28 ?_
    refine V_istore F (lv' := [_, _, _, _, _, _, _, _, _]) dX2_needFor_29 (by decide) rfl rfl ?_
    refine V_iload F dX2_needFor_31 rfl ?_
    refine V_aload_n F dX2_needFor_33 rfl ?_
    refine V_getf F (q0 := 1) (j := 8) lk_X2_33 dX2_needFor_34 ig_X2 rfl rfl (by decide) rfl rfl ?_
    refine V_iload F dX2_needFor_37 rfl ?_
    refine V_callSNi F (c_at (q := 10) rfl hq h2) mi_X3_at ms_X3_at nk_X2_68 dX2_needFor_39 (rmR (by omega)) rfl rfl (by decide) (Nat.le_of_ble_eq_true rfl) ?_
    refine V_max F lk_X2_72 dX2_needFor_42 (rmM (by omega) (Nat.le_of_ble_eq_true rfl)) ?_
    refine V_istore F (lv' := [_, _, _, _, _, _, _, _, _]) dX2_needFor_45 (by decide) rfl rfl ?_
    refine V_iconst F (v := nI 0) dX2_needFor_47 (by decide) ?_
    refine V_iload F dX2_needFor_48 rfl ?_
    refine V_iload F dX2_needFor_50 rfl ?_
    refine V_max F lk_X2_72 dX2_needFor_52 (rmM (by omega) (Nat.le_of_ble_eq_true rfl)) ?_
    refine V_max F lk_X2_72 dX2_needFor_55 (rmM (by omega) (Nat.le_of_ble_eq_true rfl)) ?_
    refine V_val F (needE _ hm a ha 1 (by omega) c hc) ?_
    exact V_iret F dX2_needFor_58 (⟨rfl, rfl⟩)
theorem c_lengthFor {k p q a c : Nat} (hk : k < 6) (hp : p < 24) (hq : q < 24) (h1 : μ.1 11 p = nI a) (h2 : μ.1 11 q = nI c) : Ct (GS g) l (2) yX2_lengthFor cX2_lengthFor 5 (some .int) [.ref (g.1 1), .int (nI k), .int (nI p), .int (nI q)] μ (Is (.int (nI (hdl k + a + (if k = 5 then c + 2 else 0)))) μ) := by
  obtain ⟨hx1, hx2⟩ := hix_len k hk
  refine Ct.of (own := RX2) mi_X2_lengthFor rfl [some (.ref (g.1 1)), some (.int (nI k)), some (.int (nI p)), some (.int (nI q)), none] (Nat.le_of_ble_eq_true rfl) rfl (fun p₀ e₀ s₀ m₀ b₀ h₀ c₀ F => ?_)
  refine V_iload_n F dX2_lengthFor_0 rfl ?_
  refine V_callSi F (c_headOf hk) mi_X2_headOf ms_X2_headOf lk_X2_54 dX2_lengthFor_1 (rmR (by omega)) rfl rfl (by decide) (Nat.le_of_ble_eq_true rfl) ?_
  refine V_callK F hx2 (c_slen hx2) mi_J0_length_8abf5 mm_J0_length_8abf5 lk_X2_58 dX2_lengthFor_4 (rmR (by omega)) rfl rfl (by decide) (Nat.le_of_ble_eq_true rfl) rfl ?_
  rw [hx1]
  refine V_aload_n F dX2_lengthFor_7 rfl ?_
  refine V_getf F (q0 := 1) (j := 9) lk_X2_40 dX2_lengthFor_8 ig_X2 rfl rfl (by decide) rfl rfl ?_
  refine V_iload_n F dX2_lengthFor_11 rfl ?_
  refine V_callSNi F (c_at (q := 11) rfl hp h1) mi_X3_at ms_X3_at nk_X2_68 dX2_lengthFor_12 (rmR (by omega)) rfl rfl (by decide) (Nat.le_of_ble_eq_true rfl) ?_
  (first | refine V_iaddN F dX2_lengthFor_15 ?_ | refine V_iadd F dX2_lengthFor_15 ?_)
  refine V_istore F (lv' := [_, _, _, _, _]) dX2_lengthFor_16 (by decide) rfl rfl ?_
  refine V_iload_n F dX2_lengthFor_18 rfl ?_
  refine V_iconst F (v := nI 5) dX2_lengthFor_19 (by decide) ?_
  refine V_icmp_ne_N F (tgt := 38) dX2_lengthFor_20 (by decide) (by omega) (by omega) (fun h3 => ?_) (fun h3 => ?_)
  · rw [if_neg h3]
    refine V_iload F dX2_lengthFor_38 rfl ?_
    exact V_iret F dX2_lengthFor_40 (⟨rfl, rfl⟩)
  · rw [if_pos (Classical.not_not.mp h3)]
    refine V_iload F dX2_lengthFor_23 rfl ?_
    refine V_aload_n F dX2_lengthFor_25 rfl ?_
    refine V_getf F (q0 := 1) (j := 9) lk_X2_40 dX2_lengthFor_26 ig_X2 rfl rfl (by decide) rfl rfl ?_
    refine V_iload_n F dX2_lengthFor_29 rfl ?_
    refine V_callSNi F (c_at (q := 11) rfl hq h2) mi_X3_at ms_X3_at nk_X2_68 dX2_lengthFor_30 (rmR (by omega)) rfl rfl (by decide) (Nat.le_of_ble_eq_true rfl) ?_
    refine V_iconst F (v := nI 2) dX2_lengthFor_33 (by decide) ?_
    (first | refine V_iaddN F dX2_lengthFor_34 ?_ | refine V_iadd F dX2_lengthFor_34 ?_)
    (first | refine V_iaddN F dX2_lengthFor_35 ?_ | refine V_iadd F dX2_lengthFor_35 ?_)
    refine V_istore F (lv' := [_, _, _, _, _]) dX2_lengthFor_36 (by decide) rfl rfl ?_
    refine V_iload F dX2_lengthFor_38 rfl ?_
    exact V_iret F dX2_lengthFor_40 (⟨rfl, rfl⟩)
/-- some actions copied behind a place, a guard put to each -/
def CpA (μ μ' : Mem) (part base : Nat) (w : Int64) (b : Nat) : Prop := (∀ c j, ¬ (c = 12 ∧ base ≤ j ∧ j < base + b) → μ'.1 c j = μ.1 c j) ∧ (∀ j, ¬ (base ≤ j ∧ j < base + b) → μ'.2 j = μ.2 j) ∧
  ∀ s, s < b → μ'.1 12 (base + s) = μ.1 12 (3 * part + s) ∧ μ'.2 (base + s) = μ.2 (3 * part + s) ||| w
theorem c_copy {part made behind b : Nat} {w : Int64} (hb : μ.1 9 part = nI b) (hpm : part < made) (hm : made < 24) (hbb : behind + b ≤ 3) : Ct (GS g) l (1) yX2_copyActions cX2_copyActions 9 none [.ref (g.1 1), .int (nI part), .int (nI made), .int (nI behind), .long w] μ ((fun r μ' => r = none ∧ CpA μ μ' part (3 * made + behind) w b)) := by
  refine Ct.of (own := RX2) mi_X2_copyActions rfl [some (.ref (g.1 1)), some (.int (nI part)), some (.int (nI made)), some (.int (nI behind)), some (.long w), none, none, none, none] (Nat.le_of_ble_eq_true rfl) rfl (fun p₀ e₀ s₀ m₀ b₀ h₀ c₀ F => ?_)
  have loop : ∀ (k i : Nat) (ν : Mem), i + k = b → CpA μ ν part (3 * made + behind) w i → V (GS g) p₀ l e₀ (rmD (1)) s₀ m₀ (List.toArray [.ref (g.1 1), .int (nI part), .int (nI made), .int (nI behind), .long w]) b₀ h₀ c₀ 9 0 0 (MQ b₀ (Qp (GS g) ((fun r μ' => r = none ∧ CpA μ μ' part (3 * made + behind) w b))) (List.toArray [.ref (g.1 1), .int (nI part), .int (nI made), .int (nI behind), .long w]) s₀ 0 0 (gA (GS g))) 3 ([some (.ref (g.1 1)), some (.int (nI part)), some (.int (nI made)), some (.int (nI behind)), some (.long w), none, some (.int (nI i)), none, none]) ([]) (ν) := by
    intro k
    induction k with
    | zero =>
      intro i ν hi hν
      refine V_iload F dX2_copyActions_3 rfl ?_
      refine V_aload_n F dX2_copyActions_5 rfl ?_
      refine V_getf F (q0 := 1) (j := 7) lk_X2_30 dX2_copyActions_6 ig_X2 rfl rfl (by decide) rfl rfl ?_
      refine V_iload_n F dX2_copyActions_9 rfl ?_
      refine V_callSNi F (c_at (q := 9) (v := nI b) rfl (show part < 24 by omega) (by rw [hν.1 _ _ (by omega)]; exact hb)) mi_X3_at ms_X3_at nk_X2_68 dX2_copyActions_10 (rmR (by omega)) rfl rfl (by decide) (Nat.le_of_ble_eq_true rfl) ?_
      refine V_icmp_ge_N F (tgt := 79) dX2_copyActions_13 (by decide) (by omega) (by omega) (fun h => ?_) (fun h => ?_)
      · skip
        exact V_vret F dX2_copyActions_79 (⟨rfl, by rw [show b = i by omega]; exact hν⟩)
      · omega
    | succ k ih =>
      intro i ν hi hν
      refine V_iload F dX2_copyActions_3 rfl ?_
      refine V_aload_n F dX2_copyActions_5 rfl ?_
      refine V_getf F (q0 := 1) (j := 7) lk_X2_30 dX2_copyActions_6 ig_X2 rfl rfl (by decide) rfl rfl ?_
      refine V_iload_n F dX2_copyActions_9 rfl ?_
      refine V_callSNi F (c_at (q := 9) (v := nI b) rfl (show part < 24 by omega) (by rw [hν.1 _ _ (by omega)]; exact hb)) mi_X3_at ms_X3_at nk_X2_68 dX2_copyActions_10 (rmR (by omega)) rfl rfl (by decide) (Nat.le_of_ble_eq_true rfl) ?_
      refine V_icmp_ge_N F (tgt := 79) dX2_copyActions_13 (by decide) (by omega) (by omega) (fun h => ?_) (fun h => ?_)
      · omega
      · have e1 : part * 3 + i = 3 * part + i := by omega
        have e2 : made * 3 + behind + i = 3 * made + behind + i := by omega
        refine V_iload_n F dX2_copyActions_16 rfl ?_
        refine V_iconst F (v := nI 3) dX2_copyActions_17 (by decide) ?_
        (first | refine V_imulN F dX2_copyActions_18 ?_ | refine V_imul F dX2_copyActions_18 ?_)
        refine V_iload F dX2_copyActions_19 rfl ?_
        (first | refine V_iaddN F dX2_copyActions_21 ?_ | refine V_iadd F dX2_copyActions_21 ?_)
        rw [e1]
        refine V_istore F (lv' := [_, _, _, _, _, _, _, _, _]) dX2_copyActions_22 (by decide) rfl rfl ?_
        refine V_iload_n F dX2_copyActions_24 rfl ?_
        refine V_iconst F (v := nI 3) dX2_copyActions_25 (by decide) ?_
        (first | refine V_imulN F dX2_copyActions_26 ?_ | refine V_imul F dX2_copyActions_26 ?_)
        refine V_iload_n F dX2_copyActions_27 rfl ?_
        (first | refine V_iaddN F dX2_copyActions_28 ?_ | refine V_iadd F dX2_copyActions_28 ?_)
        refine V_iload F dX2_copyActions_29 rfl ?_
        (first | refine V_iaddN F dX2_copyActions_31 ?_ | refine V_iadd F dX2_copyActions_31 ?_)
        rw [e2]
        refine V_istore F (lv' := [_, _, _, _, _, _, _, _, _]) dX2_copyActions_32 (by decide) rfl rfl ?_
        refine V_aload_n F dX2_copyActions_34 rfl ?_
        refine V_getf F (q0 := 1) (j := 10) lk_X2_43 dX2_copyActions_35 ig_X2 rfl rfl (by decide) rfl rfl ?_
        refine V_iload F dX2_copyActions_38 rfl ?_
        refine V_aload_n F dX2_copyActions_40 rfl ?_
        refine V_getf F (q0 := 1) (j := 10) lk_X2_43 dX2_copyActions_41 ig_X2 rfl rfl (by decide) rfl rfl ?_
        refine V_iload F dX2_copyActions_44 rfl ?_
        refine V_callSNi F (c_at (q := 12) rfl (show 3 * part + i < 72 by omega) (hν.1 12 _ (by omega))) mi_X3_at ms_X3_at nk_X2_68 dX2_copyActions_46 (rmR (by omega)) rfl rfl (by decide) (Nat.le_of_ble_eq_true rfl) ?_
        refine V_callSN0 F (c_put (q := 12) rfl (show 3 * made + behind + i < 72 by omega)) mi_X3_put ms_X3_put nk_X2_64 dX2_copyActions_49 (rmR (by omega)) rfl rfl (by decide) (Nat.le_of_ble_eq_true rfl) ?_
        refine V_aload_n F dX2_copyActions_52 rfl ?_
        refine V_getf F (q0 := 1) (j := 11) lk_X2_46 dX2_copyActions_53 ig_X2 rfl rfl (by decide) rfl rfl ?_
        refine V_iload F dX2_copyActions_56 rfl ?_
        refine V_aload_n F dX2_copyActions_58 rfl ?_
        refine V_getf F (q0 := 1) (j := 11) lk_X2_46 dX2_copyActions_59 ig_X2 rfl rfl (by decide) rfl rfl ?_
        refine V_iload F dX2_copyActions_62 rfl ?_
        refine V_callSNi F (c_atL (j := 3 * part + i) (v := μ.2 (3 * part + i)) (by omega) (by rw [wr_2]; exact hν.2.1 _ (by omega))) mi_X3_at_ ms_X3_at_ nk_X2_103 dX2_copyActions_64 (rmR (by omega)) rfl rfl (by decide) (Nat.le_of_ble_eq_true rfl) ?_
        refine V_lload F dX2_copyActions_67 rfl ?_
        refine V_lor F dX2_copyActions_69 ?_
        refine V_callSN0 F (c_putL (show 3 * made + behind + i < 72 by omega)) mi_X3_put_ ms_X3_put_ nk_X2_96 dX2_copyActions_70 (rmR (by omega)) rfl rfl (by decide) (Nat.le_of_ble_eq_true rfl) ?_
        refine V_iinc F (lv' := [_, _, _, _, _, _, _, _, _]) dX2_copyActions_73 rfl (by decide) rfl rfl ?_
        refine V_goto F (tgt := 3) dX2_copyActions_76 (by decide) ?_
        rw [show nI i + Int32.ofInt 1 = nI (i + 1) from nI_1 i]
        refine V_msk [true, true, true, true, true, false, true, false, false] (lv' := [_, _, _, _, _, _, _, _, _]) rfl ?_
        refine ih (i + 1) _ (by omega) ⟨fun c j hj => ?_, fun j hj => ?_, fun s hs => ?_⟩
        · rw [wrL_1, wr_ne (by omega)]; exact hν.1 c j (by omega)
        · rw [wrL_at, if_neg (by omega), wr_2]; exact hν.2.1 j (by omega)
        · by_cases hsi : s = i
          · subst hsi
            rw [wrL_1, wr_eq, wrL_at, if_pos rfl]
            exact ⟨rfl, rfl⟩
          · rw [wrL_1, wr_ne (by omega), wrL_at, if_neg (by omega), wr_2]
            exact hν.2.2 s (by omega)
  refine V_iconst F (v := nI 0) dX2_copyActions_0 (by decide) ?_
  refine V_istore F (lv' := [_, _, _, _, _, _, _, _, _]) dX2_copyActions_1 (by decide) rfl rfl ?_
  exact loop b 0 μ (by omega) ⟨fun _ _ _ => rfl, fun _ _ => rfl, fun s hs => absurd hs (Nat.not_lt_zero s)⟩
theorem or_0L (x : Int64) : x ||| lN 0 = x := by
  apply Int64.toBitVec_inj.1
  show x.toBitVec ||| BitVec.ofNat 64 0 = x.toBitVec
  simp
/-- the actions of the process that is built -/
def PtA (T' : Tb) (μ μ' : Mem) (made : Nat) : Prop := (∀ c j, ¬ (c = 12 ∧ 3 * made ≤ j ∧ j < 3 * made + 3) → μ'.1 c j = μ.1 c j) ∧ (∀ j, ¬ (3 * made ≤ j ∧ j < 3 * made + 3) → μ'.2 j = μ.2 j) ∧
  ∀ s a, (acts T' made)[s]? = some a → μ'.1 12 (3 * made + s) = nI a.1 ∧ ∃ w, μ'.2 (3 * made + s) = lN w ∧ gm w a.2
theorem c_putActions {k x y p q : Nat} (hW : WF T n) (ho : bOk n k x y p q) (hf : bFit T n k p q) (h9 : ∀ j, j < n → μ.1 9 j = nI (T 6 j)) (hA : ∀ p s a, p < n → (acts T p)[s]? = some a → μ.1 12 (3 * p + s) = nI a.1 ∧ ∃ w, μ.2 (3 * p + s) = lN w ∧ gm w a.2) : Ct (GS g) l (2) yX2_putActions cX2_putActions 9 none [.ref (g.1 1), .int (nI n), .int (nI k), .int (nI x), .int (nI y), .int (nI p), .int (nI q)] μ ((fun r μ' => r = none ∧ PtA (bT T n k x y p q) μ μ' n)) := by
  have hW' := bT_wf hW ho hf
  have hac := acts_eq hW' (Nat.lt_succ_self n)
  have hcg : ∀ j, j < n → acts (bT T n k x y p q) j = acts T j := fun j hj => acts_congr hW hW' (by omega) (fun f i hi => bT_old (by omega)) j hj
  have e0 : bT T n k x y p q 0 n = k := by simp [bT]
  have e1 : bT T n k x y p q 1 n = x := by simp [bT]
  have e2 : bT T n k x y p q 2 n = y := by simp [bT]
  have e3 : bT T n k x y p q 3 n = p := by simp [bT]
  have e4 : bT T n k x y p q 4 n = q := by simp [bT]
  obtain ⟨o1, o2, o3, o4, o5, o6, o7, o8, o9, o10⟩ := ho
  obtain ⟨f1, f2, f3⟩ := hf
  rw [e0, e1, e2, e3, e4, hcg p o5, hcg q o6, if_neg (by omega)] at hac
  refine Ct.of (own := RX2) mi_X2_putActions rfl [some (.ref (g.1 1)), some (.int (nI n)), some (.int (nI k)), some (.int (nI x)), some (.int (nI y)), some (.int (nI p)), some (.int (nI q)), none, none] (Nat.le_of_ble_eq_true rfl) rfl (fun p₀ e₀ s₀ m₀ b₀ h₀ c₀ F => ?_)
  refine V_iload_n F dX2_putActions_0 rfl ?_
  refine V_callSi F (c_isAction (by omega)) mi_X2_isAction ms_X2_isAction lk_X2_78 dX2_putActions_1 (rmR (by omega)) rfl rfl (by decide) (Nat.le_of_ble_eq_true rfl) ?_
  by_cases hk3 : k ≤ 3
  · rw [if_pos ⟨o1, hk3⟩]
    rw [if_pos hk3] at hac
    refine V_if_eq_f F (tgt := 30) dX2_putActions_4 (by decide) (by decide) ?_
    refine V_aload_n F dX2_putActions_7 rfl ?_
    refine V_getf F (q0 := 1) (j := 10) lk_X2_43 dX2_putActions_8 ig_X2 rfl rfl (by decide) rfl rfl ?_
    refine V_iload_n F dX2_putActions_11 rfl ?_
    refine V_iconst F (v := nI 3) dX2_putActions_12 (by decide) ?_
    (first | refine V_imulN F dX2_putActions_13 ?_ | refine V_imul F dX2_putActions_13 ?_)
    refine V_iload_n F dX2_putActions_14 rfl ?_
    rw [Nat.mul_comm n 3]
    refine V_callSN0 F (c_put (q := 12) rfl (show 3 * n < 72 by omega)) mi_X3_put ms_X3_put nk_X2_64 dX2_putActions_15 (rmR (by omega)) rfl rfl (by decide) (Nat.le_of_ble_eq_true rfl) ?_
    refine V_aload_n F dX2_putActions_18 rfl ?_
    refine V_getf F (q0 := 1) (j := 11) lk_X2_46 dX2_putActions_19 ig_X2 rfl rfl (by decide) rfl rfl ?_
    refine V_iload_n F dX2_putActions_22 rfl ?_
    refine V_iconst F (v := nI 3) dX2_putActions_23 (by decide) ?_
    (first | refine V_imulN F dX2_putActions_24 ?_ | refine V_imul F dX2_putActions_24 ?_)
    refine V_lconst F (v := 0) dX2_putActions_25 rfl ?_
    rw [Nat.mul_comm n 3]
    refine V_callSN0 F (c_putL (show 3 * n < 72 by omega)) mi_X3_put_ ms_X3_put_ nk_X2_96 dX2_putActions_26 (rmR (by omega)) rfl rfl (by decide) (Nat.le_of_ble_eq_true rfl) ?_
    refine V_vret F dX2_putActions_29 ⟨rfl, fun c j hj => ?_, fun j hj => ?_, fun s a hs => ?_⟩
    · rw [wrL_1, wr_ne (by omega)]
    · rw [wrL_at, if_neg (by omega), wr_2]
    · rw [hac] at hs
      cases s with
      | zero =>
        cases hs
        exact ⟨by rw [wrL_1]; exact wr_eq, 0, by rw [wrL_at]; exact if_pos rfl, gm_nil⟩
      | succ s => simp at hs
  · rw [if_neg (by omega)]
    rw [if_neg hk3] at hac
    unfold bB at f3
    rw [if_neg hk3] at f3
    refine V_if_eq_t F (tgt := 30) dX2_putActions_4 (by decide) (by decide) ?_
    refine V_iload_n F dX2_putActions_30 rfl ?_
    refine V_iconst F (v := nI 4) dX2_putActions_31 (by decide) ?_
    refine V_icmp_ne_N F (tgt := 47) dX2_putActions_32 (by decide) (by omega) (by omega) (fun h4 => ?_) (fun h4 => ?_)
    · have hk5 : k = 5 := by omega
      rw [if_neg (by omega)] at hac
      refine V_lconst F (v := 0) dX2_putActions_47 rfl ?_
      refine V_lstore F (lv' := [_, _, _, _, _, _, _, _, _]) dX2_putActions_48 (by decide) rfl rfl ?_
      refine V_aload_n F dX2_putActions_50 rfl ?_
      refine V_iload F dX2_putActions_51 rfl ?_
      refine V_iload_n F dX2_putActions_53 rfl ?_
      refine V_iconst F (v := nI 0) dX2_putActions_54 (by decide) ?_
      refine V_lload F dX2_putActions_55 rfl ?_
      refine V_callV F (q0 := 1) (c_copy (part := p) (made := n) (behind := 0) (b := T 6 p) (h9 p o5) o5 f1 (by omega)) mi_X2_copyActions mm_X2_copyActions lk_X2_99 dX2_putActions_57 (rmR (by omega)) rfl rfl (by decide) (Nat.le_of_ble_eq_true rfl) rfl rfl rfl (fun r μ' h => ?_)
      obtain ⟨rfl, hC⟩ := h
      refine V_aload_n F dX2_putActions_60 rfl ?_
      refine V_iload F dX2_putActions_61 rfl ?_
      refine V_iload_n F dX2_putActions_63 rfl ?_
      refine V_aload_n F dX2_putActions_64 rfl ?_
      refine V_getf F (q0 := 1) (j := 7) lk_X2_30 dX2_putActions_65 ig_X2 rfl rfl (by decide) rfl rfl ?_
      refine V_iload F dX2_putActions_68 rfl ?_
      refine V_callSNi F (c_at (q := 9) (v := nI (T 6 p)) rfl (show p < 24 by omega) (by rw [hC.1 _ _ (by omega)]; exact h9 p o5)) mi_X3_at ms_X3_at nk_X2_68 dX2_putActions_70 (rmR (by omega)) rfl rfl (by decide) (Nat.le_of_ble_eq_true rfl) ?_
      refine V_lload F dX2_putActions_73 rfl ?_
      refine V_callV F (q0 := 1) (c_copy (part := q) (made := n) (behind := T 6 p) (b := T 6 q) (by rw [hC.1 _ _ (by omega)]; exact h9 q o6) o6 f1 (by omega)) mi_X2_copyActions mm_X2_copyActions lk_X2_99 dX2_putActions_75 (rmR (by omega)) rfl rfl (by decide) (Nat.le_of_ble_eq_true rfl) rfl rfl rfl (fun r μ' h => ?_)
      obtain ⟨rfl, hD⟩ := h
      refine V_vret F dX2_putActions_78 ⟨rfl, fun c j hj => ?_, fun j hj => ?_, fun s a hs => ?_⟩
      · rw [hD.1 _ _ (by omega), hC.1 _ _ (by omega)]
      · rw [hD.2.1 _ (by omega), hC.2.1 _ (by omega)]
      · rw [hac] at hs
        have hl := acts_len hW o5
        have hl2 := acts_len hW o6
        by_cases hsl : s < T 6 p
        · rw [List.getElem?_append_left (by omega)] at hs
          obtain ⟨b1, w, b2, b3⟩ := hA p s a o5 hs
          obtain ⟨c1, c2⟩ := hC.2.2 s hsl
          rw [hD.1 _ _ (by omega), hD.2.1 _ (by omega)]
          exact ⟨c1.trans b1, w, by rw [show 3 * n + s = 3 * n + 0 + s by omega, c2, b2]; exact or_0L _, b3⟩
        · rw [List.getElem?_append_right (by omega), hl] at hs
          obtain ⟨b1, w, b2, b3⟩ := hA q _ a o6 hs
          have hlt := (List.getElem?_eq_some_iff.mp hs).1
          obtain ⟨c1, c2⟩ := hD.2.2 (s - T 6 p) (by omega)
          rw [show 3 * n + T 6 p + (s - T 6 p) = 3 * n + s by omega] at c1 c2
          rw [c1, c2, hC.1 _ _ (by omega), hC.2.1 _ (by omega)]
          exact ⟨b1, w, by rw [b2]; exact or_0L _, b3⟩
    · have h4 := Classical.not_not.mp h4
      have hq0 := o10 (by omega)
      have h60 : T 6 q = 0 := by rw [hq0]; exact hW.2.1.2.2.2.2.2.2.1
      rw [if_pos h4] at hac
      refine V_lconst F (v := 1) dX2_putActions_35 rfl ?_
      refine V_iload_n F dX2_putActions_36 rfl ?_
      refine V_bipush F (v := nI 6) dX2_putActions_37 (by decide) ?_
      (first | refine V_imulN F dX2_putActions_39 ?_ | refine V_imul F dX2_putActions_39 ?_)
      refine V_iload F dX2_putActions_40 rfl ?_
      (first | refine V_iaddN F dX2_putActions_42 ?_ | refine V_iadd F dX2_putActions_42 ?_)
      refine V_lshl F dX2_putActions_43 ?_
      refine V_valL F (wb_shl 1 (show x * 6 + y < 64 by omega)) ?_
      refine V_goto F (tgt := 48) dX2_putActions_44 (by decide) ?_
      refine V_lstore F (lv' := [_, _, _, _, _, _, _, _, _]) dX2_putActions_48 (by decide) rfl rfl ?_
      refine V_aload_n F dX2_putActions_50 rfl ?_
      refine V_iload F dX2_putActions_51 rfl ?_
      refine V_iload_n F dX2_putActions_53 rfl ?_
      refine V_iconst F (v := nI 0) dX2_putActions_54 (by decide) ?_
      refine V_lload F dX2_putActions_55 rfl ?_
      refine V_callV F (q0 := 1) (c_copy (part := p) (made := n) (behind := 0) (b := T 6 p) (h9 p o5) o5 f1 (by omega)) mi_X2_copyActions mm_X2_copyActions lk_X2_99 dX2_putActions_57 (rmR (by omega)) rfl rfl (by decide) (Nat.le_of_ble_eq_true rfl) rfl rfl rfl (fun r μ' h => ?_)
      obtain ⟨rfl, hC⟩ := h
      refine V_aload_n F dX2_putActions_60 rfl ?_
      refine V_iload F dX2_putActions_61 rfl ?_
      refine V_iload_n F dX2_putActions_63 rfl ?_
      refine V_aload_n F dX2_putActions_64 rfl ?_
      refine V_getf F (q0 := 1) (j := 7) lk_X2_30 dX2_putActions_65 ig_X2 rfl rfl (by decide) rfl rfl ?_
      refine V_iload F dX2_putActions_68 rfl ?_
      refine V_callSNi F (c_at (q := 9) (v := nI (T 6 p)) rfl (show p < 24 by omega) (by rw [hC.1 _ _ (by omega)]; exact h9 p o5)) mi_X3_at ms_X3_at nk_X2_68 dX2_putActions_70 (rmR (by omega)) rfl rfl (by decide) (Nat.le_of_ble_eq_true rfl) ?_
      refine V_lload F dX2_putActions_73 rfl ?_
      refine V_callV F (q0 := 1) (c_copy (part := q) (made := n) (behind := T 6 p) (b := T 6 q) (by rw [hC.1 _ _ (by omega)]; exact h9 q o6) o6 f1 (by omega)) mi_X2_copyActions mm_X2_copyActions lk_X2_99 dX2_putActions_75 (rmR (by omega)) rfl rfl (by decide) (Nat.le_of_ble_eq_true rfl) rfl rfl rfl (fun r μ' h => ?_)
      obtain ⟨rfl, hD⟩ := h
      refine V_vret F dX2_putActions_78 ⟨rfl, fun c j hj => ?_, fun j hj => ?_, fun s a hs => ?_⟩
      · rw [hD.1 _ _ (by omega), hC.1 _ _ (by omega)]
      · rw [hD.2.1 _ (by omega), hC.2.1 _ (by omega)]
      · rw [hac, List.getElem?_map] at hs
        have hl := acts_len hW o5
        cases ha : (acts T p)[s]? with
        | none => rw [ha] at hs; cases hs
        | some a' =>
          rw [ha] at hs
          cases hs
          have hlt := (List.getElem?_eq_some_iff.mp ha).1
          obtain ⟨b1, w, b2, b3⟩ := hA p s a' o5 ha
          obtain ⟨c1, c2⟩ := hC.2.2 s (by omega)
          rw [hD.1 _ _ (by omega), hD.2.1 _ (by omega)]
          refine ⟨c1.trans b1, w ||| 2 ^ (x * 6 + y), ?_, gm_cons b3 o3 o4⟩
          rw [show 3 * n + s = 3 * n + 0 + s by omega, c2, b2, wb_or (by have := b3.1; omega) (by rw [Nat.one_mul]; exact Nat.pow_lt_pow_right (by omega) (by omega)), Nat.one_mul]
end BUILD
end
section
section MAKE0
variable {T : Tb} {n : Nat}
def BQ (T : Tb) (n k x y p q : Nat) (μ : Mem) : Option Value → Mem → Prop := fun r μ' => (bFit T n k p q ∧ r = some (.int (nI n)) ∧ XInv (bT T n k x y p q) (n + 1) μ' ∧ sameM μ μ') ∨ (¬ bFit T n k p q ∧ r = some (.int (-3)) ∧ μ' = μ)
def oTau (n : Nat) (p : Int32) : Option (Nat × Nat × Nat × Nat × Nat) := match pj n p with
  | some j => some (1, 0, 0, j, 0)
  | none => none
def oOut (n : Nat) (x y p : Int32) : Option (Nat × Nat × Nat × Nat × Nat) := match pj 6 x with
  | none => none
  | some a => match pj 6 y with
    | none => none
    | some b => match pj n p with
      | some j => some (2, a, b, j, 0)
      | none => none
def oIn (n : Nat) (x p : Int32) : Option (Nat × Nat × Nat × Nat × Nat) := match pj 6 x with
  | none => none
  | some a => match pj n p with
    | some j => some (3, a, 0, j, 0)
    | none => none
def oMat (n : Nat) (x y p : Int32) : Option (Nat × Nat × Nat × Nat × Nat) := match pj 6 x with
  | none => none
  | some a => match pj 6 y with
    | none => none
    | some b => match pj n p with
      | some j => some (4, a, b, j, 0)
      | none => none
def oSum (n : Nat) (p q : Int32) : Option (Nat × Nat × Nat × Nat × Nat) := match pj n p with
  | none => none
  | some i => match pj n q with
    | some j => some (5, 0, 0, i, j)
    | none => none
def BP (T : Tb) (n : Nat) (o : Option (Nat × Nat × Nat × Nat × Nat)) (μ : Mem) : Option Value → Mem → Prop := match o with
  | none => Is (.int (-1)) μ
  | some (k, x, y, p, q) => BQ T n k x y p q μ
theorem bOk_tau {j : Nat} (hj : j < n) : bOk n 1 0 0 j 0 := by unfold bOk; omega
theorem bOk_out {a b j : Nat} (ha : a < 6) (hb : b < 6) (hj : j < n) : bOk n 2 a b j 0 := by unfold bOk; omega
theorem bOk_in {a j : Nat} (ha : a < 6) (hj : j < n) : bOk n 3 a 0 j 0 := by unfold bOk; omega
theorem bOk_mat {a b j : Nat} (ha : a < 6) (hb : b < 6) (hj : j < n) : bOk n 4 a b j 0 := by unfold bOk; omega
theorem bOk_sum {i j : Nat} (hi : i < n) (hj : j < n) : bOk n 5 0 0 i j := by unfold bOk; omega
theorem hk3_iff {k : Nat} (h1 : 1 ≤ k) : (1 ≤ k ∧ k ≤ 3) ↔ k ≤ 3 := by omega
end MAKE0
section MAKE
variable {g : Gm} {l : Launch} {μ : Mem} {T : Tb} {n : Nat}
theorem c_build {k x y p q : Nat} (hI : XInv T n μ) (ho : bOk n k x y p q) : Ct (GS g) l (3) yX2_build cX2_build 9 (some .int) [.ref (g.1 1), .int (nI k), .int (nI x), .int (nI y), .int (nI p), .int (nI q)] μ (BQ T n k x y p q μ) := by
  have hX := hI.1
  have hn := hX.n24
  have hW := hX.1
  obtain ⟨o1, o2, o3, o4, o5, o6, o7, o8, o9, o10⟩ := id ho
  have hd1 := hW.depth o5
  have hd2 := hW.depth o6
  have hn1 := hW.need o5
  have hn2 := hW.need o6
  refine Ct.of (own := RX2) mi_X2_build rfl [some (.ref (g.1 1)), some (.int (nI k)), some (.int (nI x)), some (.int (nI y)), some (.int (nI p)), some (.int (nI q)), none, none, none] (Nat.le_of_ble_eq_true rfl) rfl (fun p₀ e₀ s₀ m₀ b₀ h₀ c₀ F => ?_)
  have hbD : bD T k p q ≤ 4 := by unfold bD; split <;> omega
  have hbB : bB T k p q ≤ 6 := by unfold bB; split <;> omega
  have main : V (GS g) p₀ l e₀ (rmD (3)) s₀ m₀ (List.toArray [.ref (g.1 1), .int (nI k), .int (nI x), .int (nI y), .int (nI p), .int (nI q)]) b₀ h₀ c₀ 9 0 0 (MQ b₀ (Qp (GS g) (BQ T n k x y p q μ)) (List.toArray [.ref (g.1 1), .int (nI k), .int (nI x), .int (nI y), .int (nI p), .int (nI q)]) s₀ 0 0 (gA (GS g))) 68 ([some (.ref (g.1 1)), some (.int (nI k)), some (.int (nI x)), some (.int (nI y)), some (.int (nI p)), some (.int (nI q)), some (.int (nI (bD T k p q))), some (.int (nI (bB T k p q))), none]) ([]) (μ) := by
    refine V_aload_n F dX2_build_68 rfl ?_
    refine V_getf F (q0 := 1) (j := 0) lk_X2_50 dX2_build_69 ig_X2 rfl rfl (by decide) rfl rfl ?_
    refine V_val F (hX.2.1) ?_
    refine V_bipush F (v := nI 24) dX2_build_72 (by decide) ?_
    have bad : ¬ bFit T n k p q → V (GS g) p₀ l e₀ (rmD (3)) s₀ m₀ (List.toArray [.ref (g.1 1), .int (nI k), .int (nI x), .int (nI y), .int (nI p), .int (nI q)]) b₀ h₀ c₀ 9 0 0 (MQ b₀ (Qp (GS g) (BQ T n k x y p q μ)) (List.toArray [.ref (g.1 1), .int (nI k), .int (nI x), .int (nI y), .int (nI p), .int (nI q)]) s₀ 0 0 (gA (GS g))) 89 ([some (.ref (g.1 1)), some (.int (nI k)), some (.int (nI x)), some (.int (nI y)), some (.int (nI p)), some (.int (nI q)), some (.int (nI (bD T k p q))), some (.int (nI (bB T k p q))), none]) ([]) (μ) := by
      intro hf
      refine V_bipush F (v := (-3)) dX2_build_89 (by decide) ?_
      exact V_iret F dX2_build_91 (Or.inr ⟨hf, rfl, rfl⟩)
    refine V_icmp_ge_N F (tgt := 89) dX2_build_74 (by decide) (by omega) (by omega) (fun h1 => ?_) (fun h1 => ?_)
    · exact bad (fun hf => by have := hf.1; omega)
    · skip
      refine V_iload F dX2_build_77 rfl ?_
      refine V_iconst F (v := nI 3) dX2_build_79 (by decide) ?_
      refine V_icmp_gt_N F (tgt := 89) dX2_build_80 (by decide) (by omega) (by omega) (fun h2 => ?_) (fun h2 => ?_)
      · exact bad (fun hf => by have := hf.2.1; omega)
      · skip
        refine V_iload F dX2_build_83 rfl ?_
        refine V_iconst F (v := nI 3) dX2_build_85 (by decide) ?_
        refine V_icmp_le_N F (tgt := 92) dX2_build_86 (by decide) (by omega) (by omega) (fun h3 => ?_) (fun h3 => ?_)
        · have hf : bFit T n k p q := ⟨by omega, by omega, h3⟩
          have hn24 : n < 24 := hf.1
          have eN : max (max x y - 2) (max (T 7 p - (if k = 3 then 1 else 0)) (T 7 q)) = bN T k x y p q := rfl
          have eL : hdl k + T 8 p + (if k = 5 then T 8 q + 2 else 0) = bL T k p q := rfl
          refine V_aload_n F dX2_build_92 rfl ?_
          refine V_getf F (q0 := 1) (j := 0) lk_X2_50 dX2_build_93 ig_X2 rfl rfl (by decide) rfl rfl ?_
          refine V_val F (hX.2.1) ?_
          refine V_istore F (lv' := [_, _, _, _, _, _, _, _, _]) dX2_build_96 (by decide) rfl rfl ?_
          refine V_aload_n F dX2_build_98 rfl ?_
          refine V_iload F dX2_build_99 rfl ?_
          refine V_iconst F (v := nI 1) dX2_build_101 (by decide) ?_
          (first | refine V_iaddN F dX2_build_102 ?_ | refine V_iadd F dX2_build_102 ?_)
          refine V_putf F 1 0 lk_X2_50 dX2_build_103 ig_X2 tyX2 tyX2_ok nmX2 rfl rfl (by decide) rfl rfl (by decide +kernel) (Nat.le_of_ble_eq_true rfl) (μ' := wr _ 1 0 _) rfl ?_
          refine V_aload_n F dX2_build_106 rfl ?_
          refine V_getf F (q0 := 1) (j := 1) lk_X2_9 dX2_build_107 ig_X2 rfl rfl (by decide) rfl rfl ?_
          refine V_iload F dX2_build_110 rfl ?_
          refine V_iload_n F dX2_build_112 rfl ?_
          refine V_callSN0 F (c_put (q := 3) rfl (show n < 24 by omega)) mi_X3_put ms_X3_put nk_X2_64 dX2_build_113 (rmR (by omega)) rfl rfl (by decide) (Nat.le_of_ble_eq_true rfl) ?_
          refine V_aload_n F dX2_build_116 rfl ?_
          refine V_getf F (q0 := 1) (j := 2) lk_X2_15 dX2_build_117 ig_X2 rfl rfl (by decide) rfl rfl ?_
          refine V_iload F dX2_build_120 rfl ?_
          refine V_iload_n F dX2_build_122 rfl ?_
          refine V_callSN0 F (c_put (q := 4) rfl (show n < 24 by omega)) mi_X3_put ms_X3_put nk_X2_64 dX2_build_123 (rmR (by omega)) rfl rfl (by decide) (Nat.le_of_ble_eq_true rfl) ?_
          refine V_aload_n F dX2_build_126 rfl ?_
          refine V_getf F (q0 := 1) (j := 3) lk_X2_18 dX2_build_127 ig_X2 rfl rfl (by decide) rfl rfl ?_
          refine V_iload F dX2_build_130 rfl ?_
          refine V_iload_n F dX2_build_132 rfl ?_
          refine V_callSN0 F (c_put (q := 5) rfl (show n < 24 by omega)) mi_X3_put ms_X3_put nk_X2_64 dX2_build_133 (rmR (by omega)) rfl rfl (by decide) (Nat.le_of_ble_eq_true rfl) ?_
          refine V_aload_n F dX2_build_136 rfl ?_
          refine V_getf F (q0 := 1) (j := 4) lk_X2_21 dX2_build_137 ig_X2 rfl rfl (by decide) rfl rfl ?_
          refine V_iload F dX2_build_140 rfl ?_
          refine V_iload F dX2_build_142 rfl ?_
          refine V_callSN0 F (c_put (q := 6) rfl (show n < 24 by omega)) mi_X3_put ms_X3_put nk_X2_64 dX2_build_144 (rmR (by omega)) rfl rfl (by decide) (Nat.le_of_ble_eq_true rfl) ?_
          refine V_aload_n F dX2_build_147 rfl ?_
          refine V_getf F (q0 := 1) (j := 5) lk_X2_24 dX2_build_148 ig_X2 rfl rfl (by decide) rfl rfl ?_
          refine V_iload F dX2_build_151 rfl ?_
          refine V_iload F dX2_build_153 rfl ?_
          refine V_callSN0 F (c_put (q := 7) rfl (show n < 24 by omega)) mi_X3_put ms_X3_put nk_X2_64 dX2_build_155 (rmR (by omega)) rfl rfl (by decide) (Nat.le_of_ble_eq_true rfl) ?_
          refine V_aload_n F dX2_build_158 rfl ?_
          refine V_getf F (q0 := 1) (j := 6) lk_X2_27 dX2_build_159 ig_X2 rfl rfl (by decide) rfl rfl ?_
          refine V_iload F dX2_build_162 rfl ?_
          refine V_iload F dX2_build_164 rfl ?_
          refine V_callSN0 F (c_put (q := 8) rfl (show n < 24 by omega)) mi_X3_put ms_X3_put nk_X2_64 dX2_build_166 (rmR (by omega)) rfl rfl (by decide) (Nat.le_of_ble_eq_true rfl) ?_
          refine V_aload_n F dX2_build_169 rfl ?_
          refine V_getf F (q0 := 1) (j := 7) lk_X2_30 dX2_build_170 ig_X2 rfl rfl (by decide) rfl rfl ?_
          refine V_iload F dX2_build_173 rfl ?_
          refine V_iload F dX2_build_175 rfl ?_
          refine V_callSN0 F (c_put (q := 9) rfl (show n < 24 by omega)) mi_X3_put ms_X3_put nk_X2_64 dX2_build_177 (rmR (by omega)) rfl rfl (by decide) (Nat.le_of_ble_eq_true rfl) ?_
          refine V_aload_n F dX2_build_180 rfl ?_
          refine V_getf F (q0 := 1) (j := 8) lk_X2_33 dX2_build_181 ig_X2 rfl rfl (by decide) rfl rfl ?_
          refine V_iload F dX2_build_184 rfl ?_
          refine V_aload_n F dX2_build_186 rfl ?_
          refine V_iload_n F dX2_build_187 rfl ?_
          refine V_iload_n F dX2_build_188 rfl ?_
          refine V_iload_n F dX2_build_189 rfl ?_
          refine V_iload F dX2_build_190 rfl ?_
          refine V_iload F dX2_build_192 rfl ?_
          refine V_callVi F (q0 := 1) (c_needFor (k := k) (x := x) (y := y) (p := p) (q := q) (a := T 7 p) (c := T 7 q) (by omega) o3 o4 (by omega) (by omega) (by omega) (by omega) (by (repeat rw [wr_ne (by omega)]); exact hX.fld 7 rfl (by omega) o5) (by (repeat rw [wr_ne (by omega)]); exact hX.fld 7 rfl (by omega) o6)) mi_X2_needFor mm_X2_needFor lk_X2_82 dX2_build_194 (rmR (by omega)) rfl rfl (by decide) (Nat.le_of_ble_eq_true rfl) rfl rfl rfl ?_
          rw [eN]
          refine V_callSN0 F (c_put (q := 10) rfl (show n < 24 by omega)) mi_X3_put ms_X3_put nk_X2_64 dX2_build_197 (rmR (by omega)) rfl rfl (by decide) (Nat.le_of_ble_eq_true rfl) ?_
          refine V_aload_n F dX2_build_200 rfl ?_
          refine V_getf F (q0 := 1) (j := 9) lk_X2_40 dX2_build_201 ig_X2 rfl rfl (by decide) rfl rfl ?_
          refine V_iload F dX2_build_204 rfl ?_
          refine V_aload_n F dX2_build_206 rfl ?_
          refine V_iload_n F dX2_build_207 rfl ?_
          refine V_iload F dX2_build_208 rfl ?_
          refine V_iload F dX2_build_210 rfl ?_
          refine V_callVi F (q0 := 1) (c_lengthFor (k := k) (p := p) (q := q) (a := T 8 p) (c := T 8 q) (by omega) (by omega) (by omega) (by (repeat rw [wr_ne (by omega)]); exact hX.fld 8 rfl (by omega) o5) (by (repeat rw [wr_ne (by omega)]); exact hX.fld 8 rfl (by omega) o6)) mi_X2_lengthFor mm_X2_lengthFor lk_X2_86 dX2_build_212 (rmR (by omega)) rfl rfl (by decide) (Nat.le_of_ble_eq_true rfl) rfl rfl rfl ?_
          rw [eL]
          refine V_callSN0 F (c_put (q := 11) rfl (show n < 24 by omega)) mi_X3_put ms_X3_put nk_X2_64 dX2_build_215 (rmR (by omega)) rfl rfl (by decide) (Nat.le_of_ble_eq_true rfl) ?_
          refine V_aload_n F dX2_build_218 rfl ?_
          refine V_iload F dX2_build_219 rfl ?_
          refine V_iload_n F dX2_build_221 rfl ?_
          refine V_iload_n F dX2_build_222 rfl ?_
          refine V_iload_n F dX2_build_223 rfl ?_
          refine V_iload F dX2_build_224 rfl ?_
          refine V_iload F dX2_build_226 rfl ?_
          refine V_callV F (q0 := 1) (c_putActions (T := T) hW ho hf (fun j hj => by (repeat rw [wr_ne (by omega)]); exact hX.fld 6 rfl (by omega) hj) (fun i s a hi ha => by have := hX.2.2.2 i s a hi ha; (repeat rw [wr_ne (by omega)]); exact this)) mi_X2_putActions mm_X2_putActions lk_X2_90 dX2_build_228 (rmR (by omega)) rfl rfl (by decide) (Nat.le_of_ble_eq_true rfl) rfl rfl rfl (fun r μ' h => ?_)
          obtain ⟨rfl, hP⟩ := h
          refine V_iload F dX2_build_231 rfl ?_
          refine V_iret F dX2_build_233 (Or.inl ⟨hf, rfl, ⟨⟨bT_wf hW ho hf, ?_, fun f j hf9 hj => ?_, fun i s a hi ha => ?_⟩, ?_⟩, fun c hc => ?_⟩)
          · rw [hP.1 _ _ (by omega)]
            repeat rw [wr_ne (by omega)]
            exact wr_eq
          · rw [hP.1 _ _ (by omega)]
            by_cases hjn : j = n
            · subst hjn
              rcases (by omega : f = 0 ∨ f = 1 ∨ f = 2 ∨ f = 3 ∨ f = 4 ∨ f = 5 ∨ f = 6 ∨ f = 7 ∨ f = 8) with rfl | rfl | rfl | rfl | rfl | rfl | rfl | rfl | rfl <;> simp [wr_at, bT]
            · rw [bT_old hjn]
              repeat rw [wr_ne (by omega)]
              exact hX.2.2.1 f j hf9 (by omega)
          · by_cases hin : i = n
            · subst hin
              exact hP.2.2 s a ha
            · rw [acts_congr hW (bT_wf hW ho hf) (by omega) (fun f j hj => bT_old (by omega)) i (by omega)] at ha
              have hlt := (List.getElem?_eq_some_iff.mp ha).1
              rw [acts_len hW (by omega)] at hlt
              have h63 := (hW.depth (show i < n by omega)).2
              have := hX.2.2.2 i s a (by omega) ha
              rw [hP.1 _ _ (by omega), hP.2.1 _ (by omega)]
              repeat rw [wr_ne (by omega)]
              exact this
          · refine hI.2.grow hW (bT_wf hW ho hf) (by omega) (fun f j hj => bT_old (by omega)) ?_
            funext j
            rw [hP.1 _ _ (by omega)]
            repeat rw [wr_ne (by omega)]
          · funext j
            rw [hP.1 _ _ (by omega)]
            repeat rw [wr_ne (by omega)]
        · exact bad (fun hf => by have := hf.2.2; omega)
  have eD1 : k ≤ 3 → max (T 5 p) (T 5 q) + 1 = bD T k p q := fun h => by unfold bD; rw [if_pos h]
  have eD0 : ¬ k ≤ 3 → max (T 5 p) (T 5 q) + 0 = bD T k p q := fun h => by unfold bD; rw [if_neg h]
  refine V_aload_n F dX2_build_0 rfl ?_
  refine V_getf F (q0 := 1) (j := 6) lk_X2_27 dX2_build_1 ig_X2 rfl rfl (by decide) rfl rfl ?_
  refine V_iload F dX2_build_4 rfl ?_
  refine V_callSNi F (c_at (q := 8) rfl (show p < 24 by omega) (hX.fld 5 rfl (by omega) o5)) mi_X3_at ms_X3_at nk_X2_68 dX2_build_6 (rmR (by omega)) rfl rfl (by decide) (Nat.le_of_ble_eq_true rfl) ?_
  refine V_aload_n F dX2_build_9 rfl ?_
  refine V_getf F (q0 := 1) (j := 6) lk_X2_27 dX2_build_10 ig_X2 rfl rfl (by decide) rfl rfl ?_
  refine V_iload F dX2_build_13 rfl ?_
  refine V_callSNi F (c_at (q := 8) rfl (show q < 24 by omega) (hX.fld 5 rfl (by omega) o6)) mi_X3_at ms_X3_at nk_X2_68 dX2_build_15 (rmR (by omega)) rfl rfl (by decide) (Nat.le_of_ble_eq_true rfl) ?_
  refine V_maxN F lk_X2_72 dX2_build_18 (rmM (by omega) (Nat.le_of_ble_eq_true rfl)) (by omega) (by omega) ?_
  refine V_iload_n F dX2_build_21 rfl ?_
  refine V_callSi F (c_isAction (by omega)) mi_X2_isAction ms_X2_isAction lk_X2_78 dX2_build_22 (rmR (by omega)) rfl rfl (by decide) (Nat.le_of_ble_eq_true rfl) ?_
  by_cases hk3 : k ≤ 3
  · rw [if_pos ⟨o1, hk3⟩]
    refine V_if_eq_f F (tgt := 32) dX2_build_25 (by decide) (by decide) ?_
    refine V_iconst F (v := nI 1) dX2_build_28 (by decide) ?_
    refine V_goto F (tgt := 33) dX2_build_29 (by decide) ?_
    (first | refine V_iaddN F dX2_build_33 ?_ | refine V_iadd F dX2_build_33 ?_)
    rw [eD1 hk3]
    refine V_istore F (lv' := [_, _, _, _, _, _, _, _, _]) dX2_build_34 (by decide) rfl rfl ?_
    refine V_iload_n F dX2_build_36 rfl ?_
    refine V_callSi F (c_isAction (by omega)) mi_X2_isAction ms_X2_isAction lk_X2_78 dX2_build_37 (rmR (by omega)) rfl rfl (by decide) (Nat.le_of_ble_eq_true rfl) ?_
    rw [if_pos ⟨o1, hk3⟩]
    refine V_if_eq_f F (tgt := 47) dX2_build_40 (by decide) (by decide) ?_
    refine V_iconst F (v := nI 1) dX2_build_43 (by decide) ?_
    refine V_goto F (tgt := 66) dX2_build_44 (by decide) ?_
    refine V_istore F (lv' := [_, _, _, _, _, _, _, _, _]) dX2_build_66 (by decide) rfl rfl ?_
    rw [show bB T k p q = 1 from if_pos hk3] at main
    exact main
  · rw [if_neg (by omega)]
    refine V_if_eq_t F (tgt := 32) dX2_build_25 (by decide) (by decide) ?_
    refine V_iconst F (v := nI 0) dX2_build_32 (by decide) ?_
    (first | refine V_iaddN F dX2_build_33 ?_ | refine V_iadd F dX2_build_33 ?_)
    rw [eD0 hk3]
    refine V_istore F (lv' := [_, _, _, _, _, _, _, _, _]) dX2_build_34 (by decide) rfl rfl ?_
    refine V_iload_n F dX2_build_36 rfl ?_
    refine V_callSi F (c_isAction (by omega)) mi_X2_isAction ms_X2_isAction lk_X2_78 dX2_build_37 (rmR (by omega)) rfl rfl (by decide) (Nat.le_of_ble_eq_true rfl) ?_
    rw [if_neg (by omega)]
    refine V_if_eq_t F (tgt := 47) dX2_build_40 (by decide) (by decide) ?_
    refine V_aload_n F dX2_build_47 rfl ?_
    refine V_getf F (q0 := 1) (j := 7) lk_X2_30 dX2_build_48 ig_X2 rfl rfl (by decide) rfl rfl ?_
    refine V_iload F dX2_build_51 rfl ?_
    refine V_callSNi F (c_at (q := 9) rfl (show p < 24 by omega) (hX.fld 6 rfl (by omega) o5)) mi_X3_at ms_X3_at nk_X2_68 dX2_build_53 (rmR (by omega)) rfl rfl (by decide) (Nat.le_of_ble_eq_true rfl) ?_
    refine V_aload_n F dX2_build_56 rfl ?_
    refine V_getf F (q0 := 1) (j := 7) lk_X2_30 dX2_build_57 ig_X2 rfl rfl (by decide) rfl rfl ?_
    refine V_iload F dX2_build_60 rfl ?_
    refine V_callSNi F (c_at (q := 9) rfl (show q < 24 by omega) (hX.fld 6 rfl (by omega) o6)) mi_X3_at ms_X3_at nk_X2_68 dX2_build_62 (rmR (by omega)) rfl rfl (by decide) (Nat.le_of_ble_eq_true rfl) ?_
    (first | refine V_iaddN F dX2_build_65 ?_ | refine V_iadd F dX2_build_65 ?_)
    refine V_istore F (lv' := [_, _, _, _, _, _, _, _, _]) dX2_build_66 (by decide) rfl rfl ?_
    rw [show bB T k p q = T 6 p + T 6 q from if_neg hk3] at main
    exact main
theorem c_tau (hI : XInv T n μ) (p : Int32) : Ct (GS g) l (4) yX3_tau cX3_tau 2 (some .int) [.ref (g.1 0), .int p] μ (BP T n (oTau n p) μ) := by
  have hX := hI.1
  have hn := hX.n24
  refine Ct.of (own := RX3) mi_X3_tau rfl [some (.ref (g.1 0)), some (.int p)] (Nat.le_of_ble_eq_true rfl) rfl (fun p₀ e₀ s₀ m₀ b₀ h₀ c₀ F => ?_)
  refine V_aload_n F dX3_tau_0 rfl ?_
  refine V_getf F (q0 := 0) (j := 0) lk_X3_10 dX3_tau_1 ig_X3 rfl rfl (by decide) rfl rfl ?_
  refine V_iload_n F dX3_tau_4 rfl ?_
  cases h : pj n p with
  | none =>
    have e : oTau n p = none := by unfold oTau; rw [h]
    refine V_callVNi F (q0 := 1) (c_holds_f hX.2.1 (by omega) (pj_none h (by omega))) mi_X2_holds mm_X2_holds nk_X3_25 dX3_tau_5 (rmR (by omega)) rfl rfl (by decide) (Nat.le_of_ble_eq_true rfl) rfl rfl rfl ?_
    refine V_if_ne_f F (tgt := 13) dX3_tau_8 (by decide) (by decide) ?_
    refine V_iconst F (v := (-1)) dX3_tau_11 (by decide) ?_
    exact V_iret F dX3_tau_12 (by rw [e]; exact ⟨rfl, rfl⟩)
  | some j =>
    obtain ⟨hj, rfl⟩ := pj_some h (by omega)
    have e : oTau n (nI j) = some (1, 0, 0, j, 0) := by unfold oTau; rw [h]
    refine V_callVNi F (q0 := 1) (c_holds_t hX.2.1 (by omega) hj) mi_X2_holds mm_X2_holds nk_X3_25 dX3_tau_5 (rmR (by omega)) rfl rfl (by decide) (Nat.le_of_ble_eq_true rfl) rfl rfl rfl ?_
    refine V_if_ne_t F (tgt := 13) dX3_tau_8 (by decide) (by decide) ?_
    refine V_aload_n F dX3_tau_13 rfl ?_
    refine V_getf F (q0 := 0) (j := 0) lk_X3_10 dX3_tau_14 ig_X3 rfl rfl (by decide) rfl rfl ?_
    refine V_iconst F (v := nI 1) dX3_tau_17 (by decide) ?_
    refine V_iconst F (v := nI 0) dX3_tau_18 (by decide) ?_
    refine V_iconst F (v := nI 0) dX3_tau_19 (by decide) ?_
    refine V_iload_n F dX3_tau_20 rfl ?_
    refine V_iconst F (v := nI 0) dX3_tau_21 (by decide) ?_
    refine V_callVN F (q0 := 1) (c_build hI (bOk_tau hj)) mi_X2_build mm_X2_build nk_X3_29 dX3_tau_22 (rmR (by omega)) rfl rfl (by decide) (Nat.le_of_ble_eq_true rfl) rfl rfl rfl (fun r μ' h => ?_)
    rcases h with ⟨h1, rfl, h2⟩ | ⟨h1, rfl, h2⟩
    · skip
      exact V_iret F dX3_tau_25 (by rw [e]; exact Or.inl ⟨h1, rfl, h2⟩)
    · skip
      exact V_iret F dX3_tau_25 (by rw [e]; exact Or.inr ⟨h1, rfl, h2⟩)
theorem c_input (hI : XInv T n μ) (x p : Int32) : Ct (GS g) l (4) yX3_input cX3_input 3 (some .int) [.ref (g.1 0), .int x, .int p] μ (BP T n (oIn n x p) μ) := by
  have hX := hI.1
  have hn := hX.n24
  refine Ct.of (own := RX3) mi_X3_input rfl [some (.ref (g.1 0)), some (.int x), some (.int p)] (Nat.le_of_ble_eq_true rfl) rfl (fun p₀ e₀ s₀ m₀ b₀ h₀ c₀ F => ?_)
  refine V_iload_n F dX3_input_0 rfl ?_
  cases hx : pj 6 x with
  | none =>
    have e : oIn n x p = none := by unfold oIn; rw [hx]
    refine V_callSi F (c_isName_f (pj_none hx (by omega))) mi_X3_isName ms_X3_isName lk_X3_33 dX3_input_1 (rmR (by omega)) rfl rfl (by decide) (Nat.le_of_ble_eq_true rfl) ?_
    refine V_if_eq_t F (tgt := 18) dX3_input_4 (by decide) (by decide) ?_
    refine V_iconst F (v := (-1)) dX3_input_18 (by decide) ?_
    exact V_iret F dX3_input_19 (by rw [e]; exact ⟨rfl, rfl⟩)
  | some a =>
    obtain ⟨ha, rfl⟩ := pj_some hx (by omega)
    refine V_callSi F (c_isName_t ha) mi_X3_isName ms_X3_isName lk_X3_33 dX3_input_1 (rmR (by omega)) rfl rfl (by decide) (Nat.le_of_ble_eq_true rfl) ?_
    refine V_if_eq_f F (tgt := 18) dX3_input_4 (by decide) (by decide) ?_
    refine V_aload_n F dX3_input_7 rfl ?_
    refine V_getf F (q0 := 0) (j := 0) lk_X3_10 dX3_input_8 ig_X3 rfl rfl (by decide) rfl rfl ?_
    refine V_iload_n F dX3_input_11 rfl ?_
    cases h : pj n p with
    | none =>
      have e : oIn n (nI a) p = none := by unfold oIn; rw [hx]; simp only [h]
      refine V_callVNi F (q0 := 1) (c_holds_f hX.2.1 (by omega) (pj_none h (by omega))) mi_X2_holds mm_X2_holds nk_X3_25 dX3_input_12 (rmR (by omega)) rfl rfl (by decide) (Nat.le_of_ble_eq_true rfl) rfl rfl rfl ?_
      refine V_if_ne_f F (tgt := 20) dX3_input_15 (by decide) (by decide) ?_
      refine V_iconst F (v := (-1)) dX3_input_18 (by decide) ?_
      exact V_iret F dX3_input_19 (by rw [e]; exact ⟨rfl, rfl⟩)
    | some j =>
      obtain ⟨hj, rfl⟩ := pj_some h (by omega)
      have e : oIn n (nI a) (nI j) = some (3, a, 0, j, 0) := by unfold oIn; rw [hx]; simp only [h]
      refine V_callVNi F (q0 := 1) (c_holds_t hX.2.1 (by omega) hj) mi_X2_holds mm_X2_holds nk_X3_25 dX3_input_12 (rmR (by omega)) rfl rfl (by decide) (Nat.le_of_ble_eq_true rfl) rfl rfl rfl ?_
      refine V_if_ne_t F (tgt := 20) dX3_input_15 (by decide) (by decide) ?_
      refine V_aload_n F dX3_input_20 rfl ?_
      refine V_getf F (q0 := 0) (j := 0) lk_X3_10 dX3_input_21 ig_X3 rfl rfl (by decide) rfl rfl ?_
      refine V_iconst F (v := nI 3) dX3_input_24 (by decide) ?_
      refine V_iload_n F dX3_input_25 rfl ?_
      refine V_iconst F (v := nI 0) dX3_input_26 (by decide) ?_
      refine V_iload_n F dX3_input_27 rfl ?_
      refine V_iconst F (v := nI 0) dX3_input_28 (by decide) ?_
      refine V_callVN F (q0 := 1) (c_build hI (bOk_in ha hj)) mi_X2_build mm_X2_build nk_X3_29 dX3_input_29 (rmR (by omega)) rfl rfl (by decide) (Nat.le_of_ble_eq_true rfl) rfl rfl rfl (fun r μ' h => ?_)
      rcases h with ⟨h1, rfl, h2⟩ | ⟨h1, rfl, h2⟩
      · skip
        exact V_iret F dX3_input_32 (by rw [e]; exact Or.inl ⟨h1, rfl, h2⟩)
      · skip
        exact V_iret F dX3_input_32 (by rw [e]; exact Or.inr ⟨h1, rfl, h2⟩)
theorem c_output (hI : XInv T n μ) (x y p : Int32) : Ct (GS g) l (4) yX3_output cX3_output 4 (some .int) [.ref (g.1 0), .int x, .int y, .int p] μ (BP T n (oOut n x y p) μ) := by
  have hX := hI.1
  have hn := hX.n24
  refine Ct.of (own := RX3) mi_X3_output rfl [some (.ref (g.1 0)), some (.int x), some (.int y), some (.int p)] (Nat.le_of_ble_eq_true rfl) rfl (fun p₀ e₀ s₀ m₀ b₀ h₀ c₀ F => ?_)
  refine V_iload_n F dX3_output_0 rfl ?_
  cases hx : pj 6 x with
  | none =>
    have e : oOut n x y p = none := by unfold oOut; rw [hx]
    refine V_callSi F (c_isName_f (pj_none hx (by omega))) mi_X3_isName ms_X3_isName lk_X3_33 dX3_output_1 (rmR (by omega)) rfl rfl (by decide) (Nat.le_of_ble_eq_true rfl) ?_
    refine V_if_eq_t F (tgt := 25) dX3_output_4 (by decide) (by decide) ?_
    refine V_iconst F (v := (-1)) dX3_output_25 (by decide) ?_
    exact V_iret F dX3_output_26 (by rw [e]; exact ⟨rfl, rfl⟩)
  | some a =>
    obtain ⟨ha, rfl⟩ := pj_some hx (by omega)
    refine V_callSi F (c_isName_t ha) mi_X3_isName ms_X3_isName lk_X3_33 dX3_output_1 (rmR (by omega)) rfl rfl (by decide) (Nat.le_of_ble_eq_true rfl) ?_
    refine V_if_eq_f F (tgt := 25) dX3_output_4 (by decide) (by decide) ?_
    refine V_iload_n F dX3_output_7 rfl ?_
    cases hy : pj 6 y with
    | none =>
      have e : oOut n (nI a) y p = none := by unfold oOut; rw [hx]; simp only [hy]
      refine V_callSi F (c_isName_f (pj_none hy (by omega))) mi_X3_isName ms_X3_isName lk_X3_33 dX3_output_8 (rmR (by omega)) rfl rfl (by decide) (Nat.le_of_ble_eq_true rfl) ?_
      refine V_if_eq_t F (tgt := 25) dX3_output_11 (by decide) (by decide) ?_
      refine V_iconst F (v := (-1)) dX3_output_25 (by decide) ?_
      exact V_iret F dX3_output_26 (by rw [e]; exact ⟨rfl, rfl⟩)
    | some b =>
      obtain ⟨hb, rfl⟩ := pj_some hy (by omega)
      refine V_callSi F (c_isName_t hb) mi_X3_isName ms_X3_isName lk_X3_33 dX3_output_8 (rmR (by omega)) rfl rfl (by decide) (Nat.le_of_ble_eq_true rfl) ?_
      refine V_if_eq_f F (tgt := 25) dX3_output_11 (by decide) (by decide) ?_
      refine V_aload_n F dX3_output_14 rfl ?_
      refine V_getf F (q0 := 0) (j := 0) lk_X3_10 dX3_output_15 ig_X3 rfl rfl (by decide) rfl rfl ?_
      refine V_iload_n F dX3_output_18 rfl ?_
      cases h : pj n p with
      | none =>
        have e : oOut n (nI a) (nI b) p = none := by unfold oOut; rw [hx]; simp only [hy, h]
        refine V_callVNi F (q0 := 1) (c_holds_f hX.2.1 (by omega) (pj_none h (by omega))) mi_X2_holds mm_X2_holds nk_X3_25 dX3_output_19 (rmR (by omega)) rfl rfl (by decide) (Nat.le_of_ble_eq_true rfl) rfl rfl rfl ?_
        refine V_if_ne_f F (tgt := 27) dX3_output_22 (by decide) (by decide) ?_
        refine V_iconst F (v := (-1)) dX3_output_25 (by decide) ?_
        exact V_iret F dX3_output_26 (by rw [e]; exact ⟨rfl, rfl⟩)
      | some j =>
        obtain ⟨hj, rfl⟩ := pj_some h (by omega)
        have e : oOut n (nI a) (nI b) (nI j) = some (2, a, b, j, 0) := by unfold oOut; rw [hx]; simp only [hy, h]
        refine V_callVNi F (q0 := 1) (c_holds_t hX.2.1 (by omega) hj) mi_X2_holds mm_X2_holds nk_X3_25 dX3_output_19 (rmR (by omega)) rfl rfl (by decide) (Nat.le_of_ble_eq_true rfl) rfl rfl rfl ?_
        refine V_if_ne_t F (tgt := 27) dX3_output_22 (by decide) (by decide) ?_
        refine V_aload_n F dX3_output_27 rfl ?_
        refine V_getf F (q0 := 0) (j := 0) lk_X3_10 dX3_output_28 ig_X3 rfl rfl (by decide) rfl rfl ?_
        refine V_iconst F (v := nI 2) dX3_output_31 (by decide) ?_
        refine V_iload_n F dX3_output_32 rfl ?_
        refine V_iload_n F dX3_output_33 rfl ?_
        refine V_iload_n F dX3_output_34 rfl ?_
        refine V_iconst F (v := nI 0) dX3_output_35 (by decide) ?_
        refine V_callVN F (q0 := 1) (c_build hI (bOk_out ha hb hj)) mi_X2_build mm_X2_build nk_X3_29 dX3_output_36 (rmR (by omega)) rfl rfl (by decide) (Nat.le_of_ble_eq_true rfl) rfl rfl rfl (fun r μ' h => ?_)
        rcases h with ⟨h1, rfl, h2⟩ | ⟨h1, rfl, h2⟩
        · skip
          exact V_iret F dX3_output_39 (by rw [e]; exact Or.inl ⟨h1, rfl, h2⟩)
        · skip
          exact V_iret F dX3_output_39 (by rw [e]; exact Or.inr ⟨h1, rfl, h2⟩)
theorem c_match (hI : XInv T n μ) (x y p : Int32) : Ct (GS g) l (4) yX3_match cX3_match 4 (some .int) [.ref (g.1 0), .int x, .int y, .int p] μ (BP T n (oMat n x y p) μ) := by
  have hX := hI.1
  have hn := hX.n24
  refine Ct.of (own := RX3) mi_X3_match rfl [some (.ref (g.1 0)), some (.int x), some (.int y), some (.int p)] (Nat.le_of_ble_eq_true rfl) rfl (fun p₀ e₀ s₀ m₀ b₀ h₀ c₀ F => ?_)
  refine V_iload_n F dX3_match_0 rfl ?_
  cases hx : pj 6 x with
  | none =>
    have e : oMat n x y p = none := by unfold oMat; rw [hx]
    refine V_callSi F (c_isName_f (pj_none hx (by omega))) mi_X3_isName ms_X3_isName lk_X3_33 dX3_match_1 (rmR (by omega)) rfl rfl (by decide) (Nat.le_of_ble_eq_true rfl) ?_
    refine V_if_eq_t F (tgt := 25) dX3_match_4 (by decide) (by decide) ?_
    refine V_iconst F (v := (-1)) dX3_match_25 (by decide) ?_
    exact V_iret F dX3_match_26 (by rw [e]; exact ⟨rfl, rfl⟩)
  | some a =>
    obtain ⟨ha, rfl⟩ := pj_some hx (by omega)
    refine V_callSi F (c_isName_t ha) mi_X3_isName ms_X3_isName lk_X3_33 dX3_match_1 (rmR (by omega)) rfl rfl (by decide) (Nat.le_of_ble_eq_true rfl) ?_
    refine V_if_eq_f F (tgt := 25) dX3_match_4 (by decide) (by decide) ?_
    refine V_iload_n F dX3_match_7 rfl ?_
    cases hy : pj 6 y with
    | none =>
      have e : oMat n (nI a) y p = none := by unfold oMat; rw [hx]; simp only [hy]
      refine V_callSi F (c_isName_f (pj_none hy (by omega))) mi_X3_isName ms_X3_isName lk_X3_33 dX3_match_8 (rmR (by omega)) rfl rfl (by decide) (Nat.le_of_ble_eq_true rfl) ?_
      refine V_if_eq_t F (tgt := 25) dX3_match_11 (by decide) (by decide) ?_
      refine V_iconst F (v := (-1)) dX3_match_25 (by decide) ?_
      exact V_iret F dX3_match_26 (by rw [e]; exact ⟨rfl, rfl⟩)
    | some b =>
      obtain ⟨hb, rfl⟩ := pj_some hy (by omega)
      refine V_callSi F (c_isName_t hb) mi_X3_isName ms_X3_isName lk_X3_33 dX3_match_8 (rmR (by omega)) rfl rfl (by decide) (Nat.le_of_ble_eq_true rfl) ?_
      refine V_if_eq_f F (tgt := 25) dX3_match_11 (by decide) (by decide) ?_
      refine V_aload_n F dX3_match_14 rfl ?_
      refine V_getf F (q0 := 0) (j := 0) lk_X3_10 dX3_match_15 ig_X3 rfl rfl (by decide) rfl rfl ?_
      refine V_iload_n F dX3_match_18 rfl ?_
      cases h : pj n p with
      | none =>
        have e : oMat n (nI a) (nI b) p = none := by unfold oMat; rw [hx]; simp only [hy, h]
        refine V_callVNi F (q0 := 1) (c_holds_f hX.2.1 (by omega) (pj_none h (by omega))) mi_X2_holds mm_X2_holds nk_X3_25 dX3_match_19 (rmR (by omega)) rfl rfl (by decide) (Nat.le_of_ble_eq_true rfl) rfl rfl rfl ?_
        refine V_if_ne_f F (tgt := 27) dX3_match_22 (by decide) (by decide) ?_
        refine V_iconst F (v := (-1)) dX3_match_25 (by decide) ?_
        exact V_iret F dX3_match_26 (by rw [e]; exact ⟨rfl, rfl⟩)
      | some j =>
        obtain ⟨hj, rfl⟩ := pj_some h (by omega)
        have e : oMat n (nI a) (nI b) (nI j) = some (4, a, b, j, 0) := by unfold oMat; rw [hx]; simp only [hy, h]
        refine V_callVNi F (q0 := 1) (c_holds_t hX.2.1 (by omega) hj) mi_X2_holds mm_X2_holds nk_X3_25 dX3_match_19 (rmR (by omega)) rfl rfl (by decide) (Nat.le_of_ble_eq_true rfl) rfl rfl rfl ?_
        refine V_if_ne_t F (tgt := 27) dX3_match_22 (by decide) (by decide) ?_
        refine V_aload_n F dX3_match_27 rfl ?_
        refine V_getf F (q0 := 0) (j := 0) lk_X3_10 dX3_match_28 ig_X3 rfl rfl (by decide) rfl rfl ?_
        refine V_iconst F (v := nI 4) dX3_match_31 (by decide) ?_
        refine V_iload_n F dX3_match_32 rfl ?_
        refine V_iload_n F dX3_match_33 rfl ?_
        refine V_iload_n F dX3_match_34 rfl ?_
        refine V_iconst F (v := nI 0) dX3_match_35 (by decide) ?_
        refine V_callVN F (q0 := 1) (c_build hI (bOk_mat ha hb hj)) mi_X2_build mm_X2_build nk_X3_29 dX3_match_36 (rmR (by omega)) rfl rfl (by decide) (Nat.le_of_ble_eq_true rfl) rfl rfl rfl (fun r μ' h => ?_)
        rcases h with ⟨h1, rfl, h2⟩ | ⟨h1, rfl, h2⟩
        · skip
          exact V_iret F dX3_match_39 (by rw [e]; exact Or.inl ⟨h1, rfl, h2⟩)
        · skip
          exact V_iret F dX3_match_39 (by rw [e]; exact Or.inr ⟨h1, rfl, h2⟩)
theorem c_sum (hI : XInv T n μ) (p q : Int32) : Ct (GS g) l (4) yX3_sum cX3_sum 3 (some .int) [.ref (g.1 0), .int p, .int q] μ (BP T n (oSum n p q) μ) := by
  have hX := hI.1
  have hn := hX.n24
  refine Ct.of (own := RX3) mi_X3_sum rfl [some (.ref (g.1 0)), some (.int p), some (.int q)] (Nat.le_of_ble_eq_true rfl) rfl (fun p₀ e₀ s₀ m₀ b₀ h₀ c₀ F => ?_)
  refine V_aload_n F dX3_sum_0 rfl ?_
  refine V_getf F (q0 := 0) (j := 0) lk_X3_10 dX3_sum_1 ig_X3 rfl rfl (by decide) rfl rfl ?_
  refine V_iload_n F dX3_sum_4 rfl ?_
  cases hp : pj n p with
  | none =>
    have e : oSum n p q = none := by unfold oSum; rw [hp]
    refine V_callVNi F (q0 := 1) (c_holds_f hX.2.1 (by omega) (pj_none hp (by omega))) mi_X2_holds mm_X2_holds nk_X3_25 dX3_sum_5 (rmR (by omega)) rfl rfl (by decide) (Nat.le_of_ble_eq_true rfl) rfl rfl rfl ?_
    refine V_if_eq_t F (tgt := 22) dX3_sum_8 (by decide) (by decide) ?_
    refine V_iconst F (v := (-1)) dX3_sum_22 (by decide) ?_
    exact V_iret F dX3_sum_23 (by rw [e]; exact ⟨rfl, rfl⟩)
  | some i =>
    obtain ⟨hi, rfl⟩ := pj_some hp (by omega)
    refine V_callVNi F (q0 := 1) (c_holds_t hX.2.1 (by omega) hi) mi_X2_holds mm_X2_holds nk_X3_25 dX3_sum_5 (rmR (by omega)) rfl rfl (by decide) (Nat.le_of_ble_eq_true rfl) rfl rfl rfl ?_
    refine V_if_eq_f F (tgt := 22) dX3_sum_8 (by decide) (by decide) ?_
    refine V_aload_n F dX3_sum_11 rfl ?_
    refine V_getf F (q0 := 0) (j := 0) lk_X3_10 dX3_sum_12 ig_X3 rfl rfl (by decide) rfl rfl ?_
    refine V_iload_n F dX3_sum_15 rfl ?_
    cases h : pj n q with
    | none =>
      have e : oSum n (nI i) q = none := by unfold oSum; rw [hp]; simp only [h]
      refine V_callVNi F (q0 := 1) (c_holds_f hX.2.1 (by omega) (pj_none h (by omega))) mi_X2_holds mm_X2_holds nk_X3_25 dX3_sum_16 (rmR (by omega)) rfl rfl (by decide) (Nat.le_of_ble_eq_true rfl) rfl rfl rfl ?_
      refine V_if_ne_f F (tgt := 24) dX3_sum_19 (by decide) (by decide) ?_
      refine V_iconst F (v := (-1)) dX3_sum_22 (by decide) ?_
      exact V_iret F dX3_sum_23 (by rw [e]; exact ⟨rfl, rfl⟩)
    | some j =>
      obtain ⟨hj, rfl⟩ := pj_some h (by omega)
      have e : oSum n (nI i) (nI j) = some (5, 0, 0, i, j) := by unfold oSum; rw [hp]; simp only [h]
      refine V_callVNi F (q0 := 1) (c_holds_t hX.2.1 (by omega) hj) mi_X2_holds mm_X2_holds nk_X3_25 dX3_sum_16 (rmR (by omega)) rfl rfl (by decide) (Nat.le_of_ble_eq_true rfl) rfl rfl rfl ?_
      refine V_if_ne_t F (tgt := 24) dX3_sum_19 (by decide) (by decide) ?_
      refine V_aload_n F dX3_sum_24 rfl ?_
      refine V_getf F (q0 := 0) (j := 0) lk_X3_10 dX3_sum_25 ig_X3 rfl rfl (by decide) rfl rfl ?_
      refine V_iconst F (v := nI 5) dX3_sum_28 (by decide) ?_
      refine V_iconst F (v := nI 0) dX3_sum_29 (by decide) ?_
      refine V_iconst F (v := nI 0) dX3_sum_30 (by decide) ?_
      refine V_iload_n F dX3_sum_31 rfl ?_
      refine V_iload_n F dX3_sum_32 rfl ?_
      refine V_callVN F (q0 := 1) (c_build hI (bOk_sum hi hj)) mi_X2_build mm_X2_build nk_X3_29 dX3_sum_33 (rmR (by omega)) rfl rfl (by decide) (Nat.le_of_ble_eq_true rfl) rfl rfl rfl (fun r μ' h => ?_)
      rcases h with ⟨h1, rfl, h2⟩ | ⟨h1, rfl, h2⟩
      · skip
        exact V_iret F dX3_sum_36 (by rw [e]; exact Or.inl ⟨h1, rfl, h2⟩)
      · skip
        exact V_iret F dX3_sum_36 (by rw [e]; exact Or.inr ⟨h1, rfl, h2⟩)
end MAKE
end
section
section GAME0
variable {T : Tb} {n : Nat}
def fpl (p : Nat) : Nat := p * (p - 1) / 2 * 15
theorem fpl_step : ∀ p, p < 24 → fpl (p + 1) = fpl p + 15 * p := by decide +kernel
theorem fpl_mono : ∀ b, b < 25 → ∀ a, a < b → fpl (a + 1) ≤ fpl b := by decide +kernel
theorem fpl_max : ∀ b, b < 25 → fpl b ≤ 4140 := by decide +kernel
theorem fplE : ∀ p, p < 25 → (nI p * (nI p - nI 1)) / nI 2 * nI 3 * nI 5 = nI (fpl p) := by decide +kernel
theorem plc_in {hi lo rel view : Nat} (h1 : hi < 24) (h2 : lo < hi) (h3 : rel < 3) (h4 : view < 5) : fpl hi ≤ plc hi lo rel view ∧ plc hi lo rel view < fpl (hi + 1) ∧ plc hi lo rel view < 4140 ∧ plc hi lo rel view = fpl hi + lo * 15 + (rel * 5 + view) := by
  have e : plc hi lo rel view = fpl hi + lo * 15 + (rel * 5 + view) := rfl
  have := fpl_step hi h1
  have := fpl_max (hi + 1) (by omega)
  omega
theorem plc_inj {hi lo rel view hi' lo' rel' view' : Nat} (h1 : hi < 24) (h2 : lo < hi) (h3 : rel < 3) (h4 : view < 5) (h1' : hi' < 24) (h2' : lo' < hi') (h3' : rel' < 3) (h4' : view' < 5) (h : plc hi lo rel view = plc hi' lo' rel' view') : hi = hi' ∧ lo = lo' ∧ rel = rel' ∧ view = view' := by
  have a := plc_in h1 h2 h3 h4
  have b := plc_in h1' h2' h3' h4'
  have e : hi = hi' := by
    rcases Nat.lt_trichotomy hi hi' with c | c | c
    · have := fpl_mono hi' (by omega) hi c; omega
    · exact c
    · have := fpl_mono hi (by omega) hi' c; omega
  subst e
  omega
theorem WF.less (hW : WF T (n + 1)) (hn : 1 ≤ n) : WF T n := ⟨⟨hn, by have := hW.1.2; omega⟩, hW.2.1, fun p h1 h2 => hW.2.2 p h1 (by omega)⟩
def vwI : List Nat → Int32
  | [] => nI 0
  | [v] => nI (v + 1)
  | _ => -1
def RQ (T : Tb) (n : Nat) (μ : Mem) : Option Value → Mem → Prop := fun r μ' => (n = 1 ∧ r = some (.int (-4)) ∧ μ' = μ) ∨ (n ≠ 1 ∧ r = some (.int (nI (n - 1))) ∧ XInv T (n - 1) μ' ∧ sameM μ μ')
/-- a row of kept worths is cleared -/
def Clr (μ ν : Mem) (lo hi : Nat) : Prop := (∀ c j, ¬ (c = 14 ∧ lo ≤ j ∧ j < hi) → ν.1 c j = μ.1 c j) ∧ (∀ j, lo ≤ j → j < hi → ν.1 14 j = 0) ∧ ν.2 = μ.2
end GAME0
section GAMEA
variable {g : Gm} {l : Launch} {μ : Mem} {T : Tb} {n : Nat}
theorem c_firstPlace {p : Nat} (hp : p < 25) : Ct (GS g) l (0) yX0_firstPlace cX0_firstPlace 1 (some .int) [.int (nI p)] μ (Is (.int (nI (fpl p))) μ) := by
  refine Ct.of (own := RX0) mi_X0_firstPlace rfl [some (.int (nI p))] (Nat.le_of_ble_eq_true rfl) rfl (fun p₀ e₀ s₀ m₀ b₀ h₀ c₀ F => ?_)
  refine V_iload_n F dX0_firstPlace_0 rfl ?_
  refine V_iload_n F dX0_firstPlace_1 rfl ?_
  refine V_iconst F (v := nI 1) dX0_firstPlace_2 (by decide) ?_
  refine V_isub F dX0_firstPlace_3 ?_
  refine V_imul F dX0_firstPlace_4 ?_
  refine V_iconst F (v := nI 2) dX0_firstPlace_5 (by decide) ?_
  refine V_idiv F dX0_firstPlace_6 (by decide) ?_
  refine V_iconst F (v := nI 3) dX0_firstPlace_7 (by decide) ?_
  refine V_imul F dX0_firstPlace_8 ?_
  refine V_iconst F (v := nI 5) dX0_firstPlace_9 (by decide) ?_
  refine V_imul F dX0_firstPlace_10 ?_
  refine V_val F (fplE p hp) ?_
  exact V_iret F dX0_firstPlace_11 (⟨rfl, rfl⟩)
theorem c_forget {p : Nat} (hp : p < 24) : Ct (GS g) l (1) yX0_forget cX0_forget 5 none [.ref (g.1 2), .int (nI p)] μ ((fun r μ' => r = none ∧ Clr μ μ' (fpl p) (fpl (p + 1)))) := by
  have hs := fpl_step p hp
  have hmx := fpl_max (p + 1) (by omega)
  refine Ct.of (own := RX0) mi_X0_forget rfl [some (.ref (g.1 2)), some (.int (nI p)), none, none, none] (Nat.le_of_ble_eq_true rfl) rfl (fun p₀ e₀ s₀ m₀ b₀ h₀ c₀ F => ?_)
  have loop : ∀ (k i : Nat) (ν : Mem), i + k = fpl (p + 1) → fpl p ≤ i → Clr μ ν (fpl p) i → V (GS g) p₀ l e₀ (rmD (1)) s₀ m₀ (List.toArray [.ref (g.1 2), .int (nI p)]) b₀ h₀ c₀ 5 0 0 (MQ b₀ (Qp (GS g) ((fun r μ' => r = none ∧ Clr μ μ' (fpl p) (fpl (p + 1))))) (List.toArray [.ref (g.1 2), .int (nI p)]) s₀ 0 0 (gA (GS g))) 15 ([some (.ref (g.1 2)), some (.int (nI p)), some (.int (nI (fpl p))), some (.int (nI (fpl (p + 1)))), some (.int (nI i))]) ([]) (ν) := by
    intro k
    induction k with
    | zero =>
      intro i ν hi hle hν
      refine V_iload F dX0_forget_15 rfl ?_
      refine V_iload_n F dX0_forget_17 rfl ?_
      refine V_icmp_ge_N F (tgt := 37) dX0_forget_18 (by decide) (by omega) (by omega) (fun h => ?_) (fun h => ?_)
      · skip
        exact V_vret F dX0_forget_37 (⟨rfl, by rw [show fpl (p + 1) = i by omega]; exact hν⟩)
      · omega
    | succ k ih =>
      intro i ν hi hle hν
      refine V_iload F dX0_forget_15 rfl ?_
      refine V_iload_n F dX0_forget_17 rfl ?_
      refine V_icmp_ge_N F (tgt := 37) dX0_forget_18 (by decide) (by omega) (by omega) (fun h => ?_) (fun h => ?_)
      · omega
      · skip
        refine V_aload_n F dX0_forget_21 rfl ?_
        refine V_getf F (q0 := 2) (j := 1) lk_X0_15 dX0_forget_22 ig_X0 rfl rfl (by decide) rfl rfl ?_
        refine V_iload F dX0_forget_25 rfl ?_
        refine V_iconst F (v := nI 0) dX0_forget_27 (by decide) ?_
        refine V_callSN0 F (c_put (q := 14) rfl (show i < 4140 by omega)) mi_X3_put ms_X3_put nk_X0_23 dX0_forget_28 (rmR (by omega)) rfl rfl (by decide) (Nat.le_of_ble_eq_true rfl) ?_
        refine V_iinc F (lv' := [_, _, _, _, _]) dX0_forget_31 rfl (by decide) rfl rfl ?_
        refine V_goto F (tgt := 15) dX0_forget_34 (by decide) ?_
        rw [show nI i + Int32.ofInt 1 = nI (i + 1) from nI_1 i]
        refine ih (i + 1) _ (by omega) (by omega) ⟨fun c j hj => ?_, fun j h1 h2 => ?_, hν.2.2⟩
        · rw [wr_ne (by omega)]; exact hν.1 c j (by omega)
        · by_cases hji : j = i
          · subst hji; rw [wr_eq]; rfl
          · rw [wr_ne (by omega)]; exact hν.2.1 j h1 (by omega)
  refine V_iload_n F dX0_forget_0 rfl ?_
  refine V_callSi F (c_firstPlace (show p < 25 by omega)) mi_X0_firstPlace ms_X0_firstPlace lk_X0_19 dX0_forget_1 (rmR (by omega)) rfl rfl (by decide) (Nat.le_of_ble_eq_true rfl) ?_
  refine V_istore_n F (lv' := [_, _, _, _, _]) dX0_forget_4 (by decide) rfl rfl ?_
  refine V_iload_n F dX0_forget_5 rfl ?_
  refine V_iconst F (v := nI 1) dX0_forget_6 (by decide) ?_
  (first | refine V_iaddN F dX0_forget_7 ?_ | refine V_iadd F dX0_forget_7 ?_)
  refine V_callSi F (c_firstPlace (show p + 1 < 25 by omega)) mi_X0_firstPlace ms_X0_firstPlace lk_X0_19 dX0_forget_8 (rmR (by omega)) rfl rfl (by decide) (Nat.le_of_ble_eq_true rfl) ?_
  refine V_istore_n F (lv' := [_, _, _, _, _]) dX0_forget_11 (by decide) rfl rfl ?_
  refine V_iload_n F dX0_forget_12 rfl ?_
  refine V_istore F (lv' := [_, _, _, _, _]) dX0_forget_13 (by decide) rfl rfl ?_
  exact loop (15 * p) (fpl p) μ (by omega) (Nat.le_refl _) ⟨fun _ _ _ => rfl, fun j h1 h2 => absurd h2 (by omega), rfl⟩
theorem c_removeLast (hI : XInv T n μ) : Ct (GS g) l (2) yX3_removeLast cX3_removeLast 2 (some .int) [.ref (g.1 0)] μ (RQ T n μ) := by
  have hX := hI.1
  have hn := hX.n24
  refine Ct.of (own := RX3) mi_X3_removeLast rfl [some (.ref (g.1 0)), none] (Nat.le_of_ble_eq_true rfl) rfl (fun p₀ e₀ s₀ m₀ b₀ h₀ c₀ F => ?_)
  refine V_aload_n F dX3_removeLast_0 rfl ?_
  refine V_getf F (q0 := 0) (j := 0) lk_X3_10 dX3_removeLast_1 ig_X3 rfl rfl (by decide) rfl rfl ?_
  refine V_getN F (q0 := 1) (j := 0) nk_X3_36 dX3_removeLast_4 ig_X2 rfl rfl (by decide) rfl rfl ?_
  refine V_val F (hX.2.1) ?_
  refine V_iconst F (v := nI 1) dX3_removeLast_7 (by decide) ?_
  refine V_isubN F (by omega) dX3_removeLast_8 ?_
  refine V_istore_n F (lv' := [_, _]) dX3_removeLast_9 (by decide) rfl rfl ?_
  refine V_iload_n F dX3_removeLast_10 rfl ?_
  refine V_iconst F (v := nI 1) dX3_removeLast_11 (by decide) ?_
  refine V_icmp_ge_N F (tgt := 18) dX3_removeLast_12 (by decide) (by omega) (by omega) (fun h => ?_) (fun h => ?_)
  · obtain ⟨j, rfl⟩ : ∃ j, n = j + 1 := ⟨n - 1, by omega⟩
    rw [Nat.add_sub_cancel] at h ⊢
    refine V_aload_n F dX3_removeLast_18 rfl ?_
    refine V_getf F (q0 := 0) (j := 0) lk_X3_10 dX3_removeLast_19 ig_X3 rfl rfl (by decide) rfl rfl ?_
    refine V_iload_n F dX3_removeLast_22 rfl ?_
    refine V_putN F 1 0 nk_X3_36 dX3_removeLast_23 ig_X2 tyX2 tyX2_ok nmX2 rfl rfl (by decide) rfl rfl (by decide +kernel) (Nat.le_of_ble_eq_true rfl) (μ' := wr _ 1 0 _) rfl ?_
    refine V_aload_n F dX3_removeLast_26 rfl ?_
    refine V_getf F (q0 := 0) (j := 1) lk_X3_21 dX3_removeLast_27 ig_X3 rfl rfl (by decide) rfl rfl ?_
    refine V_iload_n F dX3_removeLast_30 rfl ?_
    refine V_callVN F (q0 := 2) (c_forget (p := j) (by omega)) mi_X0_forget mm_X0_forget nk_X3_40 dX3_removeLast_31 (rmR (by omega)) rfl rfl (by decide) (Nat.le_of_ble_eq_true rfl) rfl rfl rfl (fun r μ' h => ?_)
    rename_i hh
    obtain ⟨rfl, hC⟩ := h
    refine V_iload_n F dX3_removeLast_34 rfl ?_
    have hW := hX.1.less (by omega)
    have e1 : ∀ c i, ¬ (c = 14 ∧ fpl j ≤ i ∧ i < fpl (j + 1)) → ¬ (c = 1 ∧ i = 0) → μ'.1 c i = μ.1 c i := fun c i h1 h2 => by rw [hC.1 c i h1, wr_ne h2]
    refine V_iret F dX3_removeLast_35 (Or.inr ⟨by omega, rfl, ⟨⟨hW, ?_, fun f i hf hi => ?_, fun i s a hi ha => ?_⟩, fun hi lo rel view a1 a2 a3 a4 => ?_⟩, fun c hc => ?_⟩)
    · rw [hC.1 1 0 (by omega)]
      exact wr_eq
    · rw [e1 _ _ (by omega) (by omega)]
      exact hX.2.2.1 f i hf (by omega)
    · rw [e1 _ _ (by omega) (by omega), hC.2.2, wr_2]
      exact hX.2.2.2 i s a (by omega) ha
    · have hin := plc_in a1 a2 a3 a4
      by_cases hij : hi = j
      · subst hij
        left
        exact hC.2.1 _ hin.1 hin.2.1
      · have hnot : ¬ (fpl j ≤ plc hi lo rel view ∧ plc hi lo rel view < fpl (j + 1)) := by
          rcases Nat.lt_trichotomy hi j with c | c | c
          · have := fpl_mono j (by omega) hi c; omega
          · exact absurd c hij
          · have := fpl_mono hi (by omega) j c; omega
        rw [e1 14 _ (by omega) (by omega)]
        rcases hI.2 hi lo rel view a1 a2 a3 a4 with h0 | ⟨b1, b2⟩
        · exact Or.inl h0
        · exact Or.inr ⟨by omega, b2⟩
    · funext i
      exact e1 c i (by omega) (by omega)
  · skip
    refine V_bipush F (v := (-4)) dX3_removeLast_15 (by decide) ?_
    exact V_iret F dX3_removeLast_17 (Or.inl ⟨by omega, rfl, rfl⟩)
theorem c_viewOf {r : List Nat} (hl : lok r) (h3 : r.length ≤ 3) : Ct (GS g) l (1) yX0_viewOf cX0_viewOf 3 (some .int) [.int (nI (rc r))] μ (Is (.int (vwI r)) μ) := by
  have hr := (rc_lt hl h3).1
  refine Ct.of (own := RX0) mi_X0_viewOf rfl [some (.int (nI (rc r))), none, none] (Nat.le_of_ble_eq_true rfl) rfl (fun p₀ e₀ s₀ m₀ b₀ h₀ c₀ F => ?_)
  refine V_iload_n F dX0_viewOf_0 rfl ?_
  refine V_iconst F (v := nI 1) dX0_viewOf_1 (by decide) ?_
  refine V_icmp_ne_N F (tgt := 7) dX0_viewOf_2 (by decide) (by omega) (by omega) (fun h => ?_) (fun h => ?_)
  · skip
    refine V_iconst F (v := nI 3) dX0_viewOf_7 (by decide) ?_
    refine V_iload_n F dX0_viewOf_8 rfl ?_
    refine V_callSNi F (c_valueOf (x := 3) (by omega) (by omega)) mi_X1_valueOf ms_X1_valueOf nk_X0_110 dX0_viewOf_9 (rmR (by omega)) rfl rfl (by decide) (Nat.le_of_ble_eq_true rfl) ?_
    rw [xv3]
    refine V_istore_n F (lv' := [_, _, _]) dX0_viewOf_12 (by decide) rfl rfl ?_
    refine V_iload_n F dX0_viewOf_13 rfl ?_
    refine V_iconst F (v := nI 1) dX0_viewOf_14 (by decide) ?_
    refine V_iload_n F dX0_viewOf_15 rfl ?_
    refine V_callSNi F (c_with (r := 1) (by omega) (by omega)) mi_X1_with ms_X1_with nk_X0_91 dX0_viewOf_16 (rmR (by omega)) rfl rfl (by decide) (Nat.le_of_ble_eq_true rfl) ?_
    refine V_icmp_ne_N F (tgt := 26) dX0_viewOf_19 (by decide) (by omega) (by omega) (fun h2 => ?_) (fun h2 => ?_)
    · have e : vwI r = -1 := by
        match r, h, h2, hl with
        | [], h, _, _ => simp [rc] at h
        | [a], _, h2, hl => have := hl.1; simp only [fr] at this; simp only [rc] at h2; omega
        | a :: b :: t, _, _, _ => rfl
      rw [e]
      refine V_iconst F (v := nI 0) dX0_viewOf_26 (by decide) ?_
      refine V_istore_n F (lv' := [_, _, _]) dX0_viewOf_27 (by decide) rfl rfl ?_
      refine V_iload_n F dX0_viewOf_28 rfl ?_
      refine V_if_eq_t F (tgt := 38) dX0_viewOf_29 (by decide) (by decide) ?_
      refine V_iconst F (v := (-1)) dX0_viewOf_38 (by decide) ?_
      exact V_iret F dX0_viewOf_39 (⟨rfl, rfl⟩)
    · have h2 := Classical.not_not.mp h2
      have e : vwI r = nI (1 + rc r % 8) := by
        match r, h, h2, hl, h3 with
        | [], h, _, _, _ => simp [rc] at h
        | [a], _, _, hl, _ =>
          have := hl.1
          simp only [fr] at this
          simp only [rc, vwI]
          congr 1
          omega
        | a :: b :: t, _, h2, hl, h3 =>
          exfalso
          simp only [rc] at h2
          have : 1 ≤ rc t := by
            match t with
            | [] => simp [rc]
            | [x] => simp [rc]; omega
            | x :: y :: z => simp at h3
          omega
      rw [e]
      refine V_iconst F (v := nI 1) dX0_viewOf_22 (by decide) ?_
      refine V_goto F (tgt := 27) dX0_viewOf_23 (by decide) ?_
      refine V_istore_n F (lv' := [_, _, _]) dX0_viewOf_27 (by decide) rfl rfl ?_
      refine V_iload_n F dX0_viewOf_28 rfl ?_
      refine V_if_eq_f F (tgt := 38) dX0_viewOf_29 (by decide) (by decide) ?_
      refine V_iconst F (v := nI 1) dX0_viewOf_32 (by decide) ?_
      refine V_iload_n F dX0_viewOf_33 rfl ?_
      (first | refine V_iaddN F dX0_viewOf_34 ?_ | refine V_iadd F dX0_viewOf_34 ?_)
      refine V_goto F (tgt := 39) dX0_viewOf_35 (by decide) ?_
      exact V_iret F dX0_viewOf_39 (⟨rfl, rfl⟩)
  · have h := Classical.not_not.mp h
    have e : vwI r = nI 0 := by
      match r, h, hl, h3 with
      | [], _, _, _ => rfl
      | a :: t, h, _, h3 =>
        exfalso
        simp only [rc] at h
        have : 1 ≤ rc t := by
          match t with
          | [] => simp [rc]
          | [x] => simp [rc]; omega
          | [x, y] => simp [rc]; omega
          | x :: y :: z :: u => simp at h3
        omega
    rw [e]
    refine V_iconst F (v := nI 0) dX0_viewOf_5 (by decide) ?_
    exact V_iret F dX0_viewOf_6 (⟨rfl, rfl⟩)
def plI (rel p q : Nat) : List Nat → Int32
  | [] => nI (plc (max p q) (min p q) rel 0)
  | [v] => nI (plc (max p q) (min p q) rel (v + 1))
  | _ => -1
theorem c_placeOf {rel p q : Nat} {r : List Nat} (hl : lok r) (h3 : r.length ≤ 3) (hrel : rel < 3) (hp : p < 24) (hq : q < 24) : Ct (GS g) l (2) yX0_placeOf cX0_placeOf 6 (some .int) [.int (nI rel), .int (nI p), .int (nI q), .int (nI (rc r))] μ (Is (.int (plI rel p q r)) μ) := by
  refine Ct.of (own := RX0) mi_X0_placeOf rfl [some (.int (nI rel)), some (.int (nI p)), some (.int (nI q)), some (.int (nI (rc r))), none, none] (Nat.le_of_ble_eq_true rfl) rfl (fun p₀ e₀ s₀ m₀ b₀ h₀ c₀ F => ?_)
  have hmx := fpl_max (max p q) (by omega)
  refine V_iload_n F dX0_placeOf_0 rfl ?_
  refine V_callSi F (c_viewOf hl h3) mi_X0_viewOf ms_X0_viewOf lk_X0_107 dX0_placeOf_1 (rmR (by omega)) rfl rfl (by decide) (Nat.le_of_ble_eq_true rfl) ?_
  refine V_istore F (lv' := [_, _, _, _, _, _]) dX0_placeOf_4 (by decide) rfl rfl ?_
  refine V_iload F dX0_placeOf_6 rfl ?_
  refine V_iconst F (v := (-1)) dX0_placeOf_8 (by decide) ?_
  match r, hl, h3 with
  | [], _, _ =>
    refine V_icmp_ne_t F (tgt := 14) dX0_placeOf_9 (by decide) (by decide) ?_
    refine V_iload_n F dX0_placeOf_14 rfl ?_
    refine V_iload_n F dX0_placeOf_15 rfl ?_
    refine V_maxN F lk_X0_79 dX0_placeOf_16 (rmM (by omega) (Nat.le_of_ble_eq_true rfl)) (by omega) (by omega) ?_
    refine V_callSi F (c_firstPlace (show max p q < 25 by omega)) mi_X0_firstPlace ms_X0_firstPlace lk_X0_19 dX0_placeOf_19 (rmR (by omega)) rfl rfl (by decide) (Nat.le_of_ble_eq_true rfl) ?_
    refine V_iload_n F dX0_placeOf_22 rfl ?_
    refine V_iload_n F dX0_placeOf_23 rfl ?_
    refine V_minN F lk_X0_67 dX0_placeOf_24 (rmM (by omega) (Nat.le_of_ble_eq_true rfl)) (by omega) (by omega) ?_
    refine V_iconst F (v := nI 3) dX0_placeOf_27 (by decide) ?_
    (first | refine V_imulN F dX0_placeOf_28 ?_ | refine V_imul F dX0_placeOf_28 ?_)
    refine V_iconst F (v := nI 5) dX0_placeOf_29 (by decide) ?_
    (first | refine V_imulN F dX0_placeOf_30 ?_ | refine V_imul F dX0_placeOf_30 ?_)
    (first | refine V_iaddN F dX0_placeOf_31 ?_ | refine V_iadd F dX0_placeOf_31 ?_)
    refine V_istore F (lv' := [_, _, _, _, _, _]) dX0_placeOf_32 (by decide) rfl rfl ?_
    refine V_iload F dX0_placeOf_34 rfl ?_
    refine V_iload_n F dX0_placeOf_36 rfl ?_
    refine V_iconst F (v := nI 5) dX0_placeOf_37 (by decide) ?_
    (first | refine V_imulN F dX0_placeOf_38 ?_ | refine V_imul F dX0_placeOf_38 ?_)
    (first | refine V_iaddN F dX0_placeOf_39 ?_ | refine V_iadd F dX0_placeOf_39 ?_)
    refine V_iload F dX0_placeOf_40 rfl ?_
    (first | refine V_iaddN F dX0_placeOf_42 ?_ | refine V_iadd F dX0_placeOf_42 ?_)
    exact V_iret F dX0_placeOf_43 (⟨by show some (Value.int (nI _)) = some (Value.int (nI _)); congr 3; unfold plc fpl; omega, rfl⟩)
  | [v], hl, _ =>
    have hv := hl.1
    simp only [fr] at hv
    refine V_icmp_ne_t F (tgt := 14) dX0_placeOf_9 (by decide) ((by show ¬ nI (v + 1) = -1; have : ∀ v, v < 5 → ¬ nI v = -1 := by { decide +kernel }; exact this _ (by omega))) ?_
    refine V_iload_n F dX0_placeOf_14 rfl ?_
    refine V_iload_n F dX0_placeOf_15 rfl ?_
    refine V_maxN F lk_X0_79 dX0_placeOf_16 (rmM (by omega) (Nat.le_of_ble_eq_true rfl)) (by omega) (by omega) ?_
    refine V_callSi F (c_firstPlace (show max p q < 25 by omega)) mi_X0_firstPlace ms_X0_firstPlace lk_X0_19 dX0_placeOf_19 (rmR (by omega)) rfl rfl (by decide) (Nat.le_of_ble_eq_true rfl) ?_
    refine V_iload_n F dX0_placeOf_22 rfl ?_
    refine V_iload_n F dX0_placeOf_23 rfl ?_
    refine V_minN F lk_X0_67 dX0_placeOf_24 (rmM (by omega) (Nat.le_of_ble_eq_true rfl)) (by omega) (by omega) ?_
    refine V_iconst F (v := nI 3) dX0_placeOf_27 (by decide) ?_
    (first | refine V_imulN F dX0_placeOf_28 ?_ | refine V_imul F dX0_placeOf_28 ?_)
    refine V_iconst F (v := nI 5) dX0_placeOf_29 (by decide) ?_
    (first | refine V_imulN F dX0_placeOf_30 ?_ | refine V_imul F dX0_placeOf_30 ?_)
    (first | refine V_iaddN F dX0_placeOf_31 ?_ | refine V_iadd F dX0_placeOf_31 ?_)
    refine V_istore F (lv' := [_, _, _, _, _, _]) dX0_placeOf_32 (by decide) rfl rfl ?_
    refine V_iload F dX0_placeOf_34 rfl ?_
    refine V_iload_n F dX0_placeOf_36 rfl ?_
    refine V_iconst F (v := nI 5) dX0_placeOf_37 (by decide) ?_
    (first | refine V_imulN F dX0_placeOf_38 ?_ | refine V_imul F dX0_placeOf_38 ?_)
    (first | refine V_iaddN F dX0_placeOf_39 ?_ | refine V_iadd F dX0_placeOf_39 ?_)
    refine V_iload F dX0_placeOf_40 rfl ?_
    (first | refine V_iaddN F dX0_placeOf_42 ?_ | refine V_iadd F dX0_placeOf_42 ?_)
    exact V_iret F dX0_placeOf_43 (⟨by show some (Value.int (nI _)) = some (Value.int (nI _)); congr 3; unfold plc fpl; omega, rfl⟩)
  | a :: b :: t, _, _ =>
    refine V_icmp_ne_f F (tgt := 14) dX0_placeOf_9 (by decide) (rfl) ?_
    refine V_iconst F (v := (-1)) dX0_placeOf_12 (by decide) ?_
    exact V_iret F dX0_placeOf_13 (⟨rfl, rfl⟩)
theorem c_agree {a b : Nat} {r : List Nat} (hX : XRep T n μ) (ha : a < n) (hb : b < n) (hl : lok r) (h3 : r.length ≤ 3) (hna : T 1 a < 3 + r.length ∧ T 2 a < 3 + r.length) (hnb : T 1 b < 3 + r.length ∧ T 2 b < 3 + r.length) : Ct (GS g) l (2) yX0_agree cX0_agree 6 (some .boolean) [.ref (g.1 2), .int (nI a), .int (nI b), .int (nI (rc r))] μ (Is (.int (nI (if agr T r a b = true then 1 else 0))) μ) := by
  have hn := hX.n24
  have hr := (rc_lt hl h3).1
  have hk1 := hX.1.kind ha
  have hk2 := hX.1.kind hb
  have hm1 := hX.1.name ha
  have hm2 := hX.1.name hb
  refine Ct.of (own := RX0) mi_X0_agree rfl [some (.ref (g.1 2)), some (.int (nI a)), some (.int (nI b)), some (.int (nI (rc r))), none, none] (Nat.le_of_ble_eq_true rfl) rfl (fun p₀ e₀ s₀ m₀ b₀ h₀ c₀ F => ?_)
  refine V_aload_n F dX0_agree_0 rfl ?_
  refine V_getf F (q0 := 2) (j := 0) lk_X0_9 dX0_agree_1 ig_X0 rfl rfl (by decide) rfl rfl ?_
  refine V_getN F (q0 := 1) (j := 1) nk_X0_85 dX0_agree_4 ig_X2 rfl rfl (by decide) rfl rfl ?_
  refine V_iload_n F dX0_agree_7 rfl ?_
  refine V_callSNi F (c_at (q := 3) rfl (show a < 24 by omega) (hX.fld 0 rfl (by omega) ha)) mi_X3_at ms_X3_at nk_X0_60 dX0_agree_8 (rmR (by omega)) rfl rfl (by decide) (Nat.le_of_ble_eq_true rfl) ?_
  refine V_aload_n F dX0_agree_11 rfl ?_
  refine V_getf F (q0 := 2) (j := 0) lk_X0_9 dX0_agree_12 ig_X0 rfl rfl (by decide) rfl rfl ?_
  refine V_getN F (q0 := 1) (j := 1) nk_X0_85 dX0_agree_15 ig_X2 rfl rfl (by decide) rfl rfl ?_
  refine V_iload_n F dX0_agree_18 rfl ?_
  refine V_callSNi F (c_at (q := 3) rfl (show b < 24 by omega) (hX.fld 0 rfl (by omega) hb)) mi_X3_at ms_X3_at nk_X0_60 dX0_agree_19 (rmR (by omega)) rfl rfl (by decide) (Nat.le_of_ble_eq_true rfl) ?_
  refine V_icmp_eq_N F (tgt := 27) dX0_agree_22 (by decide) (by omega) (by omega) (fun h => ?_) (fun h => ?_)
  · skip
    refine V_aload_n F dX0_agree_27 rfl ?_
    refine V_getf F (q0 := 2) (j := 0) lk_X0_9 dX0_agree_28 ig_X0 rfl rfl (by decide) rfl rfl ?_
    refine V_getN F (q0 := 1) (j := 2) nk_X0_94 dX0_agree_31 ig_X2 rfl rfl (by decide) rfl rfl ?_
    refine V_iload_n F dX0_agree_34 rfl ?_
    refine V_callSNi F (c_at (q := 4) rfl (show a < 24 by omega) (hX.fld 1 rfl (by omega) ha)) mi_X3_at ms_X3_at nk_X0_60 dX0_agree_35 (rmR (by omega)) rfl rfl (by decide) (Nat.le_of_ble_eq_true rfl) ?_
    refine V_istore F (lv' := [_, _, _, _, _, _]) dX0_agree_38 (by decide) rfl rfl ?_
    refine V_aload_n F dX0_agree_40 rfl ?_
    refine V_getf F (q0 := 2) (j := 0) lk_X0_9 dX0_agree_41 ig_X0 rfl rfl (by decide) rfl rfl ?_
    refine V_getN F (q0 := 1) (j := 3) nk_X0_97 dX0_agree_44 ig_X2 rfl rfl (by decide) rfl rfl ?_
    refine V_iload_n F dX0_agree_47 rfl ?_
    refine V_callSNi F (c_at (q := 5) rfl (show a < 24 by omega) (hX.fld 2 rfl (by omega) ha)) mi_X3_at ms_X3_at nk_X0_60 dX0_agree_48 (rmR (by omega)) rfl rfl (by decide) (Nat.le_of_ble_eq_true rfl) ?_
    refine V_istore F (lv' := [_, _, _, _, _, _]) dX0_agree_51 (by decide) rfl rfl ?_
    refine V_iload F dX0_agree_53 rfl ?_
    refine V_aload_n F dX0_agree_55 rfl ?_
    refine V_getf F (q0 := 2) (j := 0) lk_X0_9 dX0_agree_56 ig_X0 rfl rfl (by decide) rfl rfl ?_
    refine V_getN F (q0 := 1) (j := 2) nk_X0_94 dX0_agree_59 ig_X2 rfl rfl (by decide) rfl rfl ?_
    refine V_iload_n F dX0_agree_62 rfl ?_
    refine V_callSNi F (c_at (q := 4) rfl (show b < 24 by omega) (hX.fld 1 rfl (by omega) hb)) mi_X3_at ms_X3_at nk_X0_60 dX0_agree_63 (rmR (by omega)) rfl rfl (by decide) (Nat.le_of_ble_eq_true rfl) ?_
    refine V_iload_n F dX0_agree_66 rfl ?_
    refine V_callSNi F (c_areEqual hm1.1 hm2.1 (by omega)) mi_X1_areEqual ms_X1_areEqual nk_X0_100 dX0_agree_67 (rmR (by omega)) rfl rfl (by decide) (Nat.le_of_ble_eq_true rfl) ?_
    rw [xv_rc hl h3 hna.1, xv_rc hl h3 hnb.1]
    by_cases h1 : vl r (T 1 a) = vl r (T 1 b)
    · rw [if_pos h1]
      refine V_if_eq_f F (tgt := 97) dX0_agree_70 (by decide) (by decide) ?_
      refine V_iload F dX0_agree_73 rfl ?_
      refine V_aload_n F dX0_agree_75 rfl ?_
      refine V_getf F (q0 := 2) (j := 0) lk_X0_9 dX0_agree_76 ig_X0 rfl rfl (by decide) rfl rfl ?_
      refine V_getN F (q0 := 1) (j := 3) nk_X0_97 dX0_agree_79 ig_X2 rfl rfl (by decide) rfl rfl ?_
      refine V_iload_n F dX0_agree_82 rfl ?_
      refine V_callSNi F (c_at (q := 5) rfl (show b < 24 by omega) (hX.fld 2 rfl (by omega) hb)) mi_X3_at ms_X3_at nk_X0_60 dX0_agree_83 (rmR (by omega)) rfl rfl (by decide) (Nat.le_of_ble_eq_true rfl) ?_
      refine V_iload_n F dX0_agree_86 rfl ?_
      refine V_callSNi F (c_areEqual hm1.2 hm2.2 (by omega)) mi_X1_areEqual ms_X1_areEqual nk_X0_100 dX0_agree_87 (rmR (by omega)) rfl rfl (by decide) (Nat.le_of_ble_eq_true rfl) ?_
      rw [xv_rc hl h3 hna.2, xv_rc hl h3 hnb.2]
      by_cases h2 : vl r (T 2 a) = vl r (T 2 b)
      · rw [if_pos h2, if_pos (by simp [agr, h, h1, h2])]
        refine V_if_eq_f F (tgt := 97) dX0_agree_90 (by decide) (by decide) ?_
        refine V_iconst F (v := nI 1) dX0_agree_93 (by decide) ?_
        refine V_goto F (tgt := 98) dX0_agree_94 (by decide) ?_
        exact V_zret F dX0_agree_98 (rfl) (⟨rfl, rfl⟩)
      · rw [if_neg h2, if_neg (by simp [agr, h2])]
        refine V_if_eq_t F (tgt := 97) dX0_agree_90 (by decide) (by decide) ?_
        refine V_iconst F (v := nI 0) dX0_agree_97 (by decide) ?_
        exact V_zret F dX0_agree_98 (rfl) (⟨rfl, rfl⟩)
    · rw [if_neg h1, if_neg (by simp [agr, h1])]
      refine V_if_eq_t F (tgt := 97) dX0_agree_70 (by decide) (by decide) ?_
      refine V_iconst F (v := nI 0) dX0_agree_97 (by decide) ?_
      exact V_zret F dX0_agree_98 (rfl) (⟨rfl, rfl⟩)
  · rw [if_neg (by simp [agr, h])]
    refine V_iconst F (v := nI 0) dX0_agree_25 (by decide) ?_
    exact V_zret F dX0_agree_26 (rfl) (⟨rfl, rfl⟩)
theorem c_isChosen {rel a : Nat} (hX : XRep T n μ) (ha : a < n) (hrel : rel < 3) : Ct (GS g) l (1) yX0_isChosenWith cX0_isChosenWith 3 (some .boolean) [.ref (g.1 2), .int (nI rel), .int (nI a)] μ (Is (.int (nI (if T 0 a = 3 ∧ rel = 1 then 1 else 0))) μ) := by
  have hn := hX.n24
  have hk := hX.1.kind ha
  refine Ct.of (own := RX0) mi_X0_isChosenWith rfl [some (.ref (g.1 2)), some (.int (nI rel)), some (.int (nI a))] (Nat.le_of_ble_eq_true rfl) rfl (fun p₀ e₀ s₀ m₀ b₀ h₀ c₀ F => ?_)
  refine V_iload_n F dX0_isChosenWith_0 rfl ?_
  refine V_iconst F (v := nI 1) dX0_isChosenWith_1 (by decide) ?_
  refine V_icmp_ne_N F (tgt := 24) dX0_isChosenWith_2 (by decide) (by omega) (by omega) (fun h => ?_) (fun h => ?_)
  · rw [if_neg (fun q => h q.2)]
    refine V_iconst F (v := nI 0) dX0_isChosenWith_24 (by decide) ?_
    exact V_zret F dX0_isChosenWith_25 (rfl) (⟨rfl, rfl⟩)
  · have h := Classical.not_not.mp h
    refine V_aload_n F dX0_isChosenWith_5 rfl ?_
    refine V_getf F (q0 := 2) (j := 0) lk_X0_9 dX0_isChosenWith_6 ig_X0 rfl rfl (by decide) rfl rfl ?_
    refine V_getN F (q0 := 1) (j := 1) nk_X0_85 dX0_isChosenWith_9 ig_X2 rfl rfl (by decide) rfl rfl ?_
    refine V_iload_n F dX0_isChosenWith_12 rfl ?_
    refine V_callSNi F (c_at (q := 3) rfl (show a < 24 by omega) (hX.fld 0 rfl (by omega) ha)) mi_X3_at ms_X3_at nk_X0_60 dX0_isChosenWith_13 (rmR (by omega)) rfl rfl (by decide) (Nat.le_of_ble_eq_true rfl) ?_
    refine V_iconst F (v := nI 3) dX0_isChosenWith_16 (by decide) ?_
    refine V_icmp_ne_N F (tgt := 24) dX0_isChosenWith_17 (by decide) (by omega) (by omega) (fun h2 => ?_) (fun h2 => ?_)
    · rw [if_neg (fun q => h2 q.1)]
      refine V_iconst F (v := nI 0) dX0_isChosenWith_24 (by decide) ?_
      exact V_zret F dX0_isChosenWith_25 (rfl) (⟨rfl, rfl⟩)
    · rw [if_pos ⟨Classical.not_not.mp h2, h⟩]
      refine V_iconst F (v := nI 1) dX0_isChosenWith_20 (by decide) ?_
      refine V_goto F (tgt := 25) dX0_isChosenWith_21 (by decide) ?_
      exact V_zret F dX0_isChosenWith_25 (rfl) (⟨rfl, rfl⟩)
def fiC (T : Tb) (rel a : Nat) : Nat := if T 0 a = 3 ∧ rel = 1 then 0 else 9
def laC (T : Tb) (rel a : Nat) (r : List Nat) : Nat := if T 0 a = 3 ∧ rel = 1 then fr r else 9
theorem nms_eq (rel a : Nat) (r : List Nat) : nms T rel a r = (List.range (laC T rel a r + 1 - fiC T rel a)).map (fiC T rel a + ·) := by
  unfold nms laC fiC
  by_cases h : T 0 a = 3 ∧ rel = 1
  · rw [if_pos h, if_pos h, if_pos h]
    simp
  · rw [if_neg h, if_neg h, if_neg h]
    rfl
theorem laC_le {r : List Nat} (hl : lok r) (h3 : r.length ≤ 3) (rel a : Nat) : laC T rel a r ≤ 9 ∧ fiC T rel a ≤ laC T rel a r := by
  have := fr_le hl
  unfold laC fiC
  split <;> omega
theorem c_firstChoice {rel a : Nat} (hX : XRep T n μ) (ha : a < n) (hrel : rel < 3) : Ct (GS g) l (2) yX0_firstChoice cX0_firstChoice 3 (some .int) [.ref (g.1 2), .int (nI rel), .int (nI a)] μ (Is (.int (nI (fiC T rel a))) μ) := by
  refine Ct.of (own := RX0) mi_X0_firstChoice rfl [some (.ref (g.1 2)), some (.int (nI rel)), some (.int (nI a))] (Nat.le_of_ble_eq_true rfl) rfl (fun p₀ e₀ s₀ m₀ b₀ h₀ c₀ F => ?_)
  refine V_aload_n F dX0_firstChoice_0 rfl ?_
  refine V_iload_n F dX0_firstChoice_1 rfl ?_
  refine V_iload_n F dX0_firstChoice_2 rfl ?_
  refine V_callVi F (q0 := 2) (c_isChosen hX ha hrel) mi_X0_isChosenWith mm_X0_isChosenWith lk_X0_103 dX0_firstChoice_3 (rmR (by omega)) rfl rfl (by decide) (Nat.le_of_ble_eq_true rfl) rfl rfl rfl ?_
  unfold fiC
  by_cases h : T 0 a = 3 ∧ rel = 1
  · rw [if_pos h, if_pos h]
    refine V_if_eq_f F (tgt := 13) dX0_firstChoice_6 (by decide) (by decide) ?_
    refine V_iconst F (v := nI 0) dX0_firstChoice_9 (by decide) ?_
    refine V_goto F (tgt := 15) dX0_firstChoice_10 (by decide) ?_
    exact V_iret F dX0_firstChoice_15 (⟨rfl, rfl⟩)
  · rw [if_neg h, if_neg h]
    refine V_if_eq_t F (tgt := 13) dX0_firstChoice_6 (by decide) (by decide) ?_
    refine V_bipush F (v := nI 9) dX0_firstChoice_13 (by decide) ?_
    exact V_iret F dX0_firstChoice_15 (⟨rfl, rfl⟩)
theorem c_lastChoice {rel a : Nat} {r : List Nat} (hX : XRep T n μ) (ha : a < n) (hrel : rel < 3) (hl : lok r) (h3 : r.length ≤ 3) : Ct (GS g) l (2) yX0_lastChoice cX0_lastChoice 4 (some .int) [.ref (g.1 2), .int (nI rel), .int (nI a), .int (nI (rc r))] μ (Is (.int (nI (laC T rel a r))) μ) := by
  have hr := (rc_lt hl h3).1
  refine Ct.of (own := RX0) mi_X0_lastChoice rfl [some (.ref (g.1 2)), some (.int (nI rel)), some (.int (nI a)), some (.int (nI (rc r)))] (Nat.le_of_ble_eq_true rfl) rfl (fun p₀ e₀ s₀ m₀ b₀ h₀ c₀ F => ?_)
  refine V_aload_n F dX0_lastChoice_0 rfl ?_
  refine V_iload_n F dX0_lastChoice_1 rfl ?_
  refine V_iload_n F dX0_lastChoice_2 rfl ?_
  refine V_callVi F (q0 := 2) (c_isChosen hX ha hrel) mi_X0_isChosenWith mm_X0_isChosenWith lk_X0_103 dX0_lastChoice_3 (rmR (by omega)) rfl rfl (by decide) (Nat.le_of_ble_eq_true rfl) rfl rfl rfl ?_
  unfold laC
  by_cases h : T 0 a = 3 ∧ rel = 1
  · rw [if_pos h, if_pos h]
    refine V_if_eq_f F (tgt := 16) dX0_lastChoice_6 (by decide) (by decide) ?_
    refine V_iload_n F dX0_lastChoice_9 rfl ?_
    refine V_callSNi F (c_nextFresh (show rc r < 2 ^ 31 by omega)) mi_X1_nextFresh ms_X1_nextFresh nk_X0_88 dX0_lastChoice_10 (rmR (by omega)) rfl rfl (by decide) (Nat.le_of_ble_eq_true rfl) ?_
    rw [fr_rc hl h3]
    refine V_goto F (tgt := 18) dX0_lastChoice_13 (by decide) ?_
    exact V_iret F dX0_lastChoice_18 (⟨rfl, rfl⟩)
  · rw [if_neg h, if_neg h]
    refine V_if_eq_t F (tgt := 16) dX0_lastChoice_6 (by decide) (by decide) ?_
    refine V_bipush F (v := nI 9) dX0_lastChoice_16 (by decide) ?_
    exact V_iret F dX0_lastChoice_18 (⟨rfl, rfl⟩)
end GAMEA
end
section
section MONO
variable {T : Tb} {n : Nat}
theorem flw_mono {rel k a v b : Nat} {r : List Nat} (h : flw T rel k a v b r = true) : flw T rel (k + 1) a v b r = true := by
  unfold flw at h ⊢
  obtain ⟨x, hx, h⟩ := List.any_eq_true.mp h
  exact List.any_eq_true.mpr ⟨x, hx, win_mono _ _ _ _ _ h⟩
theorem hld_mono {rel k a v q : Nat} {r : List Nat} (h : hld T rel k a v q r = true) : hld T rel (k + 1) a v q r = true := by
  unfold hld at h ⊢
  refine List.all_eq_true.mpr fun b hb => ?_
  have h := List.all_eq_true.mp h b hb
  rw [Bool.or_eq_true] at h ⊢
  exact h.imp id flw_mono
theorem sid_mono {rel k p q : Nat} {r : List Nat} (h : sid T rel k p q r = true) : sid T rel (k + 1) p q r = true := by
  unfold sid at h ⊢
  obtain ⟨a, ha, h⟩ := List.any_eq_true.mp h
  obtain ⟨v, hv, h⟩ := List.any_eq_true.mp h
  exact List.any_eq_true.mpr ⟨a, ha, List.any_eq_true.mpr ⟨v, hv, hld_mono h⟩⟩
theorem sid_le {rel j k p q : Nat} {r : List Nat} (hjk : j ≤ k) (h : sid T rel j p q r = true) : sid T rel k p q r = true := by
  induction hjk with
  | refl => exact h
  | step _ ih => exact sid_mono ih
/-- shifted by a round -/
def shf (P : Nat → Bool) : Nat → Bool
  | 0 => false
  | j + 1 => P j
theorem Sp.uniq {r r' k : Nat} {P : Nat → Bool} (hk : k ≤ 3) (h : Sp r P k) (h' : Sp r' P k) : r = r' := by
  have a := h.2
  have b := h'.2
  rcases h.1 with h1 | h1 <;> rcases h'.1 with h2 | h2
  · have c1 := (b r h1).mpr ((a r h1).mp (Nat.le_refl _))
    have c2 := (a r' h2).mpr ((b r' h2).mp (Nat.le_refl _))
    omega
  · have c1 := (b r h1).mpr ((a r h1).mp (Nat.le_refl _))
    omega
  · have c2 := (a r' h2).mpr ((b r' h2).mp (Nat.le_refl _))
    omega
  · omega
theorem Sp.cut {v k : Nat} {P : Nat → Bool} (hk : k ≤ 3) (h : Sp v P 3) (hP : ∀ j, k ≤ j → j ≤ 3 → P j = P k) : Sp v P k := by
  refine ⟨?_, fun j hj => h.2 j (by omega)⟩
  rcases h.1 with h1 | h1
  · by_cases hv : v ≤ k
    · exact Or.inl hv
    · exfalso
      have := (h.2 v h1).mp (Nat.le_refl _)
      rw [hP v (by omega) h1] at this
      exact hv ((h.2 k hk).mpr this)
  · exact Or.inr h1
theorem Sp.ext {v k : Nat} {P : Nat → Bool} (hk : k ≤ 3) (h : Sp v P k) (hP : ∀ j, k ≤ j → j ≤ 3 → P j = P k) : Sp v P 3 := by
  refine ⟨by have := h.1; omega, fun j hj => ?_⟩
  by_cases hjk : j ≤ k
  · exact h.2 j hjk
  · rw [hP j (by omega) hj, ← h.2 k (Nat.le_refl _)]
    have := h.1
    omega
theorem pre_mem {p i : Nat} {r : List Nat} : ∀ b, b ∈ (List.range i).filterMap (slA T p r) ↔ ∃ s, s < i ∧ slA T p r s = some b := by
  intro b
  rw [List.mem_filterMap]
  constructor
  · rintro ⟨s, hs, h⟩
    exact ⟨s, List.mem_range.mp hs, h⟩
  · rintro ⟨s, hs, h⟩
    exact ⟨s, List.mem_range.mpr hs, h⟩
theorem mvs_iff (hW : WF T n) {p : Nat} (hp : p < n) {r : List Nat} (b : Nat) : b ∈ mvs T p r ↔ ∃ s, s < 3 ∧ slA T p r s = some b := by
  rw [mvs_eq hW hp]
  exact pre_mem b
theorem slA_mvs (hW : WF T n) {p s b : Nat} (hp : p < n) {r : List Nat} (hs : s < 3) (h : slA T p r s = some b) : b ∈ mvs T p r := (mvs_iff hW hp b).mpr ⟨s, hs, h⟩
/-- what is asked of a position -/
def Pos (T : Tb) (n rel p q : Nat) (r : List Nat) (k : Nat) : Prop := p < n ∧ q < n ∧ rel < 3 ∧ lok r ∧ r.length + k ≤ 3 ∧ T 7 p ≤ r.length ∧ T 7 q ≤ r.length ∧ T 5 p ≤ k ∧ T 5 q ≤ k
/-- an answer of the game's methods: a number of rounds, the kept worths in order -/
def WQ (T : Tb) (n : Nat) (μ : Mem) (P : Nat → Bool) (k : Nat) : Option Value → Mem → Prop := fun ret μ' => ∃ v, ret = some (.int (nI v)) ∧ v ≤ 4 ∧ Sp v P k ∧ Memo T n μ' ∧ sameW μ μ'
theorem XInv.of_W {μ μ' : Mem} (h : XInv T n μ) (s : sameW μ μ') (m : Memo T n μ') : XInv T n μ' := ⟨h.1.of_sameW s, m⟩
/-- the worth of a position, as a contract -/
def WC (g : Gm) (l : Launch) (T : Tb) (n k : Nat) : Prop := ∀ (μ : Mem) (rel p q : Nat) (r : List Nat), XInv T n μ → Pos T n rel p q r k → Ct (GS g) l (4 * k + 4) yX0_worth cX0_worth 11 (some .int) [.ref (g.1 2), .int (nI rel), .int (nI p), .int (nI q), .int (nI (rc r)), .int (nI k)] μ (WQ T n μ (fun j => win T rel j p q r) k)
/-- where an answer leads -/
theorem lead (hW : WF T n) {rel k a b : Nat} {r : List Nat} (ha : a < n) (hb : b < n) (ha1 : 1 ≤ T 0 a ∧ T 0 a ≤ 3) (hb1 : 1 ≤ T 0 b ∧ T 0 b ≤ 3) (hk : T 0 a = T 0 b) (hrel : rel < 3) (hl : lok r) (hlen : r.length + (k + 1) ≤ 3) (h7a : T 7 a ≤ r.length) (h7b : T 7 b ≤ r.length) (h5a : T 5 a ≤ k + 1) (h5b : T 5 b ≤ k + 1) :
    (T 0 a ≠ 3 → Pos T n rel (T 3 a) (T 3 b) r k) ∧ (T 0 a = 3 → ∀ w, w ≤ fr r → Pos T n rel (T 3 a) (T 3 b) (w :: r) k) := by
  obtain ⟨a1, a2, a3, a4, a5⟩ := act_facts hW ha ha1.1 ha1.2
  obtain ⟨b1, b2, b3, b4, b5⟩ := act_facts hW hb hb1.1 hb1.2
  constructor
  · intro h3
    rw [if_neg h3] at a5
    rw [if_neg (by omega)] at b5
    exact ⟨by omega, by omega, hrel, hl, by omega, by omega, by omega, by omega, by omega⟩
  · intro h3 w hw
    rw [if_pos h3] at a5
    rw [if_pos (by omega)] at b5
    exact ⟨by omega, by omega, hrel, ⟨hw, hl⟩, by simp only [List.length_cons]; omega, by simp only [List.length_cons]; omega, by simp only [List.length_cons]; omega, by omega, by omega⟩
def loN (rel nm f : Nat) : Nat := if rel = 2 then 0 else if rel = 1 then nm else f
def hiN (rel nm f : Nat) : Nat := if rel = 1 then nm else f
theorem nxt_eq {rel a v : Nat} {r : List Nat} (hrel : rel < 3) (h3 : T 0 a = 3) : nxt T rel a v r = (List.range (hiN rel v (fr r) + 1 - loN rel v (fr r))).map (fun i => (loN rel v (fr r) + i) :: r) := by
  unfold nxt hiN loN
  rw [if_pos h3]
  rcases (by omega : rel = 0 ∨ rel = 1 ∨ rel = 2) with rfl | rfl | rfl
  · simp [show fr r + 1 - fr r = 1 by omega, List.range_succ]
  · simp [show v + 1 - v = 1 by omega, List.range_succ]
  · simp
end MONO
section GAMEB
variable {g : Gm} {l : Launch} {μ : Mem} {T : Tb} {n : Nat}
theorem c_answerWorth {k rel a nm b : Nat} {r : List Nat} (hC : WC g l T n k) (hI : XInv T n μ) (hrel : rel < 3) (ha : a < n) (hb : b < n) (ha1 : 1 ≤ T 0 a ∧ T 0 a ≤ 3) (hb1 : 1 ≤ T 0 b ∧ T 0 b ≤ 3) (hab : T 0 a = T 0 b) (hl : lok r) (hlen : r.length + (k + 1) ≤ 3) (h7a : T 7 a ≤ r.length) (h7b : T 7 b ≤ r.length) (h5a : T 5 a ≤ k + 1) (h5b : T 5 b ≤ k + 1) (hnm : nm ∈ nms T rel a r) : Ct (GS g) l (4 * k + 5) yX0_answerWorth cX0_answerWorth 15 (some .int) [.ref (g.1 2), .int (nI rel), .int (nI a), .int (nI nm), .int (nI b), .int (nI (rc r)), .int (nI (k + 1))] μ (WQ T n μ (fun j => flw T rel j a nm b r) k) := by
  have hX := hI.1
  have hn := hX.n24
  have hlead := lead hX.1 (rel := rel) ha hb ha1 hb1 hab hrel hl hlen h7a h7b h5a h5b
  have hr := rc_lt hl (by omega)
  have hr9 := hr.2.2 (by omega)
  have hfr := fr_le hl
  refine Ct.of (own := RX0) mi_X0_answerWorth rfl [some (.ref (g.1 2)), some (.int (nI rel)), some (.int (nI a)), some (.int (nI nm)), some (.int (nI b)), some (.int (nI (rc r))), some (.int (nI (k + 1))), none, none, none, none, none, none, none, none] (Nat.le_of_ble_eq_true rfl) rfl (fun p₀ e₀ s₀ m₀ b₀ h₀ c₀ F => ?_)
  refine V_aload_n F dX0_answerWorth_0 rfl ?_
  refine V_getf F (q0 := 2) (j := 0) lk_X0_9 dX0_answerWorth_1 ig_X0 rfl rfl (by decide) rfl rfl ?_
  refine V_getN F (q0 := 1) (j := 4) nk_X0_82 dX0_answerWorth_4 ig_X2 rfl rfl (by decide) rfl rfl ?_
  refine V_iload_n F dX0_answerWorth_7 rfl ?_
  refine V_callSNi F (c_at (q := 6) rfl (show a < 24 by omega) (hX.fld 3 rfl (by omega) ha)) mi_X3_at ms_X3_at nk_X0_60 dX0_answerWorth_8 (rmR (by omega)) rfl rfl (by decide) (Nat.le_of_ble_eq_true rfl) ?_
  refine V_istore F (lv' := [_, _, _, _, _, _, _, _, _, _, _, _, _, _, _]) dX0_answerWorth_11 (by decide) rfl rfl ?_
  refine V_aload_n F dX0_answerWorth_13 rfl ?_
  refine V_getf F (q0 := 2) (j := 0) lk_X0_9 dX0_answerWorth_14 ig_X0 rfl rfl (by decide) rfl rfl ?_
  refine V_getN F (q0 := 1) (j := 4) nk_X0_82 dX0_answerWorth_17 ig_X2 rfl rfl (by decide) rfl rfl ?_
  refine V_iload F dX0_answerWorth_20 rfl ?_
  refine V_callSNi F (c_at (q := 6) rfl (show b < 24 by omega) (hX.fld 3 rfl (by omega) hb)) mi_X3_at ms_X3_at nk_X0_60 dX0_answerWorth_22 (rmR (by omega)) rfl rfl (by decide) (Nat.le_of_ble_eq_true rfl) ?_
  refine V_istore F (lv' := [_, _, _, _, _, _, _, _, _, _, _, _, _, _, _]) dX0_answerWorth_25 (by decide) rfl rfl ?_
  refine V_aload_n F dX0_answerWorth_27 rfl ?_
  refine V_getf F (q0 := 2) (j := 0) lk_X0_9 dX0_answerWorth_28 ig_X0 rfl rfl (by decide) rfl rfl ?_
  refine V_getN F (q0 := 1) (j := 1) nk_X0_85 dX0_answerWorth_31 ig_X2 rfl rfl (by decide) rfl rfl ?_
  refine V_iload_n F dX0_answerWorth_34 rfl ?_
  refine V_callSNi F (c_at (q := 3) rfl (show a < 24 by omega) (hX.fld 0 rfl (by omega) ha)) mi_X3_at ms_X3_at nk_X0_60 dX0_answerWorth_35 (rmR (by omega)) rfl rfl (by decide) (Nat.le_of_ble_eq_true rfl) ?_
  refine V_iconst F (v := nI 3) dX0_answerWorth_38 (by decide) ?_
  refine V_icmp_eq_N F (tgt := 58) dX0_answerWorth_39 (by decide) (by omega) (by omega) (fun h3 => ?_) (fun h3 => ?_)
  · skip
    have hfl : ∀ v, v ≤ hiN rel nm (fr r) → v ≤ fr r := by
      intro v hv
      unfold hiN at hv
      split at hv
      · rename_i h1
        unfold nms at hnm
        rw [if_pos ⟨h3, h1⟩] at hnm
        have := List.mem_range.mp hnm
        omega
      · exact hv
    have hlh : loN rel nm (fr r) ≤ hiN rel nm (fr r) := by unfold loN hiN; split <;> split <;> omega
    have hhi := hfl _ (Nat.le_refl _)
    have loop : ∀ (d i best : Nat) (ν : Mem), loN rel nm (fr r) ≤ i → i + d = hiN rel nm (fr r) + 1 → best ≤ 4 → (best ≤ k ∨ best = 4) → (∀ j, j ≤ k → (best ≤ j ↔ ∃ w, loN rel nm (fr r) ≤ w ∧ w < i ∧ win T rel j (T 3 a) (T 3 b) (w :: r) = true)) → Memo T n ν → sameW μ ν →
        V (GS g) p₀ l e₀ (rmD (4 * k + 5)) s₀ m₀ (List.toArray [.ref (g.1 2), .int (nI rel), .int (nI a), .int (nI nm), .int (nI b), .int (nI (rc r)), .int (nI (k + 1))]) b₀ h₀ c₀ 15 0 0 (MQ b₀ (Qp (GS g) (WQ T n μ (fun j => flw T rel j a nm b r) k)) (List.toArray [.ref (g.1 2), .int (nI rel), .int (nI a), .int (nI nm), .int (nI b), .int (nI (rc r)), .int (nI (k + 1))]) s₀ 0 0 (gA (GS g))) 107 ([some (.ref (g.1 2)), some (.int (nI rel)), some (.int (nI a)), some (.int (nI nm)), some (.int (nI b)), some (.int (nI (rc r))), some (.int (nI (k + 1))), some (.int (nI (T 3 a))), some (.int (nI (T 3 b))), some (.int (nI (fr r))), some (.int (nI (loN rel nm (fr r)))), some (.int (nI (hiN rel nm (fr r)))), some (.int (nI best)), some (.int (nI i)), none]) ([]) (ν) := by
      intro d
      induction d with
      | zero =>
        intro i best ν hlo hi hb4 hbk hinv hM hS
        refine V_iload F dX0_answerWorth_107 rfl ?_
        refine V_iload F dX0_answerWorth_109 rfl ?_
        refine V_icmp_gt_N F (tgt := 151) dX0_answerWorth_111 (by decide) (by omega) (by omega) (fun h => ?_) (fun h => ?_)
        · skip
          refine V_iload F dX0_answerWorth_151 rfl ?_
          refine V_iret F dX0_answerWorth_153 ⟨best, rfl, hb4, ⟨hbk, fun j hj => (hinv j hj).trans ?_⟩, hM, hS⟩
          unfold flw
          rw [nxt_eq hrel h3, List.any_eq_true]
          constructor
          · rintro ⟨w, h1, h2, h4⟩
            exact ⟨w :: r, List.mem_map.mpr ⟨w - loN rel nm (fr r), List.mem_range.mpr (by omega), by rw [show loN rel nm (fr r) + (w - loN rel nm (fr r)) = w by omega]⟩, h4⟩
          · rintro ⟨x, hx, h4⟩
            obtain ⟨z, hz, rfl⟩ := List.mem_map.mp hx
            have := List.mem_range.mp hz
            exact ⟨_, by omega, by omega, h4⟩
        · omega
      | succ d ih =>
        intro i best ν hlo hi hb4 hbk hinv hM hS
        refine V_iload F dX0_answerWorth_107 rfl ?_
        refine V_iload F dX0_answerWorth_109 rfl ?_
        refine V_icmp_gt_N F (tgt := 151) dX0_answerWorth_111 (by decide) (by omega) (by omega) (fun h => ?_) (fun h => ?_)
        · omega
        · skip
          refine V_iload F dX0_answerWorth_114 rfl ?_
          refine V_iload F dX0_answerWorth_116 rfl ?_
          refine V_callSNi F (c_with (r := rc r) (v := i) (by omega) (by omega)) mi_X1_with ms_X1_with nk_X0_91 dX0_answerWorth_118 (rmR (by omega)) rfl rfl (by decide) (Nat.le_of_ble_eq_true rfl) ?_
          refine V_istore F (lv' := [_, _, _, _, _, _, _, _, _, _, _, _, _, _, _]) dX0_answerWorth_121 (by decide) rfl rfl ?_
          refine V_iload F dX0_answerWorth_123 rfl ?_
          refine V_aload_n F dX0_answerWorth_125 rfl ?_
          refine V_iload_n F dX0_answerWorth_126 rfl ?_
          refine V_iload F dX0_answerWorth_127 rfl ?_
          refine V_iload F dX0_answerWorth_129 rfl ?_
          refine V_iload F dX0_answerWorth_131 rfl ?_
          refine V_iload F dX0_answerWorth_133 rfl ?_
          refine V_iconst F (v := nI 1) dX0_answerWorth_135 (by decide) ?_
          refine V_isubN F (by omega) dX0_answerWorth_136 ?_
          rw [Nat.add_sub_cancel]
          refine V_callV F (q0 := 2) (hC ν rel (T 3 a) (T 3 b) (i :: r) (hI.of_W hS hM) (hlead.2 h3 i (by omega))) mi_X0_worth mm_X0_worth lk_X0_29 dX0_answerWorth_137 (rmR (by omega)) rfl rfl (by decide) (Nat.le_of_ble_eq_true rfl) rfl rfl rfl (fun r μ' h => ?_)
          obtain ⟨v, rfl, hv4, hSp, hM', hS'⟩ := h
          refine V_minN F lk_X0_67 dX0_answerWorth_140 (rmM (by omega) (Nat.le_of_ble_eq_true rfl)) (by omega) (by omega) ?_
          refine V_istore F (lv' := [_, _, _, _, _, _, _, _, _, _, _, _, _, _, _]) dX0_answerWorth_143 (by decide) rfl rfl ?_
          refine V_iinc F (lv' := [_, _, _, _, _, _, _, _, _, _, _, _, _, _, _]) dX0_answerWorth_145 rfl (by decide) rfl rfl ?_
          refine V_goto F (tgt := 107) dX0_answerWorth_148 (by decide) ?_
          rw [show nI i + Int32.ofInt 1 = nI (i + 1) from nI_1 i]
          refine V_msk [true, true, true, true, true, true, true, true, true, true, true, true, true, true, false] (lv' := [_, _, _, _, _, _, _, _, _, _, _, _, _, _, _]) rfl ?_
          refine ih (i + 1) (min best v) _ (by omega) (by omega) (by omega) (by have := hSp.1; omega) (fun j hj => ?_) hM' (hS.trans hS')
          have e : min best v ≤ j ↔ best ≤ j ∨ v ≤ j := by omega
          rw [e, hinv j hj, hSp.2 j hj]
          constructor
          · rintro (⟨w, h1, h2, h4⟩ | h4)
            · exact ⟨w, h1, by omega, h4⟩
            · exact ⟨i, hlo, by omega, h4⟩
          · rintro ⟨w, h1, h2, h4⟩
            by_cases hwi : w = i
            · subst hwi; exact Or.inr h4
            · exact Or.inl ⟨w, h1, by omega, h4⟩
    have start := loop (hiN rel nm (fr r) + 1 - loN rel nm (fr r)) (loN rel nm (fr r)) 4 μ (Nat.le_refl _) (by omega) (by omega) (Or.inr rfl) (fun j hj => ⟨fun q => by omega, fun ⟨w, h1, h2, _⟩ => by omega⟩) hI.2 (sameW.rfl' μ)
    refine V_iload F dX0_answerWorth_58 rfl ?_
    refine V_callSNi F (c_nextFresh (show rc r < 2 ^ 31 by omega)) mi_X1_nextFresh ms_X1_nextFresh nk_X0_88 dX0_answerWorth_60 (rmR (by omega)) rfl rfl (by decide) (Nat.le_of_ble_eq_true rfl) ?_
    rw [fr_rc hl (by omega)]
    refine V_istore F (lv' := [_, _, _, _, _, _, _, _, _, _, _, _, _, _, _]) dX0_answerWorth_63 (by decide) rfl rfl ?_
    refine V_iload_n F dX0_answerWorth_65 rfl ?_
    refine V_iconst F (v := nI 2) dX0_answerWorth_66 (by decide) ?_
    rcases (by omega : rel = 0 ∨ rel = 1 ∨ rel = 2) with rfl | rfl | rfl
    · skip
      refine V_icmp_ne_t F (tgt := 74) dX0_answerWorth_67 (by decide) (by decide) ?_
      refine V_iload_n F dX0_answerWorth_74 rfl ?_
      refine V_iconst F (v := nI 1) dX0_answerWorth_75 (by decide) ?_
      refine V_icmp_ne_t F (tgt := 83) dX0_answerWorth_76 (by decide) (by decide) ?_
      refine V_iload F dX0_answerWorth_83 rfl ?_
      refine V_istore F (lv' := [_, _, _, _, _, _, _, _, _, _, _, _, _, _, _]) dX0_answerWorth_85 (by decide) rfl rfl ?_
      refine V_iload_n F dX0_answerWorth_87 rfl ?_
      refine V_iconst F (v := nI 1) dX0_answerWorth_88 (by decide) ?_
      refine V_icmp_ne_t F (tgt := 96) dX0_answerWorth_89 (by decide) (by decide) ?_
      refine V_iload F dX0_answerWorth_96 rfl ?_
      refine V_istore F (lv' := [_, _, _, _, _, _, _, _, _, _, _, _, _, _, _]) dX0_answerWorth_98 (by decide) rfl rfl ?_
      refine V_iconst F (v := nI 4) dX0_answerWorth_100 (by decide) ?_
      refine V_istore F (lv' := [_, _, _, _, _, _, _, _, _, _, _, _, _, _, _]) dX0_answerWorth_101 (by decide) rfl rfl ?_
      refine V_iload F dX0_answerWorth_103 rfl ?_
      refine V_istore F (lv' := [_, _, _, _, _, _, _, _, _, _, _, _, _, _, _]) dX0_answerWorth_105 (by decide) rfl rfl ?_
      exact start
    · skip
      refine V_icmp_ne_t F (tgt := 74) dX0_answerWorth_67 (by decide) (by decide) ?_
      refine V_iload_n F dX0_answerWorth_74 rfl ?_
      refine V_iconst F (v := nI 1) dX0_answerWorth_75 (by decide) ?_
      refine V_icmp_ne_f F (tgt := 83) dX0_answerWorth_76 (by decide) (rfl) ?_
      refine V_iload_n F dX0_answerWorth_79 rfl ?_
      refine V_goto F (tgt := 85) dX0_answerWorth_80 (by decide) ?_
      refine V_istore F (lv' := [_, _, _, _, _, _, _, _, _, _, _, _, _, _, _]) dX0_answerWorth_85 (by decide) rfl rfl ?_
      refine V_iload_n F dX0_answerWorth_87 rfl ?_
      refine V_iconst F (v := nI 1) dX0_answerWorth_88 (by decide) ?_
      refine V_icmp_ne_f F (tgt := 96) dX0_answerWorth_89 (by decide) (rfl) ?_
      refine V_iload_n F dX0_answerWorth_92 rfl ?_
      refine V_goto F (tgt := 98) dX0_answerWorth_93 (by decide) ?_
      refine V_istore F (lv' := [_, _, _, _, _, _, _, _, _, _, _, _, _, _, _]) dX0_answerWorth_98 (by decide) rfl rfl ?_
      refine V_iconst F (v := nI 4) dX0_answerWorth_100 (by decide) ?_
      refine V_istore F (lv' := [_, _, _, _, _, _, _, _, _, _, _, _, _, _, _]) dX0_answerWorth_101 (by decide) rfl rfl ?_
      refine V_iload F dX0_answerWorth_103 rfl ?_
      refine V_istore F (lv' := [_, _, _, _, _, _, _, _, _, _, _, _, _, _, _]) dX0_answerWorth_105 (by decide) rfl rfl ?_
      exact start
    · skip
      refine V_icmp_ne_f F (tgt := 74) dX0_answerWorth_67 (by decide) (rfl) ?_
      refine V_iconst F (v := nI 0) dX0_answerWorth_70 (by decide) ?_
      refine V_goto F (tgt := 85) dX0_answerWorth_71 (by decide) ?_
      refine V_istore F (lv' := [_, _, _, _, _, _, _, _, _, _, _, _, _, _, _]) dX0_answerWorth_85 (by decide) rfl rfl ?_
      refine V_iload_n F dX0_answerWorth_87 rfl ?_
      refine V_iconst F (v := nI 1) dX0_answerWorth_88 (by decide) ?_
      refine V_icmp_ne_t F (tgt := 96) dX0_answerWorth_89 (by decide) (by decide) ?_
      refine V_iload F dX0_answerWorth_96 rfl ?_
      refine V_istore F (lv' := [_, _, _, _, _, _, _, _, _, _, _, _, _, _, _]) dX0_answerWorth_98 (by decide) rfl rfl ?_
      refine V_iconst F (v := nI 4) dX0_answerWorth_100 (by decide) ?_
      refine V_istore F (lv' := [_, _, _, _, _, _, _, _, _, _, _, _, _, _, _]) dX0_answerWorth_101 (by decide) rfl rfl ?_
      refine V_iload F dX0_answerWorth_103 rfl ?_
      refine V_istore F (lv' := [_, _, _, _, _, _, _, _, _, _, _, _, _, _, _]) dX0_answerWorth_105 (by decide) rfl rfl ?_
      exact start
  · have h3 : T 0 a ≠ 3 := h3
    refine V_aload_n F dX0_answerWorth_42 rfl ?_
    refine V_iload_n F dX0_answerWorth_43 rfl ?_
    refine V_iload F dX0_answerWorth_44 rfl ?_
    refine V_iload F dX0_answerWorth_46 rfl ?_
    refine V_iload F dX0_answerWorth_48 rfl ?_
    refine V_iload F dX0_answerWorth_50 rfl ?_
    refine V_iconst F (v := nI 1) dX0_answerWorth_52 (by decide) ?_
    refine V_isubN F (by omega) dX0_answerWorth_53 ?_
    rw [Nat.add_sub_cancel]
    refine V_callV F (q0 := 2) (hC μ rel (T 3 a) (T 3 b) r hI (hlead.1 h3)) mi_X0_worth mm_X0_worth lk_X0_29 dX0_answerWorth_54 (rmR (by omega)) rfl rfl (by decide) (Nat.le_of_ble_eq_true rfl) rfl rfl rfl (fun r μ' h => ?_)
    obtain ⟨v, rfl, hv4, hSp, hM', hS'⟩ := h
    refine V_iret F dX0_answerWorth_57 ⟨v, rfl, hv4, ⟨hSp.1, fun j hj => (hSp.2 j hj).trans ?_⟩, hM', hS'⟩
    unfold flw nxt
    rw [if_neg h3]
    simp
end GAMEB
end
section
section GAMEC
variable {g : Gm} {l : Launch} {μ : Mem} {T : Tb} {n : Nat}
/-- an action of a state, with its bounds -/
theorem mv_ok (hX : WF T n) {p a : Nat} (hp : p < n) {r : List Nat} (h : a ∈ mvs T p r) : a < n ∧ (1 ≤ T 0 a ∧ T 0 a ≤ 3) ∧ T 5 a ≤ T 5 p ∧ T 7 a ≤ T 7 p ∧ T 1 a < 3 + T 7 p ∧ T 2 a < 3 + T 7 p := by
  obtain ⟨h1, h2, h3, h4, h5, h6⟩ := mvs_mem hX hp h
  obtain ⟨f1, f2, -⟩ := act_facts hX (show a < n by omega) h3 h4
  exact ⟨by omega, ⟨h3, h4⟩, h5, h6, by omega, by omega⟩
theorem c_attackWorth {k rel a nm q : Nat} {r : List Nat} (hC : WC g l T n k) (hI : XInv T n μ) (hrel : rel < 3) (ha : a < n) (hq : q < n) (ha1 : 1 ≤ T 0 a ∧ T 0 a ≤ 3) (hl : lok r) (hlen : r.length + (k + 1) ≤ 3) (h7a : T 7 a ≤ r.length) (h7q : T 7 q ≤ r.length) (h5a : T 5 a ≤ k + 1) (h5q : T 5 q ≤ k + 1) (hnm : nm ∈ nms T rel a r) : Ct (GS g) l (4 * k + 6) yX0_attackWorth cX0_attackWorth 11 (some .int) [.ref (g.1 2), .int (nI rel), .int (nI a), .int (nI nm), .int (nI q), .int (nI (rc r)), .int (nI (k + 1))] μ (WQ T n μ (shf (fun j => hld T rel j a nm q r)) (k + 1)) := by
  have hn := hI.1.n24
  have hW := hI.1.1
  obtain ⟨na1, na2, -⟩ := act_facts hW ha ha1.1 ha1.2
  refine Ct.of (own := RX0) mi_X0_attackWorth rfl [some (.ref (g.1 2)), some (.int (nI rel)), some (.int (nI a)), some (.int (nI nm)), some (.int (nI q)), some (.int (nI (rc r))), some (.int (nI (k + 1))), none, none, none, none] (Nat.le_of_ble_eq_true rfl) rfl (fun p₀ e₀ s₀ m₀ b₀ h₀ c₀ F => ?_)
  have fin : ∀ (i h : Nat) (ν : Mem), h ≤ 4 → (h ≤ k ∨ h = 4) → (∀ j, j ≤ k → (h ≤ j ↔ hld T rel j a nm q r = true)) → Memo T n ν → sameW μ ν →
      V (GS g) p₀ l e₀ (rmD (4 * k + 6)) s₀ m₀ (List.toArray [.ref (g.1 2), .int (nI rel), .int (nI a), .int (nI nm), .int (nI q), .int (nI (rc r)), .int (nI (k + 1))]) b₀ h₀ c₀ 11 0 0 (MQ b₀ (Qp (GS g) (WQ T n μ (shf (fun j => hld T rel j a nm q r)) (k + 1))) (List.toArray [.ref (g.1 2), .int (nI rel), .int (nI a), .int (nI nm), .int (nI q), .int (nI (rc r)), .int (nI (k + 1))]) s₀ 0 0 (gA (GS g))) 82 ([some (.ref (g.1 2)), some (.int (nI rel)), some (.int (nI a)), some (.int (nI nm)), some (.int (nI q)), some (.int (nI (rc r))), some (.int (nI (k + 1))), some (.int (nI h)), some (.int (nI i)), none, none]) ([]) (ν) := by
    intro i h ν h4 hk hinv hM hS
    refine V_iconst F (v := nI 4) dX0_attackWorth_82 (by decide) ?_
    refine V_iload F dX0_attackWorth_83 rfl ?_
    refine V_iconst F (v := nI 1) dX0_attackWorth_85 (by decide) ?_
    (first | refine V_iaddN F dX0_attackWorth_86 ?_ | refine V_iadd F dX0_attackWorth_86 ?_)
    refine V_minN F lk_X0_67 dX0_attackWorth_87 (rmM (by omega) (Nat.le_of_ble_eq_true rfl)) (by omega) (by omega) ?_
    refine V_iret F dX0_attackWorth_90 ⟨min 4 (h + 1), rfl, by omega, ⟨by omega, fun j hj => ?_⟩, hM, hS⟩
    cases j with
    | zero => exact ⟨fun q => by omega, fun q => by cases q⟩
    | succ j =>
      show min 4 (h + 1) ≤ j + 1 ↔ hld T rel j a nm q r = true
      rw [← hinv j (by omega)]
      omega
  have loop : ∀ (d i h : Nat) (ν : Mem), i + d = 3 → h ≤ 4 → (h ≤ k ∨ h = 4) → (∀ j, j ≤ k → (h ≤ j ↔ ∀ b, (∃ s, s < i ∧ slA T q r s = some b) → agr T r a b = true → flw T rel j a nm b r = true)) → Memo T n ν → sameW μ ν →
      V (GS g) p₀ l e₀ (rmD (4 * k + 6)) s₀ m₀ (List.toArray [.ref (g.1 2), .int (nI rel), .int (nI a), .int (nI nm), .int (nI q), .int (nI (rc r)), .int (nI (k + 1))]) b₀ h₀ c₀ 11 0 0 (MQ b₀ (Qp (GS g) (WQ T n μ (shf (fun j => hld T rel j a nm q r)) (k + 1))) (List.toArray [.ref (g.1 2), .int (nI rel), .int (nI a), .int (nI nm), .int (nI q), .int (nI (rc r)), .int (nI (k + 1))]) s₀ 0 0 (gA (GS g))) 6 ([some (.ref (g.1 2)), some (.int (nI rel)), some (.int (nI a)), some (.int (nI nm)), some (.int (nI q)), some (.int (nI (rc r))), some (.int (nI (k + 1))), some (.int (nI h)), some (.int (nI i)), none, none]) ([]) (ν) := by
    intro d
    induction d with
    | zero =>
      intro i h ν hi h4 hk hinv hM hS
      refine V_iload F dX0_attackWorth_6 rfl ?_
      refine V_iconst F (v := nI 3) dX0_attackWorth_8 (by decide) ?_
      refine V_icmp_ge_N F (tgt := 82) dX0_attackWorth_9 (by decide) (by omega) (by omega) (fun hc => ?_) (fun hc => ?_)
      · refine fin i h ν h4 hk (fun j hj => (hinv j hj).trans ?_) hM hS
        unfold hld
        rw [List.all_eq_true]
        constructor
        · intro hb b hbm
          by_cases hag : agr T r a b = true
          · rw [hag]
            obtain ⟨s, hs, hsl⟩ := (mvs_iff hW hq b).mp hbm
            rw [hb b ⟨s, by omega, hsl⟩ hag]
            rfl
          · rw [Bool.not_eq_true] at hag
            rw [hag]
            rfl
        · intro hb b ⟨s, hs, hsl⟩ hag
          have h1 := hb b ((mvs_iff hW hq b).mpr ⟨s, by omega, hsl⟩)
          rw [hag] at h1
          simpa using h1
      · omega
    | succ d ih =>
      intro i h ν hi h4 hk hinv hM hS
      have hIν := hI.of_W hS hM
      refine V_iload F dX0_attackWorth_6 rfl ?_
      refine V_iconst F (v := nI 3) dX0_attackWorth_8 (by decide) ?_
      refine V_icmp_ge_N F (tgt := 82) dX0_attackWorth_9 (by decide) (by omega) (by omega) (fun hc => ?_) (fun hc => ?_)
      · omega
      · skip
        refine V_iload F dX0_attackWorth_12 rfl ?_
        refine V_iconst F (v := nI 4) dX0_attackWorth_14 (by decide) ?_
        refine V_icmp_ge_N F (tgt := 82) dX0_attackWorth_15 (by decide) (by omega) (by omega) (fun hc4 => ?_) (fun hc4 => ?_)
        · have hh4 : h = 4 := by omega
          refine fin i h ν h4 hk (fun j hj => ⟨fun q => by omega, fun hb => ?_⟩) hM hS
          refine (hinv j hj).mpr fun b ⟨s, hs, hsl⟩ hag => ?_
          unfold hld at hb
          have h1 := List.all_eq_true.mp hb b ((mvs_iff hW hq b).mpr ⟨s, by omega, hsl⟩)
          rw [hag] at h1
          simpa using h1
        · skip
          refine V_aload_n F dX0_attackWorth_18 rfl ?_
          refine V_getf F (q0 := 2) (j := 0) lk_X0_9 dX0_attackWorth_19 ig_X0 rfl rfl (by decide) rfl rfl ?_
          refine V_iload F dX0_attackWorth_22 rfl ?_
          refine V_iload F dX0_attackWorth_24 rfl ?_
          refine V_iload F dX0_attackWorth_26 rfl ?_
          refine V_callVNi F (q0 := 1) (c_actionIn hIν.1 hq (show i < 3 by omega) hl (by omega) h7q) mi_X2_actionIn mm_X2_actionIn nk_X0_41 dX0_attackWorth_28 (rmR (by omega)) rfl rfl (by decide) (Nat.le_of_ble_eq_true rfl) rfl rfl rfl ?_
          have next : ∀ (h' : Nat) (ν' : Mem) (x9 x10 : Option Value), h' ≤ 4 → (h' ≤ k ∨ h' = 4) → (∀ j, j ≤ k → (h' ≤ j ↔ ∀ b, (∃ s, s < i + 1 ∧ slA T q r s = some b) → agr T r a b = true → flw T rel j a nm b r = true)) → Memo T n ν' → sameW μ ν' →
              V (GS g) p₀ l e₀ (rmD (4 * k + 6)) s₀ m₀ (List.toArray [.ref (g.1 2), .int (nI rel), .int (nI a), .int (nI nm), .int (nI q), .int (nI (rc r)), .int (nI (k + 1))]) b₀ h₀ c₀ 11 0 0 (MQ b₀ (Qp (GS g) (WQ T n μ (shf (fun j => hld T rel j a nm q r)) (k + 1))) (List.toArray [.ref (g.1 2), .int (nI rel), .int (nI a), .int (nI nm), .int (nI q), .int (nI (rc r)), .int (nI (k + 1))]) s₀ 0 0 (gA (GS g))) 76 ([some (.ref (g.1 2)), some (.int (nI rel)), some (.int (nI a)), some (.int (nI nm)), some (.int (nI q)), some (.int (nI (rc r))), some (.int (nI (k + 1))), some (.int (nI h')), some (.int (nI i)), x9, x10]) ([]) (ν') := by
            intro h' ν' x9 x10 g4 gk ginv gM gS
            refine V_iinc F (lv' := [_, _, _, _, _, _, _, _, _, _, _]) dX0_attackWorth_76 rfl (by decide) rfl rfl ?_
            refine V_goto F (tgt := 6) dX0_attackWorth_79 (by decide) ?_
            rw [show nI i + Int32.ofInt 1 = nI (i + 1) from nI_1 i]
            refine V_msk [true, true, true, true, true, true, true, true, true, false, false] (lv' := [_, _, _, _, _, _, _, _, _, none, none]) (by cases x9 <;> cases x10 <;> rfl) ?_
            exact ih (i + 1) h' ν' (by omega) g4 gk ginv gM gS
          refine V_istore F (lv' := [_, _, _, _, _, _, _, _, _, _, _]) dX0_attackWorth_31 (by decide) rfl rfl ?_
          refine V_iload F dX0_attackWorth_33 rfl ?_
          refine V_bipush F (v := (-4)) dX0_attackWorth_35 (by decide) ?_
          cases hs : slA T q r i with
          | none =>
            refine V_icmp_eq_t F (tgt := 76) dX0_attackWorth_37 (by decide) (rfl) ?_
            refine next h ν _ _ h4 hk (fun j hj => (hinv j hj).trans ⟨fun hb b ⟨s, h1, h2⟩ => ?_, fun hb b ⟨s, h1, h2⟩ => hb b ⟨s, by omega, h2⟩⟩) hM hS
            by_cases hsi : s = i
            · subst hsi; rw [hs] at h2; cases h2
            · exact hb b ⟨s, by omega, h2⟩
          | some b =>
            have hbm := slA_mvs hW hq (show i < 3 by omega) hs
            obtain ⟨hbn, hb1, hb5, hb7, nb1, nb2⟩ := mv_ok hW hq hbm
            refine V_icmp_eq_f F (tgt := 76) dX0_attackWorth_37 (by decide) (fun q => by have := (ri_ne (by intro b' hb'; cases hb'; exact slA_lt hW (p := _) (by assumption) _ hs)).mp q; cases this) ?_
            refine V_aload_n F dX0_attackWorth_40 rfl ?_
            refine V_iload_n F dX0_attackWorth_41 rfl ?_
            refine V_iload F dX0_attackWorth_42 rfl ?_
            refine V_iload F dX0_attackWorth_44 rfl ?_
            refine V_callVi F (q0 := 2) (c_agree (a := a) (b := b) (r := r) hIν.1 ha hbn hl (by omega) ⟨by omega, by omega⟩ ⟨by omega, by omega⟩) mi_X0_agree mm_X0_agree lk_X0_72 dX0_attackWorth_46 (rmR (by omega)) rfl rfl (by decide) (Nat.le_of_ble_eq_true rfl) rfl rfl rfl ?_
            by_cases hag : agr T r a b = true
            · rw [if_pos hag]
              have hab : T 0 a = T 0 b := by
                unfold agr at hag
                simp only [Bool.and_eq_true, beq_iff_eq] at hag
                exact hag.1.1
              refine V_if_eq_f F (tgt := 76) dX0_attackWorth_49 (by decide) (by decide) ?_
              refine V_aload_n F dX0_attackWorth_52 rfl ?_
              refine V_iload_n F dX0_attackWorth_53 rfl ?_
              refine V_iload_n F dX0_attackWorth_54 rfl ?_
              refine V_iload_n F dX0_attackWorth_55 rfl ?_
              refine V_iload F dX0_attackWorth_56 rfl ?_
              refine V_iload F dX0_attackWorth_58 rfl ?_
              refine V_iload F dX0_attackWorth_60 rfl ?_
              refine V_callV F (q0 := 2) (c_answerWorth (k := k) (rel := rel) (a := a) (nm := nm) (b := b) (r := r) hC hIν hrel ha hbn ha1 hb1 hab hl hlen h7a (by omega) h5a (by omega) hnm) mi_X0_answerWorth mm_X0_answerWorth lk_X0_76 dX0_attackWorth_62 (rmR (by omega)) rfl rfl (by decide) (Nat.le_of_ble_eq_true rfl) rfl rfl rfl (fun r μ' h => ?_)
              obtain ⟨v, rfl, hv4, hSp, hM', hS'⟩ := h
              refine V_istore F (lv' := [_, _, _, _, _, _, _, _, _, _, _]) dX0_attackWorth_65 (by decide) rfl rfl ?_
              refine V_iload F dX0_attackWorth_67 rfl ?_
              refine V_iload F dX0_attackWorth_69 rfl ?_
              refine V_maxN F lk_X0_79 dX0_attackWorth_71 (rmM (by omega) (Nat.le_of_ble_eq_true rfl)) (by omega) (by omega) ?_
              refine V_istore F (lv' := [_, _, _, _, _, _, _, _, _, _, _]) dX0_attackWorth_74 (by decide) rfl rfl ?_
              refine next (max h v) _ _ _ (by omega) (by have := hSp.1; omega) (fun j hj => ?_) hM' (hS.trans hS')
              have e : max h v ≤ j ↔ h ≤ j ∧ v ≤ j := by omega
              rw [e, hinv j hj, hSp.2 j hj]
              constructor
              · rintro ⟨hb, hv⟩ b' ⟨s, h1, h2⟩ hag'
                by_cases hsi : s = i
                · subst hsi
                  rw [hs] at h2
                  cases h2
                  exact hv
                · exact hb b' ⟨s, by omega, h2⟩ hag'
              · intro hb
                exact ⟨fun b' ⟨s, h1, h2⟩ hag' => hb b' ⟨s, by omega, h2⟩ hag', hb b ⟨i, by omega, hs⟩ hag⟩
            · rw [if_neg hag]
              refine V_if_eq_t F (tgt := 76) dX0_attackWorth_49 (by decide) (by decide) ?_
              refine next h ν _ _ h4 hk (fun j hj => (hinv j hj).trans ⟨fun hb b' ⟨s, h1, h2⟩ => ?_, fun hb b' ⟨s, h1, h2⟩ => hb b' ⟨s, by omega, h2⟩⟩) hM hS
              by_cases hsi : s = i
              · subst hsi
                rw [hs] at h2
                cases h2
                exact fun hag' => absurd hag' hag
              · exact hb b' ⟨s, by omega, h2⟩
  refine V_iconst F (v := nI 0) dX0_attackWorth_0 (by decide) ?_
  refine V_istore F (lv' := [_, _, _, _, _, _, _, _, _, _, _]) dX0_attackWorth_1 (by decide) rfl rfl ?_
  refine V_iconst F (v := nI 0) dX0_attackWorth_3 (by decide) ?_
  refine V_istore F (lv' := [_, _, _, _, _, _, _, _, _, _, _]) dX0_attackWorth_4 (by decide) rfl rfl ?_
  exact loop 3 0 0 μ rfl (by omega) (Or.inl (by omega)) (fun j hj => ⟨fun _ b ⟨s, hs, _⟩ => absurd hs (Nat.not_lt_zero s), fun _ => Nat.zero_le _⟩) hI.2 (sameW.rfl' μ)
theorem c_sideWorth {k rel p q : Nat} {r : List Nat} (hC : WC g l T n k) (hI : XInv T n μ) (hpos : Pos T n rel p q r (k + 1)) : Ct (GS g) l (4 * k + 7) yX0_sideWorth cX0_sideWorth 12 (some .int) [.ref (g.1 2), .int (nI rel), .int (nI p), .int (nI q), .int (nI (rc r)), .int (nI (k + 1))] μ (WQ T n μ (shf (fun j => sid T rel j p q r)) (k + 1)) := by
  have hn := hI.1.n24
  have hW := hI.1.1
  obtain ⟨hp, hq, hrel, hl, hlen, h7p, h7q, h5p, h5q⟩ := hpos
  refine Ct.of (own := RX0) mi_X0_sideWorth rfl [some (.ref (g.1 2)), some (.int (nI rel)), some (.int (nI p)), some (.int (nI q)), some (.int (nI (rc r))), some (.int (nI (k + 1))), none, none, none, none, none, none] (Nat.le_of_ble_eq_true rfl) rfl (fun p₀ e₀ s₀ m₀ b₀ h₀ c₀ F => ?_)
  have fin : ∀ (i w : Nat) (ν : Mem), 1 ≤ w → w ≤ 4 → (w ≤ k + 1 ∨ w = 4) → (∀ j, j ≤ k → (w ≤ j + 1 ↔ sid T rel j p q r = true)) → Memo T n ν → sameW μ ν →
      V (GS g) p₀ l e₀ (rmD (4 * k + 7)) s₀ m₀ (List.toArray [.ref (g.1 2), .int (nI rel), .int (nI p), .int (nI q), .int (nI (rc r)), .int (nI (k + 1))]) b₀ h₀ c₀ 12 0 0 (MQ b₀ (Qp (GS g) (WQ T n μ (shf (fun j => sid T rel j p q r)) (k + 1))) (List.toArray [.ref (g.1 2), .int (nI rel), .int (nI p), .int (nI q), .int (nI (rc r)), .int (nI (k + 1))]) s₀ 0 0 (gA (GS g))) 103 ([some (.ref (g.1 2)), some (.int (nI rel)), some (.int (nI p)), some (.int (nI q)), some (.int (nI (rc r))), some (.int (nI (k + 1))), some (.int (nI w)), some (.int (nI i)), none, none, none, none]) ([]) (ν) := by
    intro i w ν h1 h4 hk hinv hM hS
    refine V_iload F dX0_sideWorth_103 rfl ?_
    refine V_iret F dX0_sideWorth_105 ⟨w, rfl, h4, ⟨hk, fun j hj => ?_⟩, hM, hS⟩
    cases j with
    | zero => exact ⟨fun q => by omega, fun q => by cases q⟩
    | succ j => exact hinv j (by omega)
  have loop : ∀ (d i w : Nat) (ν : Mem), i + d = 3 → 1 ≤ w → w ≤ 4 → (w ≤ k + 1 ∨ w = 4) → (∀ j, j ≤ k → (w ≤ j + 1 ↔ ∃ a, (∃ s, s < i ∧ slA T p r s = some a) ∧ ∃ v, v ∈ nms T rel a r ∧ hld T rel j a v q r = true)) → Memo T n ν → sameW μ ν →
      V (GS g) p₀ l e₀ (rmD (4 * k + 7)) s₀ m₀ (List.toArray [.ref (g.1 2), .int (nI rel), .int (nI p), .int (nI q), .int (nI (rc r)), .int (nI (k + 1))]) b₀ h₀ c₀ 12 0 0 (MQ b₀ (Qp (GS g) (WQ T n μ (shf (fun j => sid T rel j p q r)) (k + 1))) (List.toArray [.ref (g.1 2), .int (nI rel), .int (nI p), .int (nI q), .int (nI (rc r)), .int (nI (k + 1))]) s₀ 0 0 (gA (GS g))) 6 ([some (.ref (g.1 2)), some (.int (nI rel)), some (.int (nI p)), some (.int (nI q)), some (.int (nI (rc r))), some (.int (nI (k + 1))), some (.int (nI w)), some (.int (nI i)), none, none, none, none]) ([]) (ν) := by
    intro d
    induction d with
    | zero =>
      intro i w ν hi h1 h4 hk hinv hM hS
      refine V_iload F dX0_sideWorth_6 rfl ?_
      refine V_iconst F (v := nI 3) dX0_sideWorth_8 (by decide) ?_
      refine V_icmp_ge_N F (tgt := 103) dX0_sideWorth_9 (by decide) (by omega) (by omega) (fun hc => ?_) (fun hc => ?_)
      · refine fin i w ν h1 h4 hk (fun j hj => (hinv j hj).trans ?_) hM hS
        unfold sid
        rw [List.any_eq_true]
        constructor
        · rintro ⟨a, ⟨s, hs, hsl⟩, v, hv, hh⟩
          exact ⟨a, (mvs_iff hW hp a).mpr ⟨s, by omega, hsl⟩, List.any_eq_true.mpr ⟨v, hv, hh⟩⟩
        · rintro ⟨a, ham, hh⟩
          obtain ⟨v, hv, hh⟩ := List.any_eq_true.mp hh
          obtain ⟨s, hs, hsl⟩ := (mvs_iff hW hp a).mp ham
          exact ⟨a, ⟨s, by omega, hsl⟩, v, hv, hh⟩
      · omega
    | succ d ih =>
      intro i w ν hi h1 h4 hk hinv hM hS
      have hIν := hI.of_W hS hM
      refine V_iload F dX0_sideWorth_6 rfl ?_
      refine V_iconst F (v := nI 3) dX0_sideWorth_8 (by decide) ?_
      refine V_icmp_ge_N F (tgt := 103) dX0_sideWorth_9 (by decide) (by omega) (by omega) (fun hc => ?_) (fun hc => ?_)
      · omega
      · skip
        refine V_iload F dX0_sideWorth_12 rfl ?_
        refine V_iconst F (v := nI 1) dX0_sideWorth_14 (by decide) ?_
        refine V_icmp_le_N F (tgt := 103) dX0_sideWorth_15 (by decide) (by omega) (by omega) (fun hc4 => ?_) (fun hc4 => ?_)
        · have hw1 : w = 1 := by omega
          refine fin i w ν h1 h4 hk (fun j hj => ⟨fun _ => ?_, fun _ => by omega⟩) hM hS
          obtain ⟨a, ⟨s, hs, hsl⟩, v, hv, hh⟩ := (hinv 0 (by omega)).mp (by omega)
          refine sid_le (Nat.zero_le j) ?_
          unfold sid
          exact List.any_eq_true.mpr ⟨a, (mvs_iff hW hp a).mpr ⟨s, by omega, hsl⟩, List.any_eq_true.mpr ⟨v, hv, hh⟩⟩
        · skip
          refine V_aload_n F dX0_sideWorth_18 rfl ?_
          refine V_getf F (q0 := 2) (j := 0) lk_X0_9 dX0_sideWorth_19 ig_X0 rfl rfl (by decide) rfl rfl ?_
          refine V_iload_n F dX0_sideWorth_22 rfl ?_
          refine V_iload F dX0_sideWorth_23 rfl ?_
          refine V_iload F dX0_sideWorth_25 rfl ?_
          refine V_callVNi F (q0 := 1) (c_actionIn hIν.1 hp (show i < 3 by omega) hl (by omega) h7p) mi_X2_actionIn mm_X2_actionIn nk_X0_41 dX0_sideWorth_27 (rmR (by omega)) rfl rfl (by decide) (Nat.le_of_ble_eq_true rfl) rfl rfl rfl ?_
          have next : ∀ (w' : Nat) (ν' : Mem) (x8 x9 x10 x11 : Option Value), 1 ≤ w' → w' ≤ 4 → (w' ≤ k + 1 ∨ w' = 4) → (∀ j, j ≤ k → (w' ≤ j + 1 ↔ ∃ a, (∃ s, s < i + 1 ∧ slA T p r s = some a) ∧ ∃ v, v ∈ nms T rel a r ∧ hld T rel j a v q r = true)) → Memo T n ν' → sameW μ ν' →
              V (GS g) p₀ l e₀ (rmD (4 * k + 7)) s₀ m₀ (List.toArray [.ref (g.1 2), .int (nI rel), .int (nI p), .int (nI q), .int (nI (rc r)), .int (nI (k + 1))]) b₀ h₀ c₀ 12 0 0 (MQ b₀ (Qp (GS g) (WQ T n μ (shf (fun j => sid T rel j p q r)) (k + 1))) (List.toArray [.ref (g.1 2), .int (nI rel), .int (nI p), .int (nI q), .int (nI (rc r)), .int (nI (k + 1))]) s₀ 0 0 (gA (GS g))) 97 ([some (.ref (g.1 2)), some (.int (nI rel)), some (.int (nI p)), some (.int (nI q)), some (.int (nI (rc r))), some (.int (nI (k + 1))), some (.int (nI w')), some (.int (nI i)), x8, x9, x10, x11]) ([]) (ν') := by
            intro w' ν' x8 x9 x10 x11 g1 g4 gk ginv gM gS
            refine V_iinc F (lv' := [_, _, _, _, _, _, _, _, _, _, _, _]) dX0_sideWorth_97 rfl (by decide) rfl rfl ?_
            refine V_goto F (tgt := 6) dX0_sideWorth_100 (by decide) ?_
            rw [show nI i + Int32.ofInt 1 = nI (i + 1) from nI_1 i]
            refine V_msk [true, true, true, true, true, true, true, true, false, false, false, false] (lv' := [_, _, _, _, _, _, _, _, none, none, none, none]) (by cases x8 <;> cases x9 <;> cases x10 <;> cases x11 <;> rfl) ?_
            exact ih (i + 1) w' ν' (by omega) g1 g4 gk ginv gM gS
          refine V_istore F (lv' := [_, _, _, _, _, _, _, _, _, _, _, _]) dX0_sideWorth_30 (by decide) rfl rfl ?_
          refine V_iload F dX0_sideWorth_32 rfl ?_
          refine V_bipush F (v := (-4)) dX0_sideWorth_34 (by decide) ?_
          cases hs : slA T p r i with
          | none =>
            refine V_icmp_eq_t F (tgt := 97) dX0_sideWorth_36 (by decide) (rfl) ?_
            refine next w ν _ _ _ _ h1 h4 hk (fun j hj => (hinv j hj).trans ⟨fun ⟨a, ⟨s, c1, c2⟩, c3⟩ => ⟨a, ⟨s, by omega, c2⟩, c3⟩, fun ⟨a, ⟨s, c1, c2⟩, c3⟩ => ⟨a, ⟨s, ?_, c2⟩, c3⟩⟩) hM hS
            by_cases hsi : s = i
            · subst hsi; rw [hs] at c2; cases c2
            · omega
          | some a =>
            have ham := slA_mvs hW hp (show i < 3 by omega) hs
            obtain ⟨han, ha1, ha5, ha7, na1, na2⟩ := mv_ok hW hp ham
            have hla := laC_le (T := T) hl (show r.length ≤ 3 by omega) rel a
            refine V_icmp_eq_f F (tgt := 97) dX0_sideWorth_36 (by decide) (fun q => by have := (ri_ne (by intro b' hb'; cases hb'; exact slA_lt hW hp _ hs)).mp q; cases this) ?_
            refine V_aload_n F dX0_sideWorth_39 rfl ?_
            refine V_iload_n F dX0_sideWorth_40 rfl ?_
            refine V_iload F dX0_sideWorth_41 rfl ?_
            refine V_iload F dX0_sideWorth_43 rfl ?_
            refine V_callVi F (q0 := 2) (c_lastChoice (a := a) hIν.1 han hrel hl (by omega)) mi_X0_lastChoice mm_X0_lastChoice lk_X0_46 dX0_sideWorth_45 (rmR (by omega)) rfl rfl (by decide) (Nat.le_of_ble_eq_true rfl) rfl rfl rfl ?_
            refine V_istore F (lv' := [_, _, _, _, _, _, _, _, _, _, _, _]) dX0_sideWorth_48 (by decide) rfl rfl ?_
            refine V_aload_n F dX0_sideWorth_50 rfl ?_
            refine V_iload_n F dX0_sideWorth_51 rfl ?_
            refine V_iload F dX0_sideWorth_52 rfl ?_
            refine V_callVi F (q0 := 2) (c_firstChoice (a := a) hIν.1 han hrel) mi_X0_firstChoice mm_X0_firstChoice lk_X0_49 dX0_sideWorth_54 (rmR (by omega)) rfl rfl (by decide) (Nat.le_of_ble_eq_true rfl) rfl rfl rfl ?_
            have inner : ∀ (e nm w' : Nat) (ν' : Mem) (x11 : Option Value), fiC T rel a ≤ nm → nm + e = laC T rel a r + 1 → 1 ≤ w' → w' ≤ 4 → (w' ≤ k + 1 ∨ w' = 4) → (∀ j, j ≤ k → (w' ≤ j + 1 ↔ (∃ a, (∃ s, s < i ∧ slA T p r s = some a) ∧ ∃ v, v ∈ nms T rel a r ∧ hld T rel j a v q r = true) ∨ ∃ v, fiC T rel a ≤ v ∧ v < nm ∧ hld T rel j a v q r = true)) → Memo T n ν' → sameW μ ν' →
                V (GS g) p₀ l e₀ (rmD (4 * k + 7)) s₀ m₀ (List.toArray [.ref (g.1 2), .int (nI rel), .int (nI p), .int (nI q), .int (nI (rc r)), .int (nI (k + 1))]) b₀ h₀ c₀ 12 0 0 (MQ b₀ (Qp (GS g) (WQ T n μ (shf (fun j => sid T rel j p q r)) (k + 1))) (List.toArray [.ref (g.1 2), .int (nI rel), .int (nI p), .int (nI q), .int (nI (rc r)), .int (nI (k + 1))]) s₀ 0 0 (gA (GS g))) 59 ([some (.ref (g.1 2)), some (.int (nI rel)), some (.int (nI p)), some (.int (nI q)), some (.int (nI (rc r))), some (.int (nI (k + 1))), some (.int (nI w')), some (.int (nI i)), some (.int (nI a)), some (.int (nI (laC T rel a r))), some (.int (nI nm)), x11]) ([]) (ν') := by
              intro e
              induction e with
              | zero =>
                intro nm w' ν' x11 hnm0 hnm1 g1 g4 gk ginv gM gS
                refine V_iload F dX0_sideWorth_59 rfl ?_
                refine V_iload F dX0_sideWorth_61 rfl ?_
                refine V_icmp_gt_N F (tgt := 97) dX0_sideWorth_63 (by decide) (by omega) (by omega) (fun hd => ?_) (fun hd => ?_)
                · refine next w' ν' _ _ _ _ g1 g4 gk (fun j hj => (ginv j hj).trans ?_) gM gS
                  constructor
                  · rintro (⟨a', ⟨s, c1, c2⟩, c3⟩ | ⟨v, c1, c2, c3⟩)
                    · exact ⟨a', ⟨s, by omega, c2⟩, c3⟩
                    · refine ⟨a, ⟨i, by omega, hs⟩, v, ?_, c3⟩
                      rw [nms_eq]
                      exact List.mem_map.mpr ⟨v - fiC T rel a, List.mem_range.mpr (by omega), by omega⟩
                  · rintro ⟨a', ⟨s, c1, c2⟩, v, c3, c4⟩
                    by_cases hsi : s = i
                    · subst hsi
                      rw [hs] at c2
                      cases c2
                      rw [nms_eq] at c3
                      obtain ⟨z, hz, rfl⟩ := List.mem_map.mp c3
                      have := List.mem_range.mp hz
                      exact Or.inr ⟨_, by omega, by omega, c4⟩
                    · exact Or.inl ⟨a', ⟨s, by omega, c2⟩, v, c3, c4⟩
                · omega
              | succ e ihe =>
                intro nm w' ν' x11 hnm0 hnm1 g1 g4 gk ginv gM gS
                have hIν' := hI.of_W gS gM
                have hmem : nm ∈ nms T rel a r := by
                  rw [nms_eq]
                  exact List.mem_map.mpr ⟨nm - fiC T rel a, List.mem_range.mpr (by omega), by omega⟩
                refine V_iload F dX0_sideWorth_59 rfl ?_
                refine V_iload F dX0_sideWorth_61 rfl ?_
                refine V_icmp_gt_N F (tgt := 97) dX0_sideWorth_63 (by decide) (by omega) (by omega) (fun hd => ?_) (fun hd => ?_)
                · omega
                · skip
                  refine V_aload_n F dX0_sideWorth_66 rfl ?_
                  refine V_iload_n F dX0_sideWorth_67 rfl ?_
                  refine V_iload F dX0_sideWorth_68 rfl ?_
                  refine V_iload F dX0_sideWorth_70 rfl ?_
                  refine V_iload_n F dX0_sideWorth_72 rfl ?_
                  refine V_iload F dX0_sideWorth_73 rfl ?_
                  refine V_iload F dX0_sideWorth_75 rfl ?_
                  refine V_callV F (q0 := 2) (c_attackWorth (k := k) (rel := rel) (a := a) (nm := nm) (q := q) (r := r) hC hIν' hrel han hq ha1 hl hlen (by omega) h7q (by omega) h5q hmem) mi_X0_attackWorth mm_X0_attackWorth lk_X0_53 dX0_sideWorth_77 (rmR (by omega)) rfl rfl (by decide) (Nat.le_of_ble_eq_true rfl) rfl rfl rfl (fun r μ' h => ?_)
                  obtain ⟨v, rfl, hv4, hSp, hM', hS'⟩ := h
                  have hv1 : 1 ≤ v := by
                    have h00 := hSp.2 0 (by omega)
                    rcases Nat.eq_zero_or_pos v with z | z
                    · exact absurd (h00.mp (by omega)) (by simp [shf])
                    · exact z
                  refine V_istore F (lv' := [_, _, _, _, _, _, _, _, _, _, _, _]) dX0_sideWorth_80 (by decide) rfl rfl ?_
                  refine V_iload F dX0_sideWorth_82 rfl ?_
                  refine V_iload F dX0_sideWorth_84 rfl ?_
                  refine V_minN F lk_X0_67 dX0_sideWorth_86 (rmM (by omega) (Nat.le_of_ble_eq_true rfl)) (by omega) (by omega) ?_
                  refine V_istore F (lv' := [_, _, _, _, _, _, _, _, _, _, _, _]) dX0_sideWorth_89 (by decide) rfl rfl ?_
                  refine V_iinc F (lv' := [_, _, _, _, _, _, _, _, _, _, _, _]) dX0_sideWorth_91 rfl (by decide) rfl rfl ?_
                  refine V_goto F (tgt := 59) dX0_sideWorth_94 (by decide) ?_
                  rw [show nI nm + Int32.ofInt 1 = nI (nm + 1) from nI_1 nm]
                  refine ihe (nm + 1) (min w' v) _ _ (by omega) (by omega) (by omega) (by omega) (by have := hSp.1; omega) (fun j hj => ?_) hM' (gS.trans hS')
                  have e1 : min w' v ≤ j + 1 ↔ w' ≤ j + 1 ∨ v ≤ j + 1 := by omega
                  rw [e1, ginv j hj, hSp.2 (j + 1) (by omega)]
                  show (_ ∨ _) ∨ hld T rel j a nm q r = true ↔ _
                  constructor
                  · rintro ((c | ⟨v', c1, c2, c3⟩) | c)
                    · exact Or.inl c
                    · exact Or.inr ⟨v', c1, by omega, c3⟩
                    · exact Or.inr ⟨nm, hnm0, by omega, c⟩
                  · rintro (c | ⟨v', c1, c2, c3⟩)
                    · exact Or.inl (Or.inl c)
                    · by_cases hvn : v' = nm
                      · subst hvn; exact Or.inr c3
                      · exact Or.inl (Or.inr ⟨v', c1, by omega, c3⟩)
            refine V_istore F (lv' := [_, _, _, _, _, _, _, _, _, _, _, _]) dX0_sideWorth_57 (by decide) rfl rfl ?_
            refine inner (laC T rel a r + 1 - fiC T rel a) (fiC T rel a) w ν _ (Nat.le_refl _) (by omega) h1 h4 hk (fun j hj => (hinv j hj).trans ⟨Or.inl, fun c => c.elim id (fun ⟨v, c1, c2, _⟩ => by omega)⟩) hM hS
  refine V_iconst F (v := nI 4) dX0_sideWorth_0 (by decide) ?_
  refine V_istore F (lv' := [_, _, _, _, _, _, _, _, _, _, _, _]) dX0_sideWorth_1 (by decide) rfl rfl ?_
  refine V_iconst F (v := nI 0) dX0_sideWorth_3 (by decide) ?_
  refine V_istore F (lv' := [_, _, _, _, _, _, _, _, _, _, _, _]) dX0_sideWorth_4 (by decide) rfl rfl ?_
  exact loop 3 0 4 μ rfl (by omega) (by omega) (Or.inr rfl) (fun j hj => ⟨fun q => by omega, fun ⟨a, ⟨s, hs, _⟩, _⟩ => absurd hs (Nat.not_lt_zero s)⟩) hI.2 (sameW.rfl' μ)
end GAMEC
end
section
section GAMED0
variable {T : Tb} {n : Nat}
def kn (μ : Mem) (rel p q : Nat) : List Nat → Int32
  | [] => μ.1 14 (plc (max p q) (min p q) rel 0)
  | [v] => μ.1 14 (plc (max p q) (min p q) rel (v + 1))
  | _ => nI 0
def wrK (μ : Mem) (rel p q : Nat) (x : Int32) : List Nat → Mem
  | [] => wr μ 14 (plc (max p q) (min p q) rel 0) x
  | [v] => wr μ 14 (plc (max p q) (min p q) rel (v + 1)) x
  | _ => μ
theorem win_mm (rel k p q : Nat) (r : List Nat) : win T rel k (max p q) (min p q) r = win T rel k p q r := by
  rcases Nat.le_total p q with h | h
  · rw [Nat.max_eq_right h, Nat.min_eq_left h, win_symm]
  · rw [Nat.max_eq_left h, Nat.min_eq_right h]
theorem kn_view {μ : Mem} (hM : Memo T n μ) {rel p q : Nat} {view : Nat} (hp : p < 24) (hq : q < 24) (hne : p ≠ q) (hrel : rel < 3) (hv : view < 5) : μ.1 14 (plc (max p q) (min p q) rel view) = nI 0 ∨ ∃ w, μ.1 14 (plc (max p q) (min p q) rel view) = nI w ∧ 1 ≤ w ∧ w ≤ 4 ∧ Sp w (fun j => win T rel j p q (vls view)) 3 := by
  rcases hM (max p q) (min p q) rel view (by omega) (by omega) hrel hv with h | ⟨-, -, -, w, h1, h2, h3⟩
  · exact Or.inl h
  · refine Or.inr ⟨w, h1, ?_, h2, h3.1, fun j hj => by rw [h3.2 j hj]; show win T rel j (max p q) (min p q) (vls view) = true ↔ win T rel j p q (vls view) = true; rw [win_mm]⟩
    rcases Nat.eq_zero_or_pos w with z | z
    · have := (h3.2 0 (by omega)).mp (by omega)
      cases this
    · exact z
theorem kn_ok {μ : Mem} (hM : Memo T n μ) {rel p q : Nat} {r : List Nat} (hp : p < 24) (hq : q < 24) (hne : p ≠ q) (hrel : rel < 3) (hl : lok r) : kn μ rel p q r = nI 0 ∨ ∃ w, kn μ rel p q r = nI w ∧ 1 ≤ w ∧ w ≤ 4 ∧ Sp w (fun j => win T rel j p q r) 3 := by
  match r, hl with
  | [], _ => exact kn_view hM (view := 0) hp hq hne hrel (by omega)
  | [v], hl =>
    have hv := hl.1
    simp only [fr] at hv
    exact kn_view hM (view := v + 1) hp hq hne hrel (by omega)
  | _ :: _ :: _, _ => exact Or.inl rfl
theorem wr_memo {μ : Mem} (hM : Memo T n μ) {rel p q view w : Nat} (hn : n ≤ 24) (hp : p < n) (hq : q < n) (hne : p ≠ q) (hrel : rel < 3) (hv : view < 5) (h7p : T 7 p ≤ (vls view).length) (h7q : T 7 q ≤ (vls view).length) (hw4 : w ≤ 4) (hS : Sp w (fun j => win T rel j p q (vls view)) 3) : Memo T n (wr μ 14 (plc (max p q) (min p q) rel view) (nI w)) := by
  intro hi lo rel' view' h1 h2 h3 h4
  by_cases he : plc hi lo rel' view' = plc (max p q) (min p q) rel view
  · obtain ⟨e1, e2, e3, e4⟩ := plc_inj h1 h2 h3 h4 (show max p q < 24 by omega) (show min p q < max p q by omega) hrel hv he
    subst e1; subst e2; subst e3; subst e4
    rw [wr_eq]
    refine Or.inr ⟨by omega, ?_, ?_, w, rfl, hw4, hS.1, fun j hj => by rw [hS.2 j hj]; show _ ↔ win T rel' j (max p q) (min p q) _ = true; rw [win_mm]⟩
    · rcases Nat.le_total p q with h | h
      · rw [Nat.max_eq_right h]; exact h7q
      · rw [Nat.max_eq_left h]; exact h7p
    · rcases Nat.le_total p q with h | h
      · rw [Nat.min_eq_left h]; exact h7p
      · rw [Nat.min_eq_right h]; exact h7q
  · rw [wr_ne (fun q => he q.2)]
    exact hM hi lo rel' view' h1 h2 h3 h4
theorem wrK_ok {μ : Mem} (hM : Memo T n μ) {rel p q w : Nat} {r : List Nat} (hn : n ≤ 24) (hp : p < n) (hq : q < n) (hne : p ≠ q) (hrel : rel < 3) (hl : lok r) (h7p : T 7 p ≤ r.length) (h7q : T 7 q ≤ r.length) (hw4 : w ≤ 4) (hS : Sp w (fun j => win T rel j p q r) 3) : Memo T n (wrK μ rel p q (nI w) r) ∧ sameW μ (wrK μ rel p q (nI w) r) := by
  have hs : ∀ i x, sameW μ (wr μ 14 i x) := fun i x => ⟨fun c hc => by funext j; rw [wr_ne (fun q => hc q.1)], rfl⟩
  match r, hl with
  | [], _ => exact ⟨wr_memo hM (view := 0) hn hp hq hne hrel (by omega) h7p h7q hw4 hS, hs _ _⟩
  | [v], hl =>
    have hv := hl.1
    simp only [fr] at hv
    exact ⟨wr_memo hM (view := v + 1) hn hp hq hne hrel (by omega) h7p h7q hw4 hS, hs _ _⟩
  | _ :: _ :: _, _ => exact ⟨hM, sameW.rfl' μ⟩
end GAMED0
section GAMED
variable {g : Gm} {l : Launch} {μ : Mem} {T : Tb} {n : Nat}
theorem c_at_w {rel p q : Nat} {r : List Nat} (hp : p < 24) (hq : q < 24) (hne : p ≠ q) (hrel : rel < 3) (hl : lok r) : Ct (GS g) l 0 yX3_at cX3_at 2 (some .int) [.ref (g.1 14), .int (plI rel p q r)] μ (Is (.int (kn μ rel p q r)) μ) := by
  match r, hl with
  | [], _ => exact c_at (q := 14) rfl (plc_in (show max p q < 24 by omega) (show min p q < max p q by omega) hrel (by omega)).2.2.1 rfl
  | [v], hl =>
    have hv := hl.1
    simp only [fr] at hv
    exact c_at (q := 14) rfl (plc_in (show max p q < 24 by omega) (show min p q < max p q by omega) hrel (by omega)).2.2.1 rfl
  | _ :: _ :: _, _ => exact c_at_neg
theorem c_put_w {rel p q : Nat} {x : Int32} {r : List Nat} (hp : p < 24) (hq : q < 24) (hne : p ≠ q) (hrel : rel < 3) (hl : lok r) : Ct (GS g) l 0 yX3_put cX3_put 3 none [.ref (g.1 14), .int (plI rel p q r), .int x] μ (IsN (wrK μ rel p q x r)) := by
  match r, hl with
  | [], _ => exact c_put (q := 14) rfl (plc_in (show max p q < 24 by omega) (show min p q < max p q by omega) hrel (by omega)).2.2.1
  | [v], hl =>
    have hv := hl.1
    simp only [fr] at hv
    exact c_put (q := 14) rfl (plc_in (show max p q < 24 by omega) (show min p q < max p q by omega) hrel (by omega)).2.2.1
  | _ :: _ :: _, _ => exact c_put_neg
theorem c_worth0 {rel p q : Nat} {r : List Nat} (hI : XInv T n μ) (hpos : Pos T n rel p q r 0) : Ct (GS g) l (4 * 0 + 4) yX0_worth cX0_worth 11 (some .int) [.ref (g.1 2), .int (nI rel), .int (nI p), .int (nI q), .int (nI (rc r)), .int (nI 0)] μ (WQ T n μ (fun j => win T rel j p q r) 0) := by
  refine Ct.of (own := RX0) mi_X0_worth rfl [some (.ref (g.1 2)), some (.int (nI rel)), some (.int (nI p)), some (.int (nI q)), some (.int (nI (rc r))), some (.int (nI 0)), none, none, none, none, none] (Nat.le_of_ble_eq_true rfl) rfl (fun p₀ e₀ s₀ m₀ b₀ h₀ c₀ F => ?_)
  refine V_iload F dX0_worth_0 rfl ?_
  refine V_if_le_t F (tgt := 10) dX0_worth_2 (by decide) (by decide) ?_
  refine V_iconst F (v := nI 4) dX0_worth_10 (by decide) ?_
  refine V_iret F dX0_worth_11 ⟨4, rfl, by omega, ⟨Or.inr rfl, fun j hj => ⟨fun q => by omega, fun q => ?_⟩⟩, hI.2, sameW.rfl' μ⟩
  rw [show j = 0 by omega] at q
  cases q
theorem c_worthS {k rel p q : Nat} {r : List Nat} (hC : WC g l T n k) (hI : XInv T n μ) (hpos : Pos T n rel p q r (k + 1)) : Ct (GS g) l (4 * (k + 1) + 4) yX0_worth cX0_worth 11 (some .int) [.ref (g.1 2), .int (nI rel), .int (nI p), .int (nI q), .int (nI (rc r)), .int (nI (k + 1))] μ (WQ T n μ (fun j => win T rel j p q r) (k + 1)) := by
  have hn := hI.1.n24
  have hW := hI.1.1
  obtain ⟨hp, hq, hrel, hl, hlen, h7p, h7q, h5p, h5q⟩ := id hpos
  refine Ct.of (own := RX0) mi_X0_worth rfl [some (.ref (g.1 2)), some (.int (nI rel)), some (.int (nI p)), some (.int (nI q)), some (.int (nI (rc r))), some (.int (nI (k + 1))), none, none, none, none, none] (Nat.le_of_ble_eq_true rfl) rfl (fun p₀ e₀ s₀ m₀ b₀ h₀ c₀ F => ?_)
  refine V_iload F dX0_worth_0 rfl ?_
  refine V_if_le_f F (tgt := 10) dX0_worth_2 (by decide) (fun z => by rw [← nI_0] at z; have := (nI_leI (by omega) (by omega)).mp z; omega) ?_
  refine V_iload_n F dX0_worth_5 rfl ?_
  refine V_iload_n F dX0_worth_6 rfl ?_
  refine V_icmp_ne_N F (tgt := 12) dX0_worth_7 (by decide) (by omega) (by omega) (fun hne => ?_) (fun hne => ?_)
  · skip
    refine V_iload_n F dX0_worth_12 rfl ?_
    refine V_iload_n F dX0_worth_13 rfl ?_
    refine V_iload_n F dX0_worth_14 rfl ?_
    refine V_iload F dX0_worth_15 rfl ?_
    refine V_callSi F (c_placeOf hl (by omega) hrel (show p < 24 by omega) (show q < 24 by omega)) mi_X0_placeOf ms_X0_placeOf lk_X0_57 dX0_worth_17 (rmR (by omega)) rfl rfl (by decide) (Nat.le_of_ble_eq_true rfl) ?_
    refine V_istore F (lv' := [_, _, _, _, _, _, _, _, _, _, _]) dX0_worth_20 (by decide) rfl rfl ?_
    refine V_aload_n F dX0_worth_22 rfl ?_
    refine V_getf F (q0 := 2) (j := 1) lk_X0_15 dX0_worth_23 ig_X0 rfl rfl (by decide) rfl rfl ?_
    refine V_iload F dX0_worth_26 rfl ?_
    refine V_callSNi F (c_at_w (show p < 24 by omega) (show q < 24 by omega) hne hrel hl) mi_X3_at ms_X3_at nk_X0_60 dX0_worth_28 (rmR (by omega)) rfl rfl (by decide) (Nat.le_of_ble_eq_true rfl) ?_
    refine V_istore F (lv' := [_, _, _, _, _, _, _, _, _, _, _]) dX0_worth_31 (by decide) rfl rfl ?_
    refine V_iload F dX0_worth_33 rfl ?_
    have hstop : ∀ j, k + 1 ≤ j → j ≤ 3 → win T rel j p q r = win T rel (k + 1) p q r := fun j h1 _ => win_stop hW rel hp hq h5p h5q h1
    rcases kn_ok hI.2 (r := r) (show p < 24 by omega) (show q < 24 by omega) hne hrel hl with h0 | ⟨w, h0, h1, h4, hS⟩
    · rw [h0]
      refine V_if_eq_t F (tgt := 41) dX0_worth_35 (by decide) (nI_0) ?_
      refine V_aload_n F dX0_worth_41 rfl ?_
      refine V_iload_n F dX0_worth_42 rfl ?_
      refine V_iload_n F dX0_worth_43 rfl ?_
      refine V_iload_n F dX0_worth_44 rfl ?_
      refine V_iload F dX0_worth_45 rfl ?_
      refine V_iload F dX0_worth_47 rfl ?_
      refine V_callV F (q0 := 2) (c_sideWorth hC hI hpos) mi_X0_sideWorth mm_X0_sideWorth lk_X0_64 dX0_worth_49 (rmR (by omega)) rfl rfl (by decide) (Nat.le_of_ble_eq_true rfl) rfl rfl rfl (fun r μ' h => ?_)
      obtain ⟨v1, rfl, hv1, hS1, hM1, hW1⟩ := h
      refine V_istore F (lv' := [_, _, _, _, _, _, _, _, _, _, _]) dX0_worth_52 (by decide) rfl rfl ?_
      refine V_aload_n F dX0_worth_54 rfl ?_
      refine V_iload_n F dX0_worth_55 rfl ?_
      refine V_iload_n F dX0_worth_56 rfl ?_
      refine V_iload_n F dX0_worth_57 rfl ?_
      refine V_iload F dX0_worth_58 rfl ?_
      refine V_iload F dX0_worth_60 rfl ?_
      refine V_callV F (q0 := 2) (c_sideWorth hC (hI.of_W hW1 hM1) (⟨hq, hp, hrel, hl, hlen, h7q, h7p, h5q, h5p⟩ : Pos T n rel q p r (k + 1))) mi_X0_sideWorth mm_X0_sideWorth lk_X0_64 dX0_worth_62 (rmR (by omega)) rfl rfl (by decide) (Nat.le_of_ble_eq_true rfl) rfl rfl rfl (fun r μ' h => ?_)
      obtain ⟨v2, rfl, hv2, hS2, hM2, hW2⟩ := h
      refine V_istore F (lv' := [_, _, _, _, _, _, _, _, _, _, _]) dX0_worth_65 (by decide) rfl rfl ?_
      refine V_iload F dX0_worth_67 rfl ?_
      refine V_iload F dX0_worth_69 rfl ?_
      refine V_minN F lk_X0_67 dX0_worth_71 (rmM (by omega) (Nat.le_of_ble_eq_true rfl)) (by omega) (by omega) ?_
      have hSm : Sp (min v1 v2) (fun j => win T rel j p q r) (k + 1) := by
        refine ⟨by have := hS1.1; have := hS2.1; omega, fun j hj => ?_⟩
        have e : min v1 v2 ≤ j ↔ v1 ≤ j ∨ v2 ≤ j := by omega
        rw [e, hS1.2 j hj, hS2.2 j hj]
        cases j with
        | zero => exact ⟨fun z => z.elim (fun z => by cases z) (fun z => by cases z), fun z => by cases z⟩
        | succ j =>
          show _ ↔ win T rel (j + 1) p q r = true
          rw [win_eq, Bool.or_eq_true]
          exact Iff.rfl
      have hS3 := hSm.ext (by omega) hstop
      obtain ⟨hM3, hW3⟩ := wrK_ok hM2 (r := r) (by omega) hp hq hne hrel hl h7p h7q (show min v1 v2 ≤ 4 by omega) hS3
      refine V_istore F (lv' := [_, _, _, _, _, _, _, _, _, _, _]) dX0_worth_74 (by decide) rfl rfl ?_
      refine V_aload_n F dX0_worth_76 rfl ?_
      refine V_getf F (q0 := 2) (j := 1) lk_X0_15 dX0_worth_77 ig_X0 rfl rfl (by decide) rfl rfl ?_
      refine V_iload F dX0_worth_80 rfl ?_
      refine V_iload F dX0_worth_82 rfl ?_
      refine V_callSN0 F (c_put_w (r := r) (show p < 24 by omega) (show q < 24 by omega) hne hrel hl) mi_X3_put ms_X3_put nk_X0_23 dX0_worth_84 (rmR (by omega)) rfl rfl (by decide) (Nat.le_of_ble_eq_true rfl) ?_
      refine V_iload F dX0_worth_87 rfl ?_
      exact V_iret F dX0_worth_89 ⟨_, rfl, by omega, hSm, hM3, (hW1.trans hW2).trans hW3⟩
    · rw [h0]
      refine V_if_eq_f F (tgt := 41) dX0_worth_35 (by decide) (nI_nz (by omega) (by omega)) ?_
      refine V_iload F dX0_worth_38 rfl ?_
      exact V_iret F dX0_worth_40 ⟨w, rfl, h4, hS.cut (by omega) hstop, hI.2, sameW.rfl' μ⟩
  · have hne := Classical.not_not.mp hne
    subst hne
    refine V_iconst F (v := nI 4) dX0_worth_10 (by decide) ?_
    refine V_iret F dX0_worth_11 ⟨4, rfl, by omega, ⟨Or.inr rfl, fun j hj => ⟨fun q => by omega, fun q => ?_⟩⟩, hI.2, sameW.rfl' μ⟩
    have q : win T rel j p p r = true := q
    rw [win_refl] at q
    cases q
theorem c_worth (k : Nat) : WC g l T n k := by
  induction k with
  | zero => exact fun μ rel p q r hI hpos => c_worth0 hI hpos
  | succ k ih => exact fun μ rel p q r hI hpos => c_worthS ih hI hpos
end GAMED
end
section
section CMP0
variable {T : Tb} {n : Nat}
/-- the number of rounds of two closed processes; 4: never -/
def rnd (T : Tb) (rel p q : Nat) : Nat := if win T rel 1 p q [] = true then 1 else if win T rel 2 p q [] = true then 2 else if win T rel 3 p q [] = true then 3 else 4
theorem rnd_Sp (rel p q : Nat) : Sp (rnd T rel p q) (fun j => win T rel j p q []) 3 := by
  have m1 : win T rel 1 p q [] = true → win T rel 2 p q [] = true := win_mono rel 1 p q []
  have m2 : win T rel 2 p q [] = true → win T rel 3 p q [] = true := win_mono rel 2 p q []
  unfold rnd
  by_cases h1 : win T rel 1 p q [] = true
  · rw [if_pos h1]
    refine ⟨by omega, fun j hj => ?_⟩
    rcases (by omega : j = 0 ∨ j = 1 ∨ j = 2 ∨ j = 3) with rfl | rfl | rfl | rfl
    · exact ⟨fun z => by omega, fun z => by cases z⟩
    · exact ⟨fun _ => h1, fun _ => by omega⟩
    · exact ⟨fun _ => m1 h1, fun _ => by omega⟩
    · exact ⟨fun _ => m2 (m1 h1), fun _ => by omega⟩
  · rw [if_neg h1]
    by_cases h2 : win T rel 2 p q [] = true
    · rw [if_pos h2]
      refine ⟨by omega, fun j hj => ?_⟩
      rcases (by omega : j = 0 ∨ j = 1 ∨ j = 2 ∨ j = 3) with rfl | rfl | rfl | rfl
      · exact ⟨fun z => by omega, fun z => by cases z⟩
      · exact ⟨fun z => by omega, fun z => absurd z h1⟩
      · exact ⟨fun _ => h2, fun _ => by omega⟩
      · exact ⟨fun _ => m2 h2, fun _ => by omega⟩
    · rw [if_neg h2]
      by_cases h3 : win T rel 3 p q [] = true
      · rw [if_pos h3]
        refine ⟨by omega, fun j hj => ?_⟩
        rcases (by omega : j = 0 ∨ j = 1 ∨ j = 2 ∨ j = 3) with rfl | rfl | rfl | rfl
        · exact ⟨fun z => by omega, fun z => by cases z⟩
        · exact ⟨fun z => by omega, fun z => absurd z h1⟩
        · exact ⟨fun z => by omega, fun z => absurd z h2⟩
        · exact ⟨fun _ => h3, fun _ => by omega⟩
      · rw [if_neg h3]
        refine ⟨by omega, fun j hj => ?_⟩
        rcases (by omega : j = 0 ∨ j = 1 ∨ j = 2 ∨ j = 3) with rfl | rfl | rfl | rfl
        · exact ⟨fun z => by omega, fun z => by cases z⟩
        · exact ⟨fun z => by omega, fun z => absurd z h1⟩
        · exact ⟨fun z => by omega, fun z => absurd z h2⟩
        · exact ⟨fun z => by omega, fun z => absurd z h3⟩
theorem rnd_le (rel p q : Nat) : 1 ≤ rnd T rel p q ∧ rnd T rel p q ≤ 4 := by
  unfold rnd; split <;> (try split) <;> (try split) <;> omega
theorem rnd_symm (rel p q : Nat) : rnd T rel p q = rnd T rel q p := by
  unfold rnd; simp only [win_symm rel _ p q]
theorem rnd_refl (rel p : Nat) : rnd T rel p p = 4 := by
  unfold rnd; simp [win_refl]
def rdI (T : Tb) (rel p q : Nat) : Int32 := if rnd T rel p q = 4 then -4 else nI (rnd T rel p q)
/-- the first attack in a list of moves that wins within k rounds and one -/
def atkL (T : Tb) (rel k q : Nat) : Nat → List Nat → Option Nat
  | _, [] => none
  | m, a :: as => match (nms T rel a []).find? (fun v => hld T rel k a v q []) with
    | some v => some (10 * m + v)
    | none => atkL T rel k q (m + 1) as
def atkF (T : Tb) (rel k p q : Nat) : Option Nat := atkL T rel k q 0 (mvs T p [])
def atI : Option Nat → Int32
  | some x => nI x
  | none => -4
def atkR (T : Tb) (rel p q : Nat) : Int32 := if rnd T rel p q = 4 then -4 else match atkF T rel (rnd T rel p q - 1) p q with
  | some x => nI x
  | none => match atkF T rel (rnd T rel p q - 1) q p with
    | some y => nI (1000 + y)
    | none => -4
def rPair (f : Nat → Nat → Nat → Int32) (T : Tb) (n : Nat) (p q rel : Int32) : Int32 := match pj n p with
  | none => -1
  | some i => match pj n q with
    | none => -1
    | some j => match pj 3 rel with
      | none => -1
      | some k => if T 7 i = 0 ∧ T 7 j = 0 then f i j k else -2
def lows (T : Tb) (rel p : Nat) : Nat := ((List.range p).find? (fun q => T 7 q == 0 && rnd T rel p q == 4)).getD p
def cls (T : Tb) (n rel : Nat) : Nat := ((List.range n).filter (fun p => T 7 p == 0 && lows T rel p == p)).length
def rCls (T : Tb) (n : Nat) (rel : Int32) : Int32 := match pj 3 rel with
  | none => -1
  | some k => nI (cls T n k)
def XQ (T : Tb) (n : Nat) (μ : Mem) (v : Int32) : Option Value → Mem → Prop := fun ret μ' => ret = some (.int v) ∧ Memo T n μ' ∧ sameW μ μ'
def rstS (T : Tb) (p : Nat) : Nat → Nat → List Nat
  | 0, _ => []
  | d + 1, i => (slA T p [] i).toList ++ rstS T p d (i + 1)
theorem mvs_rst (hW : WF T n) {p : Nat} (hp : p < n) : mvs T p [] = rstS T p 3 0 := by
  rw [mvs_eq hW hp]
  simp only [List.range_succ, List.range_zero, List.nil_append, List.cons_append, List.filterMap_cons, List.filterMap_nil, rstS]
  cases slA T p [] 0 <;> cases slA T p [] (0 + 1) <;> cases slA T p [] (0 + 1 + 1) <;> simp_all
theorem range_map_succ (e nm : Nat) : (List.range (e + 1)).map (nm + ·) = nm :: (List.range e).map (nm + 1 + ·) := by
  rw [List.range_succ_eq_map, List.map_cons, List.map_map]
  congr 1
  apply List.map_congr_left
  intro x _
  simp only [Function.comp]
  omega
theorem pos3 (hW : WF T n) {rel p q : Nat} (hp : p < n) (hq : q < n) (hrel : rel < 3) (h7p : T 7 p = 0) (h7q : T 7 q = 0) : Pos T n rel p q [] 3 :=
  ⟨hp, hq, hrel, trivial, by simp, by simp [h7p], by simp [h7q], (hW.depth hp).1, (hW.depth hq).1⟩
end CMP0
section CMP
variable {g : Gm} {l : Launch} {μ : Mem} {T : Tb} {n : Nat}
theorem c_roundsOf {rel p q : Nat} (hI : XInv T n μ) (hp : p < n) (hq : q < n) (hrel : rel < 3) (h7p : T 7 p = 0) (h7q : T 7 q = 0) : Ct (GS g) l (21) yX0_roundsOf cX0_roundsOf 5 (some .int) [.ref (g.1 2), .int (nI p), .int (nI q), .int (nI rel)] μ (XQ T n μ (rdI T rel p q)) := by
  have hr := rnd_le (T := T) rel p q
  refine Ct.of (own := RX0) mi_X0_roundsOf rfl [some (.ref (g.1 2)), some (.int (nI p)), some (.int (nI q)), some (.int (nI rel)), none] (Nat.le_of_ble_eq_true rfl) rfl (fun p₀ e₀ s₀ m₀ b₀ h₀ c₀ F => ?_)
  refine V_aload_n F dX0_roundsOf_0 rfl ?_
  refine V_iload_n F dX0_roundsOf_1 rfl ?_
  refine V_iload_n F dX0_roundsOf_2 rfl ?_
  refine V_iload_n F dX0_roundsOf_3 rfl ?_
  refine V_iconst F (v := nI 1) dX0_roundsOf_4 (by decide) ?_
  refine V_iconst F (v := nI 3) dX0_roundsOf_5 (by decide) ?_
  refine V_callV F (q0 := 2) (c_worth 3 μ rel p q [] hI (pos3 hI.1.1 hp hq hrel h7p h7q)) mi_X0_worth mm_X0_worth lk_X0_29 dX0_roundsOf_6 (rmR (by omega)) rfl rfl (by decide) (Nat.le_of_ble_eq_true rfl) rfl rfl rfl (fun r μ' h => ?_)
  obtain ⟨v, rfl, hv4, hSp, hM', hW'⟩ := h
  have hv : v = rnd T rel p q := hSp.uniq (by omega) (rnd_Sp rel p q)
  subst hv
  refine V_istore F (lv' := [_, _, _, _, _]) dX0_roundsOf_9 (by decide) rfl rfl ?_
  refine V_iload F dX0_roundsOf_11 rfl ?_
  refine V_iconst F (v := nI 4) dX0_roundsOf_13 (by decide) ?_
  unfold rdI
  refine V_icmp_ne_N F (tgt := 22) dX0_roundsOf_14 (by decide) (by omega) (by omega) (fun hc => ?_) (fun hc => ?_)
  · rw [if_neg hc]
    refine V_iload F dX0_roundsOf_22 rfl ?_
    exact V_iret F dX0_roundsOf_24 (⟨rfl, hM', hW'⟩)
  · rw [if_pos (Classical.not_not.mp hc)]
    refine V_bipush F (v := (-4)) dX0_roundsOf_17 (by decide) ?_
    refine V_goto F (tgt := 24) dX0_roundsOf_19 (by decide) ?_
    exact V_iret F dX0_roundsOf_24 (⟨rfl, hM', hW'⟩)
theorem c_attackWith {rel p q k : Nat} (hI : XInv T n μ) (hp : p < n) (hq : q < n) (hrel : rel < 3) (h7p : T 7 p = 0) (h7q : T 7 q = 0) (hk : k < 3) (hmin : ∀ j, j < k → sid T rel j p q [] = false) : Ct (GS g) l (21) yX0_attackWith cX0_attackWith 11 (some .int) [.ref (g.1 2), .int (nI rel), .int (nI p), .int (nI q), .int (nI (k + 1))] μ (XQ T n μ (atI (atkF T rel k p q))) := by
  have hn := hI.1.n24
  have hW := hI.1.1
  refine Ct.of (own := RX0) mi_X0_attackWith rfl [some (.ref (g.1 2)), some (.int (nI rel)), some (.int (nI p)), some (.int (nI q)), some (.int (nI (k + 1))), none, none, none, none, none, none] (Nat.le_of_ble_eq_true rfl) rfl (fun p₀ e₀ s₀ m₀ b₀ h₀ c₀ F => ?_)
  have loop : ∀ (d i m : Nat) (ν : Mem), i + d = 3 → m ≤ i → atkF T rel k p q = atkL T rel k q m (rstS T p d i) → Memo T n ν → sameW μ ν →
      V (GS g) p₀ l e₀ (rmD (21)) s₀ m₀ (List.toArray [.ref (g.1 2), .int (nI rel), .int (nI p), .int (nI q), .int (nI (k + 1))]) b₀ h₀ c₀ 11 0 0 (MQ b₀ (Qp (GS g) (XQ T n μ (atI (atkF T rel k p q)))) (List.toArray [.ref (g.1 2), .int (nI rel), .int (nI p), .int (nI q), .int (nI (k + 1))]) s₀ 0 0 (gA (GS g))) 9 ([some (.ref (g.1 2)), some (.int (nI rel)), some (.int (nI p)), some (.int (nI q)), some (.int (nI (k + 1))), some (.int (nI 1)), some (.int (nI m)), some (.int (nI i)), none, none, none]) ([]) (ν) := by
    intro d
    induction d with
    | zero =>
      intro i m ν hi hm hres hM hS
      refine V_iload F dX0_attackWith_9 rfl ?_
      refine V_iconst F (v := nI 3) dX0_attackWith_11 (by decide) ?_
      refine V_icmp_ge_N F (tgt := 105) dX0_attackWith_12 (by decide) (by omega) (by omega) (fun hc => ?_) (fun hc => ?_)
      · skip
        refine V_bipush F (v := (-4)) dX0_attackWith_105 (by decide) ?_
        exact V_iret F dX0_attackWith_107 (⟨by rw [hres]; rfl, hM, hS⟩)
      · omega
    | succ d ih =>
      intro i m ν hi hm hres hM hS
      have hIν := hI.of_W hS hM
      refine V_iload F dX0_attackWith_9 rfl ?_
      refine V_iconst F (v := nI 3) dX0_attackWith_11 (by decide) ?_
      refine V_icmp_ge_N F (tgt := 105) dX0_attackWith_12 (by decide) (by omega) (by omega) (fun hc => ?_) (fun hc => ?_)
      · omega
      · skip
        refine V_aload_n F dX0_attackWith_15 rfl ?_
        refine V_getf F (q0 := 2) (j := 0) lk_X0_9 dX0_attackWith_16 ig_X0 rfl rfl (by decide) rfl rfl ?_
        refine V_iload_n F dX0_attackWith_19 rfl ?_
        refine V_iload F dX0_attackWith_20 rfl ?_
        refine V_iload F dX0_attackWith_22 rfl ?_
        refine V_callVNi F (q0 := 1) (c_actionIn (r := []) hIν.1 hp (show i < 3 by omega) trivial (by simp) (by simp [h7p])) mi_X2_actionIn mm_X2_actionIn nk_X0_41 dX0_attackWith_24 (rmR (by omega)) rfl rfl (by decide) (Nat.le_of_ble_eq_true rfl) rfl rfl rfl ?_
        refine V_istore F (lv' := [_, _, _, _, _, _, _, _, _, _, _]) dX0_attackWith_27 (by decide) rfl rfl ?_
        refine V_iload F dX0_attackWith_29 rfl ?_
        refine V_bipush F (v := (-4)) dX0_attackWith_31 (by decide) ?_
        cases hs : slA T p [] i with
        | none =>
          rw [show rstS T p (d + 1) i = rstS T p d (i + 1) by simp [rstS, hs]] at hres
          refine V_icmp_eq_t F (tgt := 99) dX0_attackWith_33 (by decide) (rfl) ?_
          refine V_iinc F (lv' := [_, _, _, _, _, _, _, _, _, _, _]) dX0_attackWith_99 rfl (by decide) rfl rfl ?_
          refine V_goto F (tgt := 9) dX0_attackWith_102 (by decide) ?_
          rw [show nI i + Int32.ofInt 1 = nI (i + 1) from nI_1 i]
          refine V_msk [true, true, true, true, true, true, true, true, false, false, false] (lv' := [_, _, _, _, _, _, _, _, _, _, _]) rfl ?_
          exact ih (i + 1) m ν (by omega) (by omega) hres hM hS
        | some a =>
          rw [show rstS T p (d + 1) i = a :: rstS T p d (i + 1) by simp [rstS, hs]] at hres
          have ham := slA_mvs hW hp (show i < 3 by omega) hs
          obtain ⟨han, ha1, ha5, ha7, na1, na2⟩ := mv_ok hW hp ham
          have hla := laC_le (T := T) (r := []) trivial (by simp) rel a
          have hdp := (hW.depth hp).1
          have hdq := (hW.depth hq).1
          refine V_icmp_eq_f F (tgt := 99) dX0_attackWith_33 (by decide) (fun q => by have := (ri_ne (by intro b' hb'; cases hb'; exact slA_lt hW hp _ hs)).mp q; cases this) ?_
          refine V_aload_n F dX0_attackWith_36 rfl ?_
          refine V_iload_n F dX0_attackWith_37 rfl ?_
          refine V_iload F dX0_attackWith_38 rfl ?_
          refine V_iload F dX0_attackWith_40 rfl ?_
          refine V_callVi F (q0 := 2) (c_lastChoice (a := a) (r := []) hIν.1 han hrel trivial (by simp)) mi_X0_lastChoice mm_X0_lastChoice lk_X0_46 dX0_attackWith_42 (rmR (by omega)) rfl rfl (by decide) (Nat.le_of_ble_eq_true rfl) rfl rfl rfl ?_
          refine V_istore F (lv' := [_, _, _, _, _, _, _, _, _, _, _]) dX0_attackWith_45 (by decide) rfl rfl ?_
          refine V_aload_n F dX0_attackWith_47 rfl ?_
          refine V_iload_n F dX0_attackWith_48 rfl ?_
          refine V_iload F dX0_attackWith_49 rfl ?_
          refine V_callVi F (q0 := 2) (c_firstChoice (a := a) hIν.1 han hrel) mi_X0_firstChoice mm_X0_firstChoice lk_X0_49 dX0_attackWith_51 (rmR (by omega)) rfl rfl (by decide) (Nat.le_of_ble_eq_true rfl) rfl rfl rfl ?_
          have inner : ∀ (e nm : Nat) (ν' : Mem), fiC T rel a ≤ nm → nm + e = laC T rel a [] + 1 → (nms T rel a []).find? (fun v => hld T rel k a v q []) = ((List.range e).map (nm + ·)).find? (fun v => hld T rel k a v q []) → Memo T n ν' → sameW μ ν' →
              V (GS g) p₀ l e₀ (rmD (21)) s₀ m₀ (List.toArray [.ref (g.1 2), .int (nI rel), .int (nI p), .int (nI q), .int (nI (k + 1))]) b₀ h₀ c₀ 11 0 0 (MQ b₀ (Qp (GS g) (XQ T n μ (atI (atkF T rel k p q)))) (List.toArray [.ref (g.1 2), .int (nI rel), .int (nI p), .int (nI q), .int (nI (k + 1))]) s₀ 0 0 (gA (GS g))) 56 ([some (.ref (g.1 2)), some (.int (nI rel)), some (.int (nI p)), some (.int (nI q)), some (.int (nI (k + 1))), some (.int (nI 1)), some (.int (nI m)), some (.int (nI i)), some (.int (nI a)), some (.int (nI (laC T rel a []))), some (.int (nI nm))]) ([]) (ν') := by
            intro e
            induction e with
            | zero =>
              intro nm ν' hnm0 hnm1 hf gM gS
              refine V_iload F dX0_attackWith_56 rfl ?_
              refine V_iload F dX0_attackWith_58 rfl ?_
              refine V_icmp_gt_N F (tgt := 96) dX0_attackWith_60 (by decide) (by omega) (by omega) (fun hd => ?_) (fun hd => ?_)
              · skip
                refine V_iinc F (lv' := [_, _, _, _, _, _, _, _, _, _, _]) dX0_attackWith_96 rfl (by decide) rfl rfl ?_
                refine V_iinc F (lv' := [_, _, _, _, _, _, _, _, _, _, _]) dX0_attackWith_99 rfl (by decide) rfl rfl ?_
                refine V_goto F (tgt := 9) dX0_attackWith_102 (by decide) ?_
                rw [show nI i + Int32.ofInt 1 = nI (i + 1) from nI_1 i, show nI m + Int32.ofInt 1 = nI (m + 1) from nI_1 m]
                refine V_msk [true, true, true, true, true, true, true, true, false, false, false] (lv' := [_, _, _, _, _, _, _, _, _, _, _]) rfl ?_
                refine ih (i + 1) (m + 1) ν' (by omega) (by omega) ?_ gM gS
                rw [hres, atkL, hf]
                rfl
              · omega
            | succ e ihe =>
              intro nm ν' hnm0 hnm1 hf gM gS
              have hIν' := hI.of_W gS gM
              have hmem : nm ∈ nms T rel a [] := by
                rw [nms_eq]
                exact List.mem_map.mpr ⟨nm - fiC T rel a, List.mem_range.mpr (by omega), by omega⟩
              rw [range_map_succ, List.find?_cons] at hf
              refine V_iload F dX0_attackWith_56 rfl ?_
              refine V_iload F dX0_attackWith_58 rfl ?_
              refine V_icmp_gt_N F (tgt := 96) dX0_attackWith_60 (by decide) (by omega) (by omega) (fun hd => ?_) (fun hd => ?_)
              · omega
              · skip
                refine V_aload_n F dX0_attackWith_63 rfl ?_
                refine V_iload_n F dX0_attackWith_64 rfl ?_
                refine V_iload F dX0_attackWith_65 rfl ?_
                refine V_iload F dX0_attackWith_67 rfl ?_
                refine V_iload_n F dX0_attackWith_69 rfl ?_
                refine V_iload F dX0_attackWith_70 rfl ?_
                refine V_iconst F (v := nI 3) dX0_attackWith_72 (by decide) ?_
                refine V_callV F (q0 := 2) (c_attackWorth (k := 2) (rel := rel) (a := a) (nm := nm) (q := q) (r := []) (c_worth 2) hIν' hrel han hq ha1 trivial (by simp) (by omega) (by omega) (by omega) (by omega) hmem) mi_X0_attackWorth mm_X0_attackWorth lk_X0_53 dX0_attackWith_73 (rmR (by omega)) rfl rfl (by decide) (Nat.le_of_ble_eq_true rfl) rfl rfl rfl (fun r μ' h => ?_)
                obtain ⟨v, rfl, hv4, hSp, hM', hS'⟩ := h
                have hvk : v = k + 1 ↔ hld T rel k a nm q [] = true := by
                  have e1 : v ≤ k + 1 ↔ hld T rel k a nm q [] = true := hSp.2 (k + 1) (by omega)
                  rw [← e1]
                  have e2 : ¬ v ≤ k := by
                    intro z
                    have z2 := (hSp.2 k (by omega)).mp z
                    cases k with
                    | zero => cases z2
                    | succ j =>
                      have z3 : hld T rel j a nm q [] = true := z2
                      have z4 := hmin j (by omega)
                      have z5 : sid T rel j p q [] = true := by
                        unfold sid
                        exact List.any_eq_true.mpr ⟨a, ham, List.any_eq_true.mpr ⟨nm, hmem, z3⟩⟩
                      rw [z4] at z5
                      cases z5
                  omega
                refine V_iload F dX0_attackWith_76 rfl ?_
                refine V_icmp_ne_N F (tgt := 90) dX0_attackWith_78 (by decide) (by omega) (by omega) (fun hx => ?_) (fun hx => ?_)
                · skip
                  refine V_iinc F (lv' := [_, _, _, _, _, _, _, _, _, _, _]) dX0_attackWith_90 rfl (by decide) rfl rfl ?_
                  refine V_goto F (tgt := 56) dX0_attackWith_93 (by decide) ?_
                  rw [show nI nm + Int32.ofInt 1 = nI (nm + 1) from nI_1 nm]
                  refine ihe (nm + 1) _ (by omega) (by omega) ?_ hM' (gS.trans hS')
                  rw [hf]
                  have : hld T rel k a nm q [] = false := by rw [← Bool.not_eq_true]; exact fun z => hx (hvk.mpr z)
                  rw [this]
                · skip
                  refine V_bipush F (v := nI 10) dX0_attackWith_81 (by decide) ?_
                  refine V_iload F dX0_attackWith_83 rfl ?_
                  (first | refine V_imulN F dX0_attackWith_85 ?_ | refine V_imul F dX0_attackWith_85 ?_)
                  refine V_iload F dX0_attackWith_86 rfl ?_
                  (first | refine V_iaddN F dX0_attackWith_88 ?_ | refine V_iadd F dX0_attackWith_88 ?_)
                  refine V_iret F dX0_attackWith_89 ⟨?_, hM', gS.trans hS'⟩
                  rw [hres, atkL, hf, hvk.mp (Classical.not_not.mp hx)]
                  rfl
          refine V_istore F (lv' := [_, _, _, _, _, _, _, _, _, _, _]) dX0_attackWith_54 (by decide) rfl rfl ?_
          refine inner (laC T rel a [] + 1 - fiC T rel a) (fiC T rel a) ν (Nat.le_refl _) (by omega) ?_ hM hS
          rw [nms_eq]
  refine V_iconst F (v := nI 1) dX0_attackWith_0 (by decide) ?_
  refine V_istore F (lv' := [_, _, _, _, _, _, _, _, _, _, _]) dX0_attackWith_1 (by decide) rfl rfl ?_
  refine V_iconst F (v := nI 0) dX0_attackWith_3 (by decide) ?_
  refine V_istore F (lv' := [_, _, _, _, _, _, _, _, _, _, _]) dX0_attackWith_4 (by decide) rfl rfl ?_
  refine V_iconst F (v := nI 0) dX0_attackWith_6 (by decide) ?_
  refine V_istore F (lv' := [_, _, _, _, _, _, _, _, _, _, _]) dX0_attackWith_7 (by decide) rfl rfl ?_
  exact loop 3 0 0 μ rfl (Nat.le_refl _) (by rw [atkF, mvs_rst hW hp]) hI.2 (sameW.rfl' μ)
theorem sid_min {rel p q k : Nat} (hk : rnd T rel p q = k + 1) (hk4 : k < 3) : (∀ j, j < k → sid T rel j p q [] = false) ∧ ∀ j, j < k → sid T rel j q p [] = false := by
  have key : ∀ j, j < k → win T rel (j + 1) p q [] = false := by
    intro j hj
    rw [← Bool.not_eq_true]
    intro z
    have := ((rnd_Sp (T := T) rel p q).2 (j + 1) (by omega)).mpr z
    omega
  constructor
  · intro j hj
    have := key j hj
    rw [win_eq, Bool.or_eq_false_iff] at this
    exact this.1
  · intro j hj
    have := key j hj
    rw [win_eq, Bool.or_eq_false_iff] at this
    exact this.2
theorem atkL_lt {rel k q : Nat} : ∀ (as : List Nat) (m x : Nat), atkL T rel k q m as = some x → x ≤ 10 * (m + as.length) + 12 := by
  intro as
  induction as with
  | nil => intro m x h; cases h
  | cons a as ih =>
    intro m x h
    unfold atkL at h
    split at h
    · rename_i v hv
      cases h
      have hm := List.mem_of_find?_eq_some hv
      rw [nms_eq] at hm
      obtain ⟨z, hz, rfl⟩ := List.mem_map.mp hm
      have := List.mem_range.mp hz
      have := laC_le (T := T) (r := []) trivial (by simp) rel a
      simp only [List.length_cons]
      omega
    · have := ih (m + 1) x h
      simp only [List.length_cons]
      omega
theorem atkF_lt (hW : WF T n) {rel k p q x : Nat} (hp : p < n) (h : atkF T rel k p q = some x) : x ≤ 42 := by
  have h1 := atkL_lt _ _ _ h
  have h2 : (mvs T p []).length ≤ 3 := by
    rw [mvs_eq hW hp]
    exact Nat.le_trans (List.length_filterMap_le _ _) (by simp)
  omega
theorem c_attackOf {rel p q : Nat} (hI : XInv T n μ) (hp : p < n) (hq : q < n) (hrel : rel < 3) (h7p : T 7 p = 0) (h7q : T 7 q = 0) : Ct (GS g) l (22) yX0_attackOf cX0_attackOf 7 (some .int) [.ref (g.1 2), .int (nI p), .int (nI q), .int (nI rel)] μ (XQ T n μ (atkR T rel p q)) := by
  have hW := hI.1.1
  have hr := rnd_le (T := T) rel p q
  refine Ct.of (own := RX0) mi_X0_attackOf rfl [some (.ref (g.1 2)), some (.int (nI p)), some (.int (nI q)), some (.int (nI rel)), none, none, none] (Nat.le_of_ble_eq_true rfl) rfl (fun p₀ e₀ s₀ m₀ b₀ h₀ c₀ F => ?_)
  refine V_aload_n F dX0_attackOf_0 rfl ?_
  refine V_iload_n F dX0_attackOf_1 rfl ?_
  refine V_iload_n F dX0_attackOf_2 rfl ?_
  refine V_iload_n F dX0_attackOf_3 rfl ?_
  refine V_callV F (q0 := 2) (c_roundsOf hI hp hq hrel h7p h7q) mi_X0_roundsOf mm_X0_roundsOf lk_X0_33 dX0_attackOf_4 (rmR (by omega)) rfl rfl (by decide) (Nat.le_of_ble_eq_true rfl) rfl rfl rfl (fun r μ' h => ?_)
  obtain ⟨rfl, hM1, hS1⟩ := h
  unfold atkR rdI
  refine V_istore F (lv' := [_, _, _, _, _, _, _]) dX0_attackOf_7 (by decide) rfl rfl ?_
  refine V_iload F dX0_attackOf_9 rfl ?_
  refine V_bipush F (v := (-4)) dX0_attackOf_11 (by decide) ?_
  by_cases h4 : rnd T rel p q = 4
  · rw [if_pos h4, if_pos h4]
    refine V_icmp_ne_f F (tgt := 19) dX0_attackOf_13 (by decide) (by decide) ?_
    refine V_bipush F (v := (-4)) dX0_attackOf_16 (by decide) ?_
    exact V_iret F dX0_attackOf_18 (⟨rfl, hM1, hS1⟩)
  · rw [if_neg h4, if_neg h4]
    obtain ⟨k, hk⟩ : ∃ k, rnd T rel p q = k + 1 := ⟨rnd T rel p q - 1, by omega⟩
    obtain ⟨hm1, hm2⟩ := sid_min hk (by omega)
    rw [hk, Nat.add_sub_cancel]
    refine V_icmp_ne_t F (tgt := 19) dX0_attackOf_13 (by decide) (fun z => by have : ∀ k, k < 4 → ¬ nI k = -4 := by { decide +kernel }; exact this (k + 1) (by omega) z) ?_
    refine V_aload_n F dX0_attackOf_19 rfl ?_
    refine V_iload_n F dX0_attackOf_20 rfl ?_
    refine V_iload_n F dX0_attackOf_21 rfl ?_
    refine V_iload_n F dX0_attackOf_22 rfl ?_
    refine V_iload F dX0_attackOf_23 rfl ?_
    refine V_callV F (q0 := 2) (c_attackWith (k := k) (hI.of_W hS1 hM1) hp hq hrel h7p h7q (by omega) hm1) mi_X0_attackWith mm_X0_attackWith lk_X0_37 dX0_attackOf_25 (rmR (by omega)) rfl rfl (by decide) (Nat.le_of_ble_eq_true rfl) rfl rfl rfl (fun r μ' h => ?_)
    obtain ⟨rfl, hM2, hS2⟩ := h
    refine V_istore F (lv' := [_, _, _, _, _, _, _]) dX0_attackOf_28 (by decide) rfl rfl ?_
    refine V_iload F dX0_attackOf_30 rfl ?_
    cases hf : atkF T rel k p q with
    | some x =>
      have hx := atkF_lt hW hp hf
      refine V_if_lt_f F (tgt := 38) dX0_attackOf_32 (by decide) (nI_nn (by omega)) ?_
      refine V_iload F dX0_attackOf_35 rfl ?_
      exact V_iret F dX0_attackOf_37 (⟨rfl, hM2, hS1.trans hS2⟩)
    | none =>
      refine V_if_lt_t F (tgt := 38) dX0_attackOf_32 (by decide) (by decide) ?_
      refine V_aload_n F dX0_attackOf_38 rfl ?_
      refine V_iload_n F dX0_attackOf_39 rfl ?_
      refine V_iload_n F dX0_attackOf_40 rfl ?_
      refine V_iload_n F dX0_attackOf_41 rfl ?_
      refine V_iload F dX0_attackOf_42 rfl ?_
      refine V_callV F (q0 := 2) (c_attackWith (k := k) (hI.of_W (hS1.trans hS2) hM2) hq hp hrel h7q h7p (by omega) hm2) mi_X0_attackWith mm_X0_attackWith lk_X0_37 dX0_attackOf_44 (rmR (by omega)) rfl rfl (by decide) (Nat.le_of_ble_eq_true rfl) rfl rfl rfl (fun r μ' h => ?_)
      obtain ⟨rfl, hM3, hS3⟩ := h
      refine V_istore F (lv' := [_, _, _, _, _, _, _]) dX0_attackOf_47 (by decide) rfl rfl ?_
      refine V_iload F dX0_attackOf_49 rfl ?_
      cases hf2 : atkF T rel k q p with
      | some x =>
        have hx := atkF_lt hW hq hf2
        refine V_if_lt_f F (tgt := 63) dX0_attackOf_51 (by decide) (nI_nn (by omega)) ?_
        refine V_sipush F (v := nI 1000) dX0_attackOf_54 (by decide) ?_
        refine V_iload F dX0_attackOf_57 rfl ?_
        (first | refine V_iaddN F dX0_attackOf_59 ?_ | refine V_iadd F dX0_attackOf_59 ?_)
        refine V_goto F (tgt := 65) dX0_attackOf_60 (by decide) ?_
        exact V_iret F dX0_attackOf_65 (⟨rfl, hM3, (hS1.trans hS2).trans hS3⟩)
      | none =>
        refine V_if_lt_t F (tgt := 63) dX0_attackOf_51 (by decide) (by decide) ?_
        refine V_bipush F (v := (-4)) dX0_attackOf_63 (by decide) ?_
        exact V_iret F dX0_attackOf_65 (⟨rfl, hM3, (hS1.trans hS2).trans hS3⟩)
theorem c_errorOfPair (hX : XRep T n μ) (p q rel : Int32) : Ct (GS g) l (2) yX3_errorOfPair cX3_errorOfPair 4 (some .int) [.ref (g.1 0), .int p, .int q, .int rel] μ (Is (.int (rPair (fun _ _ _ => nI 0) T n p q rel)) μ) := by
  have hn := hX.n24
  refine Ct.of (own := RX3) mi_X3_errorOfPair rfl [some (.ref (g.1 0)), some (.int p), some (.int q), some (.int rel)] (Nat.le_of_ble_eq_true rfl) rfl (fun p₀ e₀ s₀ m₀ b₀ h₀ c₀ F => ?_)
  refine V_aload_n F dX3_errorOfPair_0 rfl ?_
  refine V_getf F (q0 := 0) (j := 0) lk_X3_10 dX3_errorOfPair_1 ig_X3 rfl rfl (by decide) rfl rfl ?_
  refine V_iload_n F dX3_errorOfPair_4 rfl ?_
  cases h1 : pj n p with
  | none =>
    have e : rPair (fun _ _ _ => nI 0) T n p q rel = -1 := by unfold rPair; rw [h1]
    rw [e]
    refine V_callVNi F (q0 := 1) (c_holds_f hX.2.1 (by omega) (pj_none h1 (by omega))) mi_X2_holds mm_X2_holds nk_X3_25 dX3_errorOfPair_5 (rmR (by omega)) rfl rfl (by decide) (Nat.le_of_ble_eq_true rfl) rfl rfl rfl ?_
    refine V_if_eq_t F (tgt := 29) dX3_errorOfPair_8 (by decide) (by decide) ?_
    refine V_iconst F (v := (-1)) dX3_errorOfPair_29 (by decide) ?_
    exact V_iret F dX3_errorOfPair_30 (⟨rfl, rfl⟩)
  | some i =>
    obtain ⟨hi, rfl⟩ := pj_some h1 (by omega)
    refine V_callVNi F (q0 := 1) (c_holds_t hX.2.1 (by omega) hi) mi_X2_holds mm_X2_holds nk_X3_25 dX3_errorOfPair_5 (rmR (by omega)) rfl rfl (by decide) (Nat.le_of_ble_eq_true rfl) rfl rfl rfl ?_
    refine V_if_eq_f F (tgt := 29) dX3_errorOfPair_8 (by decide) (by decide) ?_
    refine V_aload_n F dX3_errorOfPair_11 rfl ?_
    refine V_getf F (q0 := 0) (j := 0) lk_X3_10 dX3_errorOfPair_12 ig_X3 rfl rfl (by decide) rfl rfl ?_
    refine V_iload_n F dX3_errorOfPair_15 rfl ?_
    cases h2 : pj n q with
    | none =>
      have e : rPair (fun _ _ _ => nI 0) T n (nI i) q rel = -1 := by unfold rPair; rw [h1]; simp only [h2]
      rw [e]
      refine V_callVNi F (q0 := 1) (c_holds_f hX.2.1 (by omega) (pj_none h2 (by omega))) mi_X2_holds mm_X2_holds nk_X3_25 dX3_errorOfPair_16 (rmR (by omega)) rfl rfl (by decide) (Nat.le_of_ble_eq_true rfl) rfl rfl rfl ?_
      refine V_if_eq_t F (tgt := 29) dX3_errorOfPair_19 (by decide) (by decide) ?_
      refine V_iconst F (v := (-1)) dX3_errorOfPair_29 (by decide) ?_
      exact V_iret F dX3_errorOfPair_30 (⟨rfl, rfl⟩)
    | some j =>
      obtain ⟨hj, rfl⟩ := pj_some h2 (by omega)
      refine V_callVNi F (q0 := 1) (c_holds_t hX.2.1 (by omega) hj) mi_X2_holds mm_X2_holds nk_X3_25 dX3_errorOfPair_16 (rmR (by omega)) rfl rfl (by decide) (Nat.le_of_ble_eq_true rfl) rfl rfl rfl ?_
      refine V_if_eq_f F (tgt := 29) dX3_errorOfPair_19 (by decide) (by decide) ?_
      refine V_iload_n F dX3_errorOfPair_22 rfl ?_
      cases h3 : pj 3 rel with
      | none =>
        have e : rPair (fun _ _ _ => nI 0) T n (nI i) (nI j) rel = -1 := by unfold rPair; rw [h1]; simp only [h2, h3]
        rw [e]
        refine V_callSi F (c_isRel_f (pj_none h3 (by omega))) mi_X3_isRelation ms_X3_isRelation lk_X3_103 dX3_errorOfPair_23 (rmR (by omega)) rfl rfl (by decide) (Nat.le_of_ble_eq_true rfl) ?_
        refine V_if_ne_f F (tgt := 31) dX3_errorOfPair_26 (by decide) (by decide) ?_
        refine V_iconst F (v := (-1)) dX3_errorOfPair_29 (by decide) ?_
        exact V_iret F dX3_errorOfPair_30 (⟨rfl, rfl⟩)
      | some k =>
        obtain ⟨hk, rfl⟩ := pj_some h3 (by omega)
        have e : rPair (fun _ _ _ => nI 0) T n (nI i) (nI j) (nI k) = if T 7 i = 0 ∧ T 7 j = 0 then nI 0 else -2 := by unfold rPair; rw [h1]; simp only [h2, h3]
        rw [e]
        have n1 := hX.1.need hi
        have n2 := hX.1.need hj
        refine V_callSi F (c_isRel_t hk) mi_X3_isRelation ms_X3_isRelation lk_X3_103 dX3_errorOfPair_23 (rmR (by omega)) rfl rfl (by decide) (Nat.le_of_ble_eq_true rfl) ?_
        refine V_if_ne_t F (tgt := 31) dX3_errorOfPair_26 (by decide) (by decide) ?_
        refine V_aload_n F dX3_errorOfPair_31 rfl ?_
        refine V_getf F (q0 := 0) (j := 0) lk_X3_10 dX3_errorOfPair_32 ig_X3 rfl rfl (by decide) rfl rfl ?_
        refine V_iload_n F dX3_errorOfPair_35 rfl ?_
        refine V_callVNi F (q0 := 1) (c_isClosed (d := T 7 i) (by omega) (hX.fld 7 rfl (by omega) hi) (by omega)) mi_X2_isClosed mm_X2_isClosed nk_X3_75 dX3_errorOfPair_36 (rmR (by omega)) rfl rfl (by decide) (Nat.le_of_ble_eq_true rfl) rfl rfl rfl ?_
        by_cases z1 : T 7 i = 0
        · rw [if_pos z1]
          refine V_if_eq_f F (tgt := 57) dX3_errorOfPair_39 (by decide) (by decide) ?_
          refine V_aload_n F dX3_errorOfPair_42 rfl ?_
          refine V_getf F (q0 := 0) (j := 0) lk_X3_10 dX3_errorOfPair_43 ig_X3 rfl rfl (by decide) rfl rfl ?_
          refine V_iload_n F dX3_errorOfPair_46 rfl ?_
          refine V_callVNi F (q0 := 1) (c_isClosed (d := T 7 j) (by omega) (hX.fld 7 rfl (by omega) hj) (by omega)) mi_X2_isClosed mm_X2_isClosed nk_X3_75 dX3_errorOfPair_47 (rmR (by omega)) rfl rfl (by decide) (Nat.le_of_ble_eq_true rfl) rfl rfl rfl ?_
          by_cases z2 : T 7 j = 0
          · rw [if_pos z2, if_pos ⟨z1, z2⟩]
            refine V_if_eq_f F (tgt := 57) dX3_errorOfPair_50 (by decide) (by decide) ?_
            refine V_iconst F (v := nI 0) dX3_errorOfPair_53 (by decide) ?_
            refine V_goto F (tgt := 59) dX3_errorOfPair_54 (by decide) ?_
            exact V_iret F dX3_errorOfPair_59 (⟨rfl, rfl⟩)
          · rw [if_neg z2, if_neg (fun z => z2 z.2)]
            refine V_if_eq_t F (tgt := 57) dX3_errorOfPair_50 (by decide) (by decide) ?_
            refine V_bipush F (v := (-2)) dX3_errorOfPair_57 (by decide) ?_
            exact V_iret F dX3_errorOfPair_59 (⟨rfl, rfl⟩)
        · rw [if_neg z1, if_neg (fun z => z1 z.1)]
          refine V_if_eq_t F (tgt := 57) dX3_errorOfPair_39 (by decide) (by decide) ?_
          refine V_bipush F (v := (-2)) dX3_errorOfPair_57 (by decide) ?_
          exact V_iret F dX3_errorOfPair_59 (⟨rfl, rfl⟩)
/-- an error, or two closed processes and a relation -/
theorem rPair_cases (f : Nat → Nat → Nat → Int32) (T : Tb) (hn : n < 2 ^ 31) (p q rel : Int32) : (rPair (fun _ _ _ => nI 0) T n p q rel < 0 ∧ rPair f T n p q rel = rPair (fun _ _ _ => nI 0) T n p q rel) ∨
    ∃ i j k, i < n ∧ j < n ∧ k < 3 ∧ p = nI i ∧ q = nI j ∧ rel = nI k ∧ T 7 i = 0 ∧ T 7 j = 0 ∧ rPair (fun _ _ _ => nI 0) T n p q rel = nI 0 ∧ rPair f T n p q rel = f i j k := by
  unfold rPair
  cases h1 : pj n p with
  | none => exact Or.inl ⟨(by decide : (-1 : Int32) < 0), rfl⟩
  | some i =>
    obtain ⟨hi, e1⟩ := pj_some h1 hn
    simp only
    cases h2 : pj n q with
    | none => exact Or.inl ⟨(by decide : (-1 : Int32) < 0), rfl⟩
    | some j =>
      obtain ⟨hj, e2⟩ := pj_some h2 hn
      simp only
      cases h3 : pj 3 rel with
      | none => exact Or.inl ⟨(by decide : (-1 : Int32) < 0), rfl⟩
      | some k =>
        obtain ⟨hk, e3⟩ := pj_some h3 (by omega)
        simp only
        by_cases hz : T 7 i = 0 ∧ T 7 j = 0
        · rw [if_pos hz, if_pos hz]
          exact Or.inr ⟨i, j, k, hi, hj, hk, e1, e2, e3, hz.1, hz.2, rfl, rfl⟩
        · rw [if_neg hz, if_neg hz]
          exact Or.inl ⟨(by decide : (-2 : Int32) < 0), rfl⟩
def fRel (T : Tb) (i j k : Nat) : Int32 := if rnd T k i j = 4 then nI 1 else nI 0
def fRnd (T : Tb) (i j k : Nat) : Int32 := rdI T k i j
def fAtk (T : Tb) (i j k : Nat) : Int32 := atkR T k i j
def fRep (T : Tb) (i _j k : Nat) : Int32 := nI (lows T k i)
theorem c_areRelated (hI : XInv T n μ) (p q rel : Int32) : Ct (GS g) l (22) yX3_areRelated cX3_areRelated 5 (some .int) [.ref (g.1 0), .int p, .int q, .int rel] μ (XQ T n μ (rPair (fRel T) T n p q rel)) := by
  have hn := hI.1.n24
  refine Ct.of (own := RX3) mi_X3_areRelated rfl [some (.ref (g.1 0)), some (.int p), some (.int q), some (.int rel), none] (Nat.le_of_ble_eq_true rfl) rfl (fun p₀ e₀ s₀ m₀ b₀ h₀ c₀ F => ?_)
  refine V_aload_n F dX3_areRelated_0 rfl ?_
  refine V_iload_n F dX3_areRelated_1 rfl ?_
  refine V_iload_n F dX3_areRelated_2 rfl ?_
  refine V_iload_n F dX3_areRelated_3 rfl ?_
  refine V_callVi F (q0 := 0) (c_errorOfPair hI.1 p q rel) mi_X3_errorOfPair mm_X3_errorOfPair lk_X3_90 dX3_areRelated_4 (rmR (by omega)) rfl rfl (by decide) (Nat.le_of_ble_eq_true rfl) rfl rfl rfl ?_
  refine V_istore F (lv' := [_, _, _, _, _]) dX3_areRelated_7 (by decide) rfl rfl ?_
  refine V_iload F dX3_areRelated_9 rfl ?_
  rcases rPair_cases (fRel T) T (show n < 2 ^ 31 by omega) p q rel with ⟨h1, h2⟩ | ⟨i, j, k, hi, hj, hk, rfl, rfl, rfl, z1, z2, h1, h2⟩
  · skip
    refine V_if_ge_f F (tgt := 17) dX3_areRelated_11 (by decide) (fun z => Int32.not_lt.mpr z h1) ?_
    refine V_iload F dX3_areRelated_14 rfl ?_
    exact V_iret F dX3_areRelated_16 (⟨by rw [h2], hI.2, sameW.rfl' μ⟩)
  · rw [h1, h2]
    refine V_if_ge_t F (tgt := 17) dX3_areRelated_11 (by decide) (by decide) ?_
    refine V_aload_n F dX3_areRelated_17 rfl ?_
    refine V_getf F (q0 := 0) (j := 1) lk_X3_21 dX3_areRelated_18 ig_X3 rfl rfl (by decide) rfl rfl ?_
    refine V_iload_n F dX3_areRelated_21 rfl ?_
    refine V_iload_n F dX3_areRelated_22 rfl ?_
    refine V_iload_n F dX3_areRelated_23 rfl ?_
    refine V_callVN F (q0 := 2) (c_roundsOf hI hi hj hk z1 z2) mi_X0_roundsOf mm_X0_roundsOf nk_X3_94 dX3_areRelated_24 (rmR (by omega)) rfl rfl (by decide) (Nat.le_of_ble_eq_true rfl) rfl rfl rfl (fun r μ' h => ?_)
    obtain ⟨rfl, hM1, hS1⟩ := h
    refine V_bipush F (v := (-4)) dX3_areRelated_27 (by decide) ?_
    have hr := rnd_le (T := T) k i j
    unfold fRel rdI
    by_cases h4 : rnd T k i j = 4
    · rw [if_pos h4, if_pos h4]
      refine V_icmp_ne_f F (tgt := 36) dX3_areRelated_29 (by decide) (by decide) ?_
      refine V_iconst F (v := nI 1) dX3_areRelated_32 (by decide) ?_
      refine V_goto F (tgt := 37) dX3_areRelated_33 (by decide) ?_
      exact V_iret F dX3_areRelated_37 (⟨rfl, hM1, hS1⟩)
    · rw [if_neg h4, if_neg h4]
      refine V_icmp_ne_t F (tgt := 36) dX3_areRelated_29 (by decide) (fun z => by have : ∀ k, k < 4 → ¬ nI k = -4 := by { decide +kernel }; exact this _ (by omega) z) ?_
      refine V_iconst F (v := nI 0) dX3_areRelated_36 (by decide) ?_
      exact V_iret F dX3_areRelated_37 (⟨rfl, hM1, hS1⟩)
theorem c_rounds (hI : XInv T n μ) (p q rel : Int32) : Ct (GS g) l (22) yX3_rounds cX3_rounds 5 (some .int) [.ref (g.1 0), .int p, .int q, .int rel] μ (XQ T n μ (rPair (fRnd T) T n p q rel)) := by
  have hn := hI.1.n24
  refine Ct.of (own := RX3) mi_X3_rounds rfl [some (.ref (g.1 0)), some (.int p), some (.int q), some (.int rel), none] (Nat.le_of_ble_eq_true rfl) rfl (fun p₀ e₀ s₀ m₀ b₀ h₀ c₀ F => ?_)
  refine V_aload_n F dX3_rounds_0 rfl ?_
  refine V_iload_n F dX3_rounds_1 rfl ?_
  refine V_iload_n F dX3_rounds_2 rfl ?_
  refine V_iload_n F dX3_rounds_3 rfl ?_
  refine V_callVi F (q0 := 0) (c_errorOfPair hI.1 p q rel) mi_X3_errorOfPair mm_X3_errorOfPair lk_X3_90 dX3_rounds_4 (rmR (by omega)) rfl rfl (by decide) (Nat.le_of_ble_eq_true rfl) rfl rfl rfl ?_
  refine V_istore F (lv' := [_, _, _, _, _]) dX3_rounds_7 (by decide) rfl rfl ?_
  refine V_iload F dX3_rounds_9 rfl ?_
  rcases rPair_cases (fRnd T) T (show n < 2 ^ 31 by omega) p q rel with ⟨h1, h2⟩ | ⟨i, j, k, hi, hj, hk, rfl, rfl, rfl, z1, z2, h1, h2⟩
  · skip
    refine V_if_ge_f F (tgt := 19) dX3_rounds_11 (by decide) (fun z => Int32.not_lt.mpr z h1) ?_
    refine V_iload F dX3_rounds_14 rfl ?_
    refine V_goto F (tgt := 29) dX3_rounds_16 (by decide) ?_
    exact V_iret F dX3_rounds_29 (⟨by rw [h2], hI.2, sameW.rfl' μ⟩)
  · rw [h1, h2]
    refine V_if_ge_t F (tgt := 19) dX3_rounds_11 (by decide) (by decide) ?_
    refine V_aload_n F dX3_rounds_19 rfl ?_
    refine V_getf F (q0 := 0) (j := 1) lk_X3_21 dX3_rounds_20 ig_X3 rfl rfl (by decide) rfl rfl ?_
    refine V_iload_n F dX3_rounds_23 rfl ?_
    refine V_iload_n F dX3_rounds_24 rfl ?_
    refine V_iload_n F dX3_rounds_25 rfl ?_
    refine V_callVN F (q0 := 2) (c_roundsOf hI hi hj hk z1 z2) mi_X0_roundsOf mm_X0_roundsOf nk_X3_94 dX3_rounds_26 (rmR (by omega)) rfl rfl (by decide) (Nat.le_of_ble_eq_true rfl) rfl rfl rfl (fun r μ' h => ?_)
    obtain ⟨rfl, hM1, hS1⟩ := h
    exact V_iret F dX3_rounds_29 (⟨rfl, hM1, hS1⟩)
theorem c_firstAttack (hI : XInv T n μ) (p q rel : Int32) : Ct (GS g) l (23) yX3_firstAttack cX3_firstAttack 5 (some .int) [.ref (g.1 0), .int p, .int q, .int rel] μ (XQ T n μ (rPair (fAtk T) T n p q rel)) := by
  have hn := hI.1.n24
  refine Ct.of (own := RX3) mi_X3_firstAttack rfl [some (.ref (g.1 0)), some (.int p), some (.int q), some (.int rel), none] (Nat.le_of_ble_eq_true rfl) rfl (fun p₀ e₀ s₀ m₀ b₀ h₀ c₀ F => ?_)
  refine V_aload_n F dX3_firstAttack_0 rfl ?_
  refine V_iload_n F dX3_firstAttack_1 rfl ?_
  refine V_iload_n F dX3_firstAttack_2 rfl ?_
  refine V_iload_n F dX3_firstAttack_3 rfl ?_
  refine V_callVi F (q0 := 0) (c_errorOfPair hI.1 p q rel) mi_X3_errorOfPair mm_X3_errorOfPair lk_X3_90 dX3_firstAttack_4 (rmR (by omega)) rfl rfl (by decide) (Nat.le_of_ble_eq_true rfl) rfl rfl rfl ?_
  refine V_istore F (lv' := [_, _, _, _, _]) dX3_firstAttack_7 (by decide) rfl rfl ?_
  refine V_iload F dX3_firstAttack_9 rfl ?_
  rcases rPair_cases (fAtk T) T (show n < 2 ^ 31 by omega) p q rel with ⟨h1, h2⟩ | ⟨i, j, k, hi, hj, hk, rfl, rfl, rfl, z1, z2, h1, h2⟩
  · skip
    refine V_if_ge_f F (tgt := 19) dX3_firstAttack_11 (by decide) (fun z => Int32.not_lt.mpr z h1) ?_
    refine V_iload F dX3_firstAttack_14 rfl ?_
    refine V_goto F (tgt := 29) dX3_firstAttack_16 (by decide) ?_
    exact V_iret F dX3_firstAttack_29 (⟨by rw [h2], hI.2, sameW.rfl' μ⟩)
  · rw [h1, h2]
    refine V_if_ge_t F (tgt := 19) dX3_firstAttack_11 (by decide) (by decide) ?_
    refine V_aload_n F dX3_firstAttack_19 rfl ?_
    refine V_getf F (q0 := 0) (j := 1) lk_X3_21 dX3_firstAttack_20 ig_X3 rfl rfl (by decide) rfl rfl ?_
    refine V_iload_n F dX3_firstAttack_23 rfl ?_
    refine V_iload_n F dX3_firstAttack_24 rfl ?_
    refine V_iload_n F dX3_firstAttack_25 rfl ?_
    refine V_callVN F (q0 := 2) (c_attackOf hI hi hj hk z1 z2) mi_X0_attackOf mm_X0_attackOf nk_X3_97 dX3_firstAttack_26 (rmR (by omega)) rfl rfl (by decide) (Nat.le_of_ble_eq_true rfl) rfl rfl rfl (fun r μ' h => ?_)
    obtain ⟨rfl, hM1, hS1⟩ := h
    exact V_iret F dX3_firstAttack_29 (⟨rfl, hM1, hS1⟩)
theorem c_lowest {rel p : Nat} (hI : XInv T n μ) (hp : p < n) (hrel : rel < 3) (h7p : T 7 p = 0) : Ct (GS g) l (22) yX3_lowestRelated cX3_lowestRelated 4 (some .int) [.ref (g.1 0), .int (nI p), .int (nI rel)] μ (XQ T n μ (nI (lows T rel p))) := by
  have hn := hI.1.n24
  have hW := hI.1.1
  refine Ct.of (own := RX3) mi_X3_lowestRelated rfl [some (.ref (g.1 0)), some (.int (nI p)), some (.int (nI rel)), none] (Nat.le_of_ble_eq_true rfl) rfl (fun p₀ e₀ s₀ m₀ b₀ h₀ c₀ F => ?_)
  have loop : ∀ (d q : Nat) (ν : Mem), q + d = p → lows T rel p = (((List.range d).map (q + ·)).find? (fun q => T 7 q == 0 && rnd T rel p q == 4)).getD p → Memo T n ν → sameW μ ν →
      V (GS g) p₀ l e₀ (rmD (22)) s₀ m₀ (List.toArray [.ref (g.1 0), .int (nI p), .int (nI rel)]) b₀ h₀ c₀ 4 0 0 (MQ b₀ (Qp (GS g) (XQ T n μ (nI (lows T rel p)))) (List.toArray [.ref (g.1 0), .int (nI p), .int (nI rel)]) s₀ 0 0 (gA (GS g))) 2 ([some (.ref (g.1 0)), some (.int (nI p)), some (.int (nI rel)), some (.int (nI q))]) ([]) (ν) := by
    intro d
    induction d with
    | zero =>
      intro q ν hq hres hM hS
      refine V_iload_n F dX3_lowestRelated_2 rfl ?_
      refine V_iload_n F dX3_lowestRelated_3 rfl ?_
      refine V_icmp_ge_N F (tgt := 41) dX3_lowestRelated_4 (by decide) (by omega) (by omega) (fun hc => ?_) (fun hc => ?_)
      · skip
        refine V_iload_n F dX3_lowestRelated_41 rfl ?_
        exact V_iret F dX3_lowestRelated_42 (⟨by rw [hres]; rfl, hM, hS⟩)
      · omega
    | succ d ih =>
      intro q ν hq hres hM hS
      have hIν := hI.of_W hS hM
      have n2 := hW.need (show q < n by omega)
      rw [range_map_succ, List.find?_cons] at hres
      have step : (T 7 q == 0 && rnd T rel p q == 4) = false → ∀ ν', Memo T n ν' → sameW μ ν' → V (GS g) p₀ l e₀ (rmD (22)) s₀ m₀ (List.toArray [.ref (g.1 0), .int (nI p), .int (nI rel)]) b₀ h₀ c₀ 4 0 0 (MQ b₀ (Qp (GS g) (XQ T n μ (nI (lows T rel p)))) (List.toArray [.ref (g.1 0), .int (nI p), .int (nI rel)]) s₀ 0 0 (gA (GS g))) 35 ([some (.ref (g.1 0)), some (.int (nI p)), some (.int (nI rel)), some (.int (nI q))]) ([]) (ν') := by
        intro hb ν' hM' hS'
        rw [hb] at hres
        refine V_iinc F (lv' := [_, _, _, _]) dX3_lowestRelated_35 rfl (by decide) rfl rfl ?_
        refine V_goto F (tgt := 2) dX3_lowestRelated_38 (by decide) ?_
        rw [show nI q + Int32.ofInt 1 = nI (q + 1) from nI_1 q]
        exact ih (q + 1) ν' (by omega) hres hM' hS'
      refine V_iload_n F dX3_lowestRelated_2 rfl ?_
      refine V_iload_n F dX3_lowestRelated_3 rfl ?_
      refine V_icmp_ge_N F (tgt := 41) dX3_lowestRelated_4 (by decide) (by omega) (by omega) (fun hc => ?_) (fun hc => ?_)
      · omega
      · skip
        refine V_aload_n F dX3_lowestRelated_7 rfl ?_
        refine V_getf F (q0 := 0) (j := 0) lk_X3_10 dX3_lowestRelated_8 ig_X3 rfl rfl (by decide) rfl rfl ?_
        refine V_iload_n F dX3_lowestRelated_11 rfl ?_
        refine V_callVNi F (q0 := 1) (c_isClosed (d := T 7 q) (show q < 24 by omega) (hIν.1.fld 7 rfl (by omega) (by omega)) (by omega)) mi_X2_isClosed mm_X2_isClosed nk_X3_75 dX3_lowestRelated_12 (rmR (by omega)) rfl rfl (by decide) (Nat.le_of_ble_eq_true rfl) rfl rfl rfl ?_
        by_cases z : T 7 q = 0
        · rw [if_pos z]
          refine V_if_eq_f F (tgt := 35) dX3_lowestRelated_15 (by decide) (by decide) ?_
          refine V_aload_n F dX3_lowestRelated_18 rfl ?_
          refine V_getf F (q0 := 0) (j := 1) lk_X3_21 dX3_lowestRelated_19 ig_X3 rfl rfl (by decide) rfl rfl ?_
          refine V_iload_n F dX3_lowestRelated_22 rfl ?_
          refine V_iload_n F dX3_lowestRelated_23 rfl ?_
          refine V_iload_n F dX3_lowestRelated_24 rfl ?_
          refine V_callVN F (q0 := 2) (c_roundsOf hIν hp (show q < n by omega) hrel h7p z) mi_X0_roundsOf mm_X0_roundsOf nk_X3_94 dX3_lowestRelated_25 (rmR (by omega)) rfl rfl (by decide) (Nat.le_of_ble_eq_true rfl) rfl rfl rfl (fun r μ' h => ?_)
          obtain ⟨rfl, hM1, hS1⟩ := h
          have hr := rnd_le (T := T) rel p q
          refine V_bipush F (v := (-4)) dX3_lowestRelated_28 (by decide) ?_
          unfold rdI
          by_cases h4 : rnd T rel p q = 4
          · rw [if_pos h4]
            refine V_icmp_ne_f F (tgt := 35) dX3_lowestRelated_30 (by decide) (by decide) ?_
            refine V_iload_n F dX3_lowestRelated_33 rfl ?_
            refine V_iret F dX3_lowestRelated_34 ⟨?_, hM1, hS.trans hS1⟩
            rw [hres, z, h4]
            rfl
          · rw [if_neg h4]
            refine V_icmp_ne_t F (tgt := 35) dX3_lowestRelated_30 (by decide) (fun z => by have : ∀ k, k < 4 → ¬ nI k = -4 := by { decide +kernel }; exact this _ (by omega) z) ?_
            exact step (by simp [h4]) _ hM1 (hS.trans hS1)
        · rw [if_neg z]
          refine V_if_eq_t F (tgt := 35) dX3_lowestRelated_15 (by decide) (by decide) ?_
          exact step (by simp [z]) _ hM hS
  refine V_iconst F (v := nI 0) dX3_lowestRelated_0 (by decide) ?_
  refine V_istore_n F (lv' := [_, _, _, _]) dX3_lowestRelated_1 (by decide) rfl rfl ?_
  exact loop p 0 μ (by omega) (by simp [lows]) hI.2 (sameW.rfl' μ)
theorem c_representative (hI : XInv T n μ) (p rel : Int32) : Ct (GS g) l (23) yX3_representative cX3_representative 4 (some .int) [.ref (g.1 0), .int p, .int rel] μ (XQ T n μ (rPair (fRep T) T n p p rel)) := by
  have hn := hI.1.n24
  refine Ct.of (own := RX3) mi_X3_representative rfl [some (.ref (g.1 0)), some (.int p), some (.int rel), none] (Nat.le_of_ble_eq_true rfl) rfl (fun p₀ e₀ s₀ m₀ b₀ h₀ c₀ F => ?_)
  refine V_aload_n F dX3_representative_0 rfl ?_
  refine V_iload_n F dX3_representative_1 rfl ?_
  refine V_iload_n F dX3_representative_2 rfl ?_
  refine V_iload_n F dX3_representative_3 rfl ?_
  refine V_callVi F (q0 := 0) (c_errorOfPair hI.1 p p rel) mi_X3_errorOfPair mm_X3_errorOfPair lk_X3_90 dX3_representative_4 (rmR (by omega)) rfl rfl (by decide) (Nat.le_of_ble_eq_true rfl) rfl rfl rfl ?_
  refine V_istore_n F (lv' := [_, _, _, _]) dX3_representative_7 (by decide) rfl rfl ?_
  refine V_iload_n F dX3_representative_8 rfl ?_
  rcases rPair_cases (fRep T) T (show n < 2 ^ 31 by omega) p p rel with ⟨h1, h2⟩ | ⟨i, j, k, hi, hj, hk, rfl, e2, rfl, z1, z2, h1, h2⟩
  · skip
    refine V_if_ge_f F (tgt := 16) dX3_representative_9 (by decide) (fun z => Int32.not_lt.mpr z h1) ?_
    refine V_iload_n F dX3_representative_12 rfl ?_
    refine V_goto F (tgt := 22) dX3_representative_13 (by decide) ?_
    exact V_iret F dX3_representative_22 (⟨by rw [h2], hI.2, sameW.rfl' μ⟩)
  · rw [h1, h2]
    refine V_if_ge_t F (tgt := 16) dX3_representative_9 (by decide) (by decide) ?_
    refine V_aload_n F dX3_representative_16 rfl ?_
    refine V_iload_n F dX3_representative_17 rfl ?_
    refine V_iload_n F dX3_representative_18 rfl ?_
    refine V_callV F (q0 := 0) (c_lowest hI hi hk z1) mi_X3_lowestRelated mm_X3_lowestRelated lk_X3_100 dX3_representative_19 (rmR (by omega)) rfl rfl (by decide) (Nat.le_of_ble_eq_true rfl) rfl rfl rfl (fun r μ' h => ?_)
    obtain ⟨rfl, hM1, hS1⟩ := h
    exact V_iret F dX3_representative_22 (⟨rfl, hM1, hS1⟩)
theorem lows_le (rel p : Nat) : lows T rel p ≤ p := by
  unfold lows
  cases h : (List.range p).find? (fun q => T 7 q == 0 && rnd T rel p q == 4) with
  | none => exact Nat.le_refl _
  | some q =>
    have := List.mem_range.mp (List.mem_of_find?_eq_some h)
    show q ≤ p
    omega
theorem c_classCount (hI : XInv T n μ) (rel : Int32) : Ct (GS g) l (23) yX3_classCount cX3_classCount 4 (some .int) [.ref (g.1 0), .int rel] μ (XQ T n μ (rCls T n rel)) := by
  have hn := hI.1.n24
  have hW := hI.1.1
  refine Ct.of (own := RX3) mi_X3_classCount rfl [some (.ref (g.1 0)), some (.int rel), none, none] (Nat.le_of_ble_eq_true rfl) rfl (fun p₀ e₀ s₀ m₀ b₀ h₀ c₀ F => ?_)
  refine V_iload_n F dX3_classCount_0 rfl ?_
  cases h1 : pj 3 rel with
  | none =>
    have e0 : rCls T n rel = -1 := by unfold rCls; rw [h1]
    rw [e0]
    refine V_callSi F (c_isRel_f (pj_none h1 (by omega))) mi_X3_isRelation ms_X3_isRelation lk_X3_103 dX3_classCount_1 (rmR (by omega)) rfl rfl (by decide) (Nat.le_of_ble_eq_true rfl) ?_
    refine V_if_ne_f F (tgt := 9) dX3_classCount_4 (by decide) (by decide) ?_
    refine V_iconst F (v := (-1)) dX3_classCount_7 (by decide) ?_
    exact V_iret F dX3_classCount_8 (⟨rfl, hI.2, sameW.rfl' μ⟩)
  | some k =>
    obtain ⟨hk, rfl⟩ := pj_some h1 (by omega)
    have e0 : rCls T n (nI k) = nI (cls T n k) := by unfold rCls; rw [h1]
    rw [e0]
    refine V_callSi F (c_isRel_t hk) mi_X3_isRelation ms_X3_isRelation lk_X3_103 dX3_classCount_1 (rmR (by omega)) rfl rfl (by decide) (Nat.le_of_ble_eq_true rfl) ?_
    refine V_if_ne_t F (tgt := 9) dX3_classCount_4 (by decide) (by decide) ?_
    have loop : ∀ (d p cnt : Nat) (ν : Mem), p + d = n → cnt ≤ p → cnt = ((List.range p).filter (fun p => T 7 p == 0 && lows T k p == p)).length → Memo T n ν → sameW μ ν →
        V (GS g) p₀ l e₀ (rmD (23)) s₀ m₀ (List.toArray [.ref (g.1 0), .int (nI k)]) b₀ h₀ c₀ 4 0 0 (MQ b₀ (Qp (GS g) (XQ T n μ (nI (cls T n k)))) (List.toArray [.ref (g.1 0), .int (nI k)]) s₀ 0 0 (gA (GS g))) 13 ([some (.ref (g.1 0)), some (.int (nI k)), some (.int (nI cnt)), some (.int (nI p))]) ([]) (ν) := by
      intro d
      induction d with
      | zero =>
        intro p cnt ν hp hle hcnt hM hS
        have hIν := hI.of_W hS hM
        refine V_iload_n F dX3_classCount_13 rfl ?_
        refine V_aload_n F dX3_classCount_14 rfl ?_
        refine V_getf F (q0 := 0) (j := 0) lk_X3_10 dX3_classCount_15 ig_X3 rfl rfl (by decide) rfl rfl ?_
        refine V_getN F (q0 := 1) (j := 0) nk_X3_36 dX3_classCount_18 ig_X2 rfl rfl (by decide) rfl rfl ?_
        refine V_val F (hIν.1.2.1) ?_
        refine V_icmp_ge_N F (tgt := 54) dX3_classCount_21 (by decide) (by omega) (by omega) (fun hc => ?_) (fun hc => ?_)
        · skip
          refine V_iload_n F dX3_classCount_54 rfl ?_
          exact V_iret F dX3_classCount_55 (⟨by rw [hcnt, show p = n by omega]; rfl, hM, hS⟩)
        · omega
      | succ d ih =>
        intro p cnt ν hp hle hcnt hM hS
        have hIν := hI.of_W hS hM
        have n2 := hW.need (show p < n by omega)
        have e : (List.range (p + 1)).filter (fun p => T 7 p == 0 && lows T k p == p) = (List.range p).filter (fun p => T 7 p == 0 && lows T k p == p) ++ (if (T 7 p == 0 && lows T k p == p) = true then [p] else []) := by
          rw [List.range_succ, List.filter_append]
          congr 1
          simp only [List.filter_cons, List.filter_nil]
        have skip_ : (T 7 p == 0 && lows T k p == p) = false → ∀ ν', Memo T n ν' → sameW μ ν' → V (GS g) p₀ l e₀ (rmD (23)) s₀ m₀ (List.toArray [.ref (g.1 0), .int (nI k)]) b₀ h₀ c₀ 4 0 0 (MQ b₀ (Qp (GS g) (XQ T n μ (nI (cls T n k)))) (List.toArray [.ref (g.1 0), .int (nI k)]) s₀ 0 0 (gA (GS g))) 48 ([some (.ref (g.1 0)), some (.int (nI k)), some (.int (nI cnt)), some (.int (nI p))]) ([]) (ν') := by
          intro hb ν' hM' hS'
          refine V_iinc F (lv' := [_, _, _, _]) dX3_classCount_48 rfl (by decide) rfl rfl ?_
          refine V_goto F (tgt := 13) dX3_classCount_51 (by decide) ?_
          rw [show nI p + Int32.ofInt 1 = nI (p + 1) from nI_1 p]
          refine ih (p + 1) cnt ν' (by omega) (by omega) ?_ hM' hS'
          rw [e, hb, hcnt]
          simp
        refine V_iload_n F dX3_classCount_13 rfl ?_
        refine V_aload_n F dX3_classCount_14 rfl ?_
        refine V_getf F (q0 := 0) (j := 0) lk_X3_10 dX3_classCount_15 ig_X3 rfl rfl (by decide) rfl rfl ?_
        refine V_getN F (q0 := 1) (j := 0) nk_X3_36 dX3_classCount_18 ig_X2 rfl rfl (by decide) rfl rfl ?_
        refine V_val F (hIν.1.2.1) ?_
        refine V_icmp_ge_N F (tgt := 54) dX3_classCount_21 (by decide) (by omega) (by omega) (fun hc => ?_) (fun hc => ?_)
        · omega
        · skip
          refine V_aload_n F dX3_classCount_24 rfl ?_
          refine V_getf F (q0 := 0) (j := 0) lk_X3_10 dX3_classCount_25 ig_X3 rfl rfl (by decide) rfl rfl ?_
          refine V_iload_n F dX3_classCount_28 rfl ?_
          refine V_callVNi F (q0 := 1) (c_isClosed (d := T 7 p) (show p < 24 by omega) (hIν.1.fld 7 rfl (by omega) (by omega)) (by omega)) mi_X2_isClosed mm_X2_isClosed nk_X3_75 dX3_classCount_29 (rmR (by omega)) rfl rfl (by decide) (Nat.le_of_ble_eq_true rfl) rfl rfl rfl ?_
          by_cases z : T 7 p = 0
          · rw [if_pos z]
            refine V_if_eq_f F (tgt := 48) dX3_classCount_32 (by decide) (by decide) ?_
            refine V_aload_n F dX3_classCount_35 rfl ?_
            refine V_iload_n F dX3_classCount_36 rfl ?_
            refine V_iload_n F dX3_classCount_37 rfl ?_
            refine V_callV F (q0 := 0) (c_lowest hIν (show p < n by omega) hk z) mi_X3_lowestRelated mm_X3_lowestRelated lk_X3_100 dX3_classCount_38 (rmR (by omega)) rfl rfl (by decide) (Nat.le_of_ble_eq_true rfl) rfl rfl rfl (fun r μ' h => ?_)
            obtain ⟨rfl, hM1, hS1⟩ := h
            have hlo := lows_le (T := T) k p
            refine V_iload_n F dX3_classCount_41 rfl ?_
            refine V_icmp_ne_N F (tgt := 48) dX3_classCount_42 (by decide) (by omega) (by omega) (fun hx => ?_) (fun hx => ?_)
            · exact skip_ (by simp [hx]) _ hM1 (hS.trans hS1)
            · have hx := Classical.not_not.mp hx
              refine V_iinc F (lv' := [_, _, _, _]) dX3_classCount_45 rfl (by decide) rfl rfl ?_
              refine V_iinc F (lv' := [_, _, _, _]) dX3_classCount_48 rfl (by decide) rfl rfl ?_
              refine V_goto F (tgt := 13) dX3_classCount_51 (by decide) ?_
              rw [show nI p + Int32.ofInt 1 = nI (p + 1) from nI_1 p, show nI cnt + Int32.ofInt 1 = nI (cnt + 1) from nI_1 cnt]
              refine ih (p + 1) (cnt + 1) _ (by omega) (by omega) ?_ hM1 (hS.trans hS1)
              rw [e, hcnt, z, hx]
              simp
          · rw [if_neg z]
            refine V_if_eq_t F (tgt := 48) dX3_classCount_32 (by decide) (by decide) ?_
            exact skip_ (by simp [z]) _ hM hS
    refine V_iconst F (v := nI 0) dX3_classCount_9 (by decide) ?_
    refine V_istore_n F (lv' := [_, _, _, _]) dX3_classCount_10 (by decide) rfl rfl ?_
    refine V_iconst F (v := nI 0) dX3_classCount_11 (by decide) ?_
    refine V_istore_n F (lv' := [_, _, _, _]) dX3_classCount_12 (by decide) rfl rfl ?_
    exact loop n 0 0 μ (by omega) (Nat.le_refl _) rfl hI.2 (sameW.rfl' μ)
end CMP
end
section
theorem zz_end : True := trivial
end
