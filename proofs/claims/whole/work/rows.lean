section
-- ===== PART A: goes FIRST, ahead of the names: the tables' words, and 'selects' of the private methods out of them =====
/-- a private method of a class that the tables say can be made, by its rows of tables_1 -/
def lw_okq (q : MethodName × Nat) : Prop := (q.1.cls ≠ "java/lang/invoke/MethodHandle" ∧ q.1.cls ≠ "java/lang/invoke/VarHandle") ∧ Cond.instantiable q.1.cls q.2 ∈ tables_1 ∧ Cond.privateMethod q.1 ∈ tables_1 ∧ Cond.instanceMethod q.1 ∈ tables_1
theorem lw_p0 : lw_okq (⟨"LieNights", "sheetOf", "(I)LLieNights$Sheet;"⟩, 10) := ⟨⟨by decide +kernel, by decide +kernel⟩, List.mem_of_getElem? (i := 9) (by decide +kernel), List.mem_of_getElem? (i := 117) (by decide +kernel), List.mem_of_getElem? (i := 118) (by decide +kernel)⟩
theorem lw_p1 : lw_okq (⟨"LieNights", "faulted", "(I)I"⟩, 10) := ⟨⟨by decide +kernel, by decide +kernel⟩, List.mem_of_getElem? (i := 9) (by decide +kernel), List.mem_of_getElem? (i := 137) (by decide +kernel), List.mem_of_getElem? (i := 138) (by decide +kernel)⟩
theorem lw_p2 : lw_okq (⟨"LieNights$Secret", "takeCode", "(II)I"⟩, 6) := ⟨⟨by decide +kernel, by decide +kernel⟩, List.mem_of_getElem? (i := 42) (by decide +kernel), List.mem_of_getElem? (i := 152) (by decide +kernel), List.mem_of_getElem? (i := 153) (by decide +kernel)⟩
theorem lw_p3 : lw_okq (⟨"LieNights$Secret", "takeKind", "(I)I"⟩, 6) := ⟨⟨by decide +kernel, by decide +kernel⟩, List.mem_of_getElem? (i := 42) (by decide +kernel), List.mem_of_getElem? (i := 159) (by decide +kernel), List.mem_of_getElem? (i := 160) (by decide +kernel)⟩
theorem lw_p4 : lw_okq (⟨"LieNights$Secret", "takePlace", "(I)I"⟩, 6) := ⟨⟨by decide +kernel, by decide +kernel⟩, List.mem_of_getElem? (i := 42) (by decide +kernel), List.mem_of_getElem? (i := 166) (by decide +kernel), List.mem_of_getElem? (i := 167) (by decide +kernel)⟩
theorem lw_p5 : lw_okq (⟨"LieNights$Secret", "takeGrowth", "(I)I"⟩, 6) := ⟨⟨by decide +kernel, by decide +kernel⟩, List.mem_of_getElem? (i := 42) (by decide +kernel), List.mem_of_getElem? (i := 173) (by decide +kernel), List.mem_of_getElem? (i := 174) (by decide +kernel)⟩
theorem lw_p6 : lw_okq (⟨"LieNights$Secret", "takeWeight", "(I)I"⟩, 6) := ⟨⟨by decide +kernel, by decide +kernel⟩, List.mem_of_getElem? (i := 42) (by decide +kernel), List.mem_of_getElem? (i := 177) (by decide +kernel), List.mem_of_getElem? (i := 178) (by decide +kernel)⟩
theorem lw_p7 : lw_okq (⟨"LieNights", "takeSpare", "()V"⟩, 10) := ⟨⟨by decide +kernel, by decide +kernel⟩, List.mem_of_getElem? (i := 9) (by decide +kernel), List.mem_of_getElem? (i := 181) (by decide +kernel), List.mem_of_getElem? (i := 182) (by decide +kernel)⟩
theorem lw_p8 : lw_okq (⟨"LieNights", "isAnswer", "(I)Z"⟩, 10) := ⟨⟨by decide +kernel, by decide +kernel⟩, List.mem_of_getElem? (i := 9) (by decide +kernel), List.mem_of_getElem? (i := 193) (by decide +kernel), List.mem_of_getElem? (i := 194) (by decide +kernel)⟩
theorem lw_p9 : lw_okq (⟨"LieNights", "noSecret", "()Z"⟩, 10) := ⟨⟨by decide +kernel, by decide +kernel⟩, List.mem_of_getElem? (i := 9) (by decide +kernel), List.mem_of_getElem? (i := 218) (by decide +kernel), List.mem_of_getElem? (i := 219) (by decide +kernel)⟩
theorem lw_p10 : lw_okq (⟨"LieNights", "areAnswers", "(LLieNights$Sheet;II)Z"⟩, 10) := ⟨⟨by decide +kernel, by decide +kernel⟩, List.mem_of_getElem? (i := 9) (by decide +kernel), List.mem_of_getElem? (i := 245) (by decide +kernel), List.mem_of_getElem? (i := 246) (by decide +kernel)⟩
theorem lw_p11 : lw_okq (⟨"LieNights", "mayBe", "(ILLieNights$Sheet;II)I"⟩, 10) := ⟨⟨by decide +kernel, by decide +kernel⟩, List.mem_of_getElem? (i := 9) (by decide +kernel), List.mem_of_getElem? (i := 250) (by decide +kernel), List.mem_of_getElem? (i := 251) (by decide +kernel)⟩
theorem lw_p12 : lw_okq (⟨"LieNights", "boundOn", "(ILLieNights$Sheet;II)I"⟩, 10) := ⟨⟨by decide +kernel, by decide +kernel⟩, List.mem_of_getElem? (i := 9) (by decide +kernel), List.mem_of_getElem? (i := 263) (by decide +kernel), List.mem_of_getElem? (i := 264) (by decide +kernel)⟩
theorem lw_p13 : lw_okq (⟨"LieNights", "planned", "()LLieNights$Plan;"⟩, 10) := ⟨⟨by decide +kernel, by decide +kernel⟩, List.mem_of_getElem? (i := 9) (by decide +kernel), List.mem_of_getElem? (i := 274) (by decide +kernel), List.mem_of_getElem? (i := 275) (by decide +kernel)⟩
theorem lw_p14 : lw_okq (⟨"LieNights$Plan", "tryAsking", "(II)V"⟩, 5) := ⟨⟨by decide +kernel, by decide +kernel⟩, List.mem_of_getElem? (i := 19) (by decide +kernel), List.mem_of_getElem? (i := 286) (by decide +kernel), List.mem_of_getElem? (i := 287) (by decide +kernel)⟩
theorem lw_p15 : lw_okq (⟨"LieNights", "truths", "()I"⟩, 10) := ⟨⟨by decide +kernel, by decide +kernel⟩, List.mem_of_getElem? (i := 9) (by decide +kernel), List.mem_of_getElem? (i := 367) (by decide +kernel), List.mem_of_getElem? (i := 368) (by decide +kernel)⟩
def lw_privs_1 : List (MethodName × Nat) := [(⟨"LieNights", "sheetOf", "(I)LLieNights$Sheet;"⟩, 10), (⟨"LieNights", "faulted", "(I)I"⟩, 10), (⟨"LieNights$Secret", "takeCode", "(II)I"⟩, 6), (⟨"LieNights$Secret", "takeKind", "(I)I"⟩, 6), (⟨"LieNights$Secret", "takePlace", "(I)I"⟩, 6), (⟨"LieNights$Secret", "takeGrowth", "(I)I"⟩, 6), (⟨"LieNights$Secret", "takeWeight", "(I)I"⟩, 6), (⟨"LieNights", "takeSpare", "()V"⟩, 10), (⟨"LieNights", "isAnswer", "(I)Z"⟩, 10), (⟨"LieNights", "noSecret", "()Z"⟩, 10), (⟨"LieNights", "areAnswers", "(LLieNights$Sheet;II)Z"⟩, 10), (⟨"LieNights", "mayBe", "(ILLieNights$Sheet;II)I"⟩, 10), (⟨"LieNights", "boundOn", "(ILLieNights$Sheet;II)I"⟩, 10), (⟨"LieNights", "planned", "()LLieNights$Plan;"⟩, 10), (⟨"LieNights$Plan", "tryAsking", "(II)V"⟩, 5), (⟨"LieNights", "truths", "()I"⟩, 10)]
theorem lw_r1 : ∀ q ∈ lw_privs_1, lw_okq q := List.forall_mem_cons.mpr ⟨lw_p0, List.forall_mem_cons.mpr ⟨lw_p1, List.forall_mem_cons.mpr ⟨lw_p2, List.forall_mem_cons.mpr ⟨lw_p3, List.forall_mem_cons.mpr ⟨lw_p4, List.forall_mem_cons.mpr ⟨lw_p5, List.forall_mem_cons.mpr ⟨lw_p6, List.forall_mem_cons.mpr ⟨lw_p7, List.forall_mem_cons.mpr ⟨lw_p8, List.forall_mem_cons.mpr ⟨lw_p9, List.forall_mem_cons.mpr ⟨lw_p10, List.forall_mem_cons.mpr ⟨lw_p11, List.forall_mem_cons.mpr ⟨lw_p12, List.forall_mem_cons.mpr ⟨lw_p13, List.forall_mem_cons.mpr ⟨lw_p14, List.forall_mem_cons.mpr ⟨lw_p15, fun _ h => absurd h List.not_mem_nil⟩⟩⟩⟩⟩⟩⟩⟩⟩⟩⟩⟩⟩⟩⟩⟩
theorem lw_p16 : lw_okq (⟨"LieNights", "areReadingsSo", "(I)Z"⟩, 10) := ⟨⟨by decide +kernel, by decide +kernel⟩, List.mem_of_getElem? (i := 9) (by decide +kernel), List.mem_of_getElem? (i := 371) (by decide +kernel), List.mem_of_getElem? (i := 372) (by decide +kernel)⟩
theorem lw_p17 : lw_okq (⟨"LieNights", "isBoundWithin", "(LLieNights$Plan;II)Z"⟩, 10) := ⟨⟨by decide +kernel, by decide +kernel⟩, List.mem_of_getElem? (i := 9) (by decide +kernel), List.mem_of_getElem? (i := 392) (by decide +kernel), List.mem_of_getElem? (i := 393) (by decide +kernel)⟩
theorem lw_p18 : lw_okq (⟨"LieNights$Sheet", "cut", "(I)I"⟩, 3) := ⟨⟨by decide +kernel, by decide +kernel⟩, List.mem_of_getElem? (i := 66) (by decide +kernel), List.mem_of_getElem? (i := 422) (by decide +kernel), List.mem_of_getElem? (i := 423) (by decide +kernel)⟩
theorem lw_p19 : lw_okq (⟨"LieNights", "tellSly", "(I)I"⟩, 10) := ⟨⟨by decide +kernel, by decide +kernel⟩, List.mem_of_getElem? (i := 9) (by decide +kernel), List.mem_of_getElem? (i := 447) (by decide +kernel), List.mem_of_getElem? (i := 448) (by decide +kernel)⟩
theorem lw_p20 : lw_okq (⟨"LieNights", "leave", "(I)V"⟩, 10) := ⟨⟨by decide +kernel, by decide +kernel⟩, List.mem_of_getElem? (i := 9) (by decide +kernel), List.mem_of_getElem? (i := 451) (by decide +kernel), List.mem_of_getElem? (i := 452) (by decide +kernel)⟩
theorem lw_p21 : lw_okq (⟨"LieNights", "tellPlain", "(I)I"⟩, 10) := ⟨⟨by decide +kernel, by decide +kernel⟩, List.mem_of_getElem? (i := 9) (by decide +kernel), List.mem_of_getElem? (i := 455) (by decide +kernel), List.mem_of_getElem? (i := 456) (by decide +kernel)⟩
theorem lw_p22 : lw_okq (⟨"LieNights", "tellVain", "(I)I"⟩, 10) := ⟨⟨by decide +kernel, by decide +kernel⟩, List.mem_of_getElem? (i := 9) (by decide +kernel), List.mem_of_getElem? (i := 459) (by decide +kernel), List.mem_of_getElem? (i := 460) (by decide +kernel)⟩
theorem lw_p23 : lw_okq (⟨"LieNights", "whisperVain", "()I"⟩, 10) := ⟨⟨by decide +kernel, by decide +kernel⟩, List.mem_of_getElem? (i := 9) (by decide +kernel), List.mem_of_getElem? (i := 467) (by decide +kernel), List.mem_of_getElem? (i := 468) (by decide +kernel)⟩
theorem lw_p24 : lw_okq (⟨"LieNights", "whisperLent", "(I)I"⟩, 10) := ⟨⟨by decide +kernel, by decide +kernel⟩, List.mem_of_getElem? (i := 9) (by decide +kernel), List.mem_of_getElem? (i := 471) (by decide +kernel), List.mem_of_getElem? (i := 472) (by decide +kernel)⟩
theorem lw_p25 : lw_okq (⟨"LieNightsModel", "against", "(IIII)I"⟩, 23) := ⟨⟨by decide +kernel, by decide +kernel⟩, List.mem_of_getElem? (i := 491) (by decide +kernel), List.mem_of_getElem? (i := 580) (by decide +kernel), List.mem_of_getElem? (i := 581) (by decide +kernel)⟩
theorem lw_p26 : lw_okq (⟨"LieNightsModel", "fails", "(I)I"⟩, 23) := ⟨⟨by decide +kernel, by decide +kernel⟩, List.mem_of_getElem? (i := 491) (by decide +kernel), List.mem_of_getElem? (i := 584) (by decide +kernel), List.mem_of_getElem? (i := 585) (by decide +kernel)⟩
theorem lw_p27 : lw_okq (⟨"LieNightsModel", "readSecret", "(I)Z"⟩, 23) := ⟨⟨by decide +kernel, by decide +kernel⟩, List.mem_of_getElem? (i := 491) (by decide +kernel), List.mem_of_getElem? (i := 588) (by decide +kernel), List.mem_of_getElem? (i := 589) (by decide +kernel)⟩
theorem lw_p28 : lw_okq (⟨"LieNightsModel", "isSign", "(II)Z"⟩, 23) := ⟨⟨by decide +kernel, by decide +kernel⟩, List.mem_of_getElem? (i := 491) (by decide +kernel), List.mem_of_getElem? (i := 592) (by decide +kernel), List.mem_of_getElem? (i := 593) (by decide +kernel)⟩
theorem lw_p29 : lw_okq (⟨"LieNightsModel", "readAnswer", "(I)Z"⟩, 23) := ⟨⟨by decide +kernel, by decide +kernel⟩, List.mem_of_getElem? (i := 491) (by decide +kernel), List.mem_of_getElem? (i := 596) (by decide +kernel), List.mem_of_getElem? (i := 597) (by decide +kernel)⟩
theorem lw_p30 : lw_okq (⟨"LieNightsModel", "digit", "(II)I"⟩, 23) := ⟨⟨by decide +kernel, by decide +kernel⟩, List.mem_of_getElem? (i := 491) (by decide +kernel), List.mem_of_getElem? (i := 600) (by decide +kernel), List.mem_of_getElem? (i := 601) (by decide +kernel)⟩
theorem lw_p31 : lw_okq (⟨"LieNightsModel", "readThePillars", "(I)Z"⟩, 23) := ⟨⟨by decide +kernel, by decide +kernel⟩, List.mem_of_getElem? (i := 491) (by decide +kernel), List.mem_of_getElem? (i := 604) (by decide +kernel), List.mem_of_getElem? (i := 605) (by decide +kernel)⟩
def lw_privs_2 : List (MethodName × Nat) := [(⟨"LieNights", "areReadingsSo", "(I)Z"⟩, 10), (⟨"LieNights", "isBoundWithin", "(LLieNights$Plan;II)Z"⟩, 10), (⟨"LieNights$Sheet", "cut", "(I)I"⟩, 3), (⟨"LieNights", "tellSly", "(I)I"⟩, 10), (⟨"LieNights", "leave", "(I)V"⟩, 10), (⟨"LieNights", "tellPlain", "(I)I"⟩, 10), (⟨"LieNights", "tellVain", "(I)I"⟩, 10), (⟨"LieNights", "whisperVain", "()I"⟩, 10), (⟨"LieNights", "whisperLent", "(I)I"⟩, 10), (⟨"LieNightsModel", "against", "(IIII)I"⟩, 23), (⟨"LieNightsModel", "fails", "(I)I"⟩, 23), (⟨"LieNightsModel", "readSecret", "(I)Z"⟩, 23), (⟨"LieNightsModel", "isSign", "(II)Z"⟩, 23), (⟨"LieNightsModel", "readAnswer", "(I)Z"⟩, 23), (⟨"LieNightsModel", "digit", "(II)I"⟩, 23), (⟨"LieNightsModel", "readThePillars", "(I)Z"⟩, 23)]
theorem lw_r2 : ∀ q ∈ lw_privs_2, lw_okq q := List.forall_mem_cons.mpr ⟨lw_p16, List.forall_mem_cons.mpr ⟨lw_p17, List.forall_mem_cons.mpr ⟨lw_p18, List.forall_mem_cons.mpr ⟨lw_p19, List.forall_mem_cons.mpr ⟨lw_p20, List.forall_mem_cons.mpr ⟨lw_p21, List.forall_mem_cons.mpr ⟨lw_p22, List.forall_mem_cons.mpr ⟨lw_p23, List.forall_mem_cons.mpr ⟨lw_p24, List.forall_mem_cons.mpr ⟨lw_p25, List.forall_mem_cons.mpr ⟨lw_p26, List.forall_mem_cons.mpr ⟨lw_p27, List.forall_mem_cons.mpr ⟨lw_p28, List.forall_mem_cons.mpr ⟨lw_p29, List.forall_mem_cons.mpr ⟨lw_p30, List.forall_mem_cons.mpr ⟨lw_p31, fun _ h => absurd h List.not_mem_nil⟩⟩⟩⟩⟩⟩⟩⟩⟩⟩⟩⟩⟩⟩⟩⟩
theorem lw_p32 : lw_okq (⟨"LieNightsModel", "isAnswer", "(I)Z"⟩, 23) := ⟨⟨by decide +kernel, by decide +kernel⟩, List.mem_of_getElem? (i := 491) (by decide +kernel), List.mem_of_getElem? (i := 612) (by decide +kernel), List.mem_of_getElem? (i := 613) (by decide +kernel)⟩
theorem lw_p33 : lw_okq (⟨"LieNightsModel", "shownBy", "(II)I"⟩, 23) := ⟨⟨by decide +kernel, by decide +kernel⟩, List.mem_of_getElem? (i := 491) (by decide +kernel), List.mem_of_getElem? (i := 628) (by decide +kernel), List.mem_of_getElem? (i := 629) (by decide +kernel)⟩
theorem lw_p34 : lw_okq (⟨"LieNightsModel", "tellNights", "(IIII)I"⟩, 23) := ⟨⟨by decide +kernel, by decide +kernel⟩, List.mem_of_getElem? (i := 491) (by decide +kernel), List.mem_of_getElem? (i := 636) (by decide +kernel), List.mem_of_getElem? (i := 637) (by decide +kernel)⟩
theorem lw_p35 : lw_okq (⟨"LieNightsModel", "group", "(III)I"⟩, 23) := ⟨⟨by decide +kernel, by decide +kernel⟩, List.mem_of_getElem? (i := 491) (by decide +kernel), List.mem_of_getElem? (i := 640) (by decide +kernel), List.mem_of_getElem? (i := 641) (by decide +kernel)⟩
theorem lw_p36 : lw_okq (⟨"LieNightsModel", "isSet", "(I)Z"⟩, 23) := ⟨⟨by decide +kernel, by decide +kernel⟩, List.mem_of_getElem? (i := 491) (by decide +kernel), List.mem_of_getElem? (i := 648) (by decide +kernel), List.mem_of_getElem? (i := 649) (by decide +kernel)⟩
theorem lw_p37 : lw_okq (⟨"LieNightsModel", "findWorst", "(I)V"⟩, 23) := ⟨⟨by decide +kernel, by decide +kernel⟩, List.mem_of_getElem? (i := 491) (by decide +kernel), List.mem_of_getElem? (i := 652) (by decide +kernel), List.mem_of_getElem? (i := 653) (by decide +kernel)⟩
theorem lw_p38 : lw_okq (⟨"LieNightsModel", "worstBy", "(II)I"⟩, 23) := ⟨⟨by decide +kernel, by decide +kernel⟩, List.mem_of_getElem? (i := 491) (by decide +kernel), List.mem_of_getElem? (i := 656) (by decide +kernel), List.mem_of_getElem? (i := 657) (by decide +kernel)⟩
theorem lw_p39 : lw_okq (⟨"LieNightsModel", "sumBy", "(II)I"⟩, 23) := ⟨⟨by decide +kernel, by decide +kernel⟩, List.mem_of_getElem? (i := 491) (by decide +kernel), List.mem_of_getElem? (i := 660) (by decide +kernel), List.mem_of_getElem? (i := 661) (by decide +kernel)⟩
theorem lw_p40 : lw_okq (⟨"LieNightsModel", "askOf", "(I)I"⟩, 23) := ⟨⟨by decide +kernel, by decide +kernel⟩, List.mem_of_getElem? (i := 491) (by decide +kernel), List.mem_of_getElem? (i := 671) (by decide +kernel), List.mem_of_getElem? (i := 672) (by decide +kernel)⟩
theorem lw_p41 : lw_okq (⟨"LieNightsModel", "leftSet", "()I"⟩, 23) := ⟨⟨by decide +kernel, by decide +kernel⟩, List.mem_of_getElem? (i := 491) (by decide +kernel), List.mem_of_getElem? (i := 707) (by decide +kernel), List.mem_of_getElem? (i := 708) (by decide +kernel)⟩
theorem lw_p42 : lw_okq (⟨"LieNightsModel", "isBound", "(II)Z"⟩, 23) := ⟨⟨by decide +kernel, by decide +kernel⟩, List.mem_of_getElem? (i := 491) (by decide +kernel), List.mem_of_getElem? (i := 723) (by decide +kernel), List.mem_of_getElem? (i := 724) (by decide +kernel)⟩
theorem lw_p43 : lw_okq (⟨"LieNightsModel", "lost", "(I)J"⟩, 23) := ⟨⟨by decide +kernel, by decide +kernel⟩, List.mem_of_getElem? (i := 491) (by decide +kernel), List.mem_of_getElem? (i := 743) (by decide +kernel), List.mem_of_getElem? (i := 744) (by decide +kernel)⟩
theorem lw_p44 : lw_okq (⟨"LieNightsModel", "begins", "(I)V"⟩, 23) := ⟨⟨by decide +kernel, by decide +kernel⟩, List.mem_of_getElem? (i := 491) (by decide +kernel), List.mem_of_getElem? (i := 755) (by decide +kernel), List.mem_of_getElem? (i := 756) (by decide +kernel)⟩
def lw_privs_3 : List (MethodName × Nat) := [(⟨"LieNightsModel", "isAnswer", "(I)Z"⟩, 23), (⟨"LieNightsModel", "shownBy", "(II)I"⟩, 23), (⟨"LieNightsModel", "tellNights", "(IIII)I"⟩, 23), (⟨"LieNightsModel", "group", "(III)I"⟩, 23), (⟨"LieNightsModel", "isSet", "(I)Z"⟩, 23), (⟨"LieNightsModel", "findWorst", "(I)V"⟩, 23), (⟨"LieNightsModel", "worstBy", "(II)I"⟩, 23), (⟨"LieNightsModel", "sumBy", "(II)I"⟩, 23), (⟨"LieNightsModel", "askOf", "(I)I"⟩, 23), (⟨"LieNightsModel", "leftSet", "()I"⟩, 23), (⟨"LieNightsModel", "isBound", "(II)Z"⟩, 23), (⟨"LieNightsModel", "lost", "(I)J"⟩, 23), (⟨"LieNightsModel", "begins", "(I)V"⟩, 23)]
theorem lw_r3 : ∀ q ∈ lw_privs_3, lw_okq q := List.forall_mem_cons.mpr ⟨lw_p32, List.forall_mem_cons.mpr ⟨lw_p33, List.forall_mem_cons.mpr ⟨lw_p34, List.forall_mem_cons.mpr ⟨lw_p35, List.forall_mem_cons.mpr ⟨lw_p36, List.forall_mem_cons.mpr ⟨lw_p37, List.forall_mem_cons.mpr ⟨lw_p38, List.forall_mem_cons.mpr ⟨lw_p39, List.forall_mem_cons.mpr ⟨lw_p40, List.forall_mem_cons.mpr ⟨lw_p41, List.forall_mem_cons.mpr ⟨lw_p42, List.forall_mem_cons.mpr ⟨lw_p43, List.forall_mem_cons.mpr ⟨lw_p44, fun _ h => absurd h List.not_mem_nil⟩⟩⟩⟩⟩⟩⟩⟩⟩⟩⟩⟩⟩
def lw_privs : List (MethodName × Nat) := lw_privs_1 ++ (lw_privs_2 ++ (lw_privs_3))
def lw_tbl : List Cond := k2_sels lw_privs ++ tables_1
theorem lw_privs_ok : ∀ q ∈ lw_privs, lw_okq q := by
  show ∀ q ∈ lw_privs_1 ++ (lw_privs_2 ++ (lw_privs_3)), lw_okq q
  exact List.forall_mem_append.mpr ⟨lw_r1, List.forall_mem_append.mpr ⟨lw_r2, lw_r3⟩⟩
-- ===== end of PART A; then your names; then what follows =====
end
section
/-! ===== BEGIN words of one list among another's, by their places ===== -/
theorem goodIn_r {big : List Cond} (ws : List Cond) (ps : List Nat) (hp : ws = ps.filterMap (fun i => big[i]?)) (h : ws.all goodWord = true) : GoodIn big ws := by
  intro w hw
  have h1 := List.all_eq_true.mp h w hw
  rw [hp] at hw
  obtain ⟨i, -, hi⟩ := List.mem_filterMap.mp hw
  have hm : w ∈ big := by first | exact List.mem_of_getElem? hi | exact List.getElem?_mem hi
  exact ⟨hm, good_of_word h1⟩
theorem goodIn_app {big a b : List Cond} (ha : GoodIn big a) (hb : GoodIn big b) : GoodIn big (a ++ b) := fun w h => (List.mem_append.mp h).elim (ha w) (hb w)
theorem goodIn_ca {big a b : List Cond} {c : Cond} (ha : GoodIn big (c :: a)) (hb : GoodIn big b) : GoodIn big (c :: (a ++ b)) := fun w h => (List.mem_cons.mp h).elim (fun e => ha w (List.mem_cons.mpr (Or.inl e))) (fun h => (List.mem_append.mp h).elim (fun h => ha w (List.mem_cons.mpr (Or.inr h))) (hb w))
theorem goodIn_sub {big ws : List Cond} (hm : ∀ w ∈ ws, w ∈ big) (h : ws.all goodWord = true) : GoodIn big ws := fun w hw => ⟨hm w hw, good_of_word (List.all_eq_true.mp h w hw)⟩
/-! ===== END ===== -/

/-! ===== BEGIN printed: names, fields, word lists, decode rows ===== -/
def RX0 : String := "LieNights$Plan"
def TX0 : u_T := fun k => match k with
  | 0 => ("LieNights$Plan", "alike", "[I", true)
  | 1 => ("LieNights$Plan", "worst", "[I", true)
  | 2 => ("LieNights$Plan", "first", "[I", true)
  | 3 => ("LieNights$Plan", "nights", "[I", true)
  | _ => ("LieNights$Plan", "answers", "I", false)
def tyX0 : Nat → FieldType := fun k => match k with
  | 0 => .array .int
  | 1 => .array .int
  | 2 => .array .int
  | 3 => .array .int
  | _ => .int
abbrev wsX00 : List Cond := u_ws RX0 TX0 5
theorem nmX0 : ∀ a, a < 5 → ∀ b, b < 5 → a ≠ b → (TX0 a).2.1 ≠ (TX0 b).2.1 := by decide +kernel
theorem tyX0_ok : ∀ k, k < 5 → parseFieldDescriptor (TX0 k).2.2.1 = some (tyX0 k) := by decide +kernel
abbrev cX0_init : ByteArray := prog_2_method_1_code
def yX0_init : MethodName := ⟨RX0, "<init>", "()V"⟩
abbrev cX0_worstOf : ByteArray := prog_2_method_2_code
def yX0_worstOf : MethodName := ⟨RX0, "worstOf", "(I)I"⟩
abbrev cX0_askOf : ByteArray := prog_2_method_3_code
def yX0_askOf : MethodName := ⟨RX0, "askOf", "(I)I"⟩
abbrev cX0_nightsOf : ByteArray := prog_2_method_4_code
def yX0_nightsOf : MethodName := ⟨RX0, "nightsOf", "(I)I"⟩
abbrev cX0_make : ByteArray := prog_2_method_5_code
def yX0_make : MethodName := ⟨RX0, "make", "(LLieNights$Secret;)V"⟩
abbrev cX0_tryAsking : ByteArray := prog_2_method_6_code
def yX0_tryAsking : MethodName := ⟨RX0, "tryAsking", "(II)V"⟩
def RX1 : String := "LieNights$Secret"
def TX1 : u_T := fun k => match k with
  | 0 => ("LieNights$Secret", "kinds", "[I", true)
  | 1 => ("LieNights$Secret", "places", "[I", true)
  | 2 => ("LieNights$Secret", "weights", "[I", true)
  | 3 => ("LieNights$Secret", "answers", "I", false)
  | 4 => ("LieNights$Secret", "pillars", "I", false)
  | _ => ("LieNights$Secret", "growth", "I", false)
def tyX1 : Nat → FieldType := fun k => match k with
  | 0 => .array .int
  | 1 => .array .int
  | 2 => .array .int
  | 3 => .int
  | 4 => .int
  | _ => .int
abbrev wsX10 : List Cond := u_ws RX1 TX1 6
theorem nmX1 : ∀ a, a < 6 → ∀ b, b < 6 → a ≠ b → (TX1 a).2.1 ≠ (TX1 b).2.1 := by decide +kernel
theorem tyX1_ok : ∀ k, k < 6 → parseFieldDescriptor (TX1 k).2.2.1 = some (tyX1 k) := by decide +kernel
abbrev cX1_init : ByteArray := prog_3_method_1_code
def yX1_init : MethodName := ⟨RX1, "<init>", "()V"⟩
abbrev cX1_answers : ByteArray := prog_3_method_2_code
def yX1_answers : MethodName := ⟨RX1, "answers", "()I"⟩
abbrev cX1_pillars : ByteArray := prog_3_method_3_code
def yX1_pillars : MethodName := ⟨RX1, "pillars", "()I"⟩
abbrev cX1_growth : ByteArray := prog_3_method_4_code
def yX1_growth : MethodName := ⟨RX1, "growth", "()I"⟩
abbrev cX1_kindOf : ByteArray := prog_3_method_5_code
def yX1_kindOf : MethodName := ⟨RX1, "kindOf", "(I)I"⟩
abbrev cX1_placeOf : ByteArray := prog_3_method_6_code
def yX1_placeOf : MethodName := ⟨RX1, "placeOf", "(I)I"⟩
abbrev cX1_weightOf : ByteArray := prog_3_method_7_code
def yX1_weightOf : MethodName := ⟨RX1, "weightOf", "(I)I"⟩
abbrev cX1_setGrowth : ByteArray := prog_3_method_8_code
def yX1_setGrowth : MethodName := ⟨RX1, "setGrowth", "(I)V"⟩
abbrev cX1_setKind : ByteArray := prog_3_method_9_code
def yX1_setKind : MethodName := ⟨RX1, "setKind", "(II)V"⟩
abbrev cX1_setPlace : ByteArray := prog_3_method_10_code
def yX1_setPlace : MethodName := ⟨RX1, "setPlace", "(II)V"⟩
abbrev cX1_all : ByteArray := prog_3_method_11_code
def yX1_all : MethodName := ⟨RX1, "all", "()I"⟩
abbrev cX1_shownBy : ByteArray := prog_3_method_12_code
def yX1_shownBy : MethodName := ⟨RX1, "shownBy", "(II)I"⟩
abbrev cX1_alike : ByteArray := prog_3_method_13_code
def yX1_alike : MethodName := ⟨RX1, "alike", "(II)I"⟩
abbrev cX1_readText : ByteArray := prog_3_method_14_code
def yX1_readText : MethodName := ⟨RX1, "readText", "(LLieNights$Sheet;II)I"⟩
abbrev cX1_takeCode : ByteArray := prog_3_method_15_code
def yX1_takeCode : MethodName := ⟨RX1, "takeCode", "(II)I"⟩
abbrev cX1_takeKind : ByteArray := prog_3_method_16_code
def yX1_takeKind : MethodName := ⟨RX1, "takeKind", "(I)I"⟩
abbrev cX1_takePlace : ByteArray := prog_3_method_17_code
def yX1_takePlace : MethodName := ⟨RX1, "takePlace", "(I)I"⟩
abbrev cX1_takeGrowth : ByteArray := prog_3_method_18_code
def yX1_takeGrowth : MethodName := ⟨RX1, "takeGrowth", "(I)I"⟩
abbrev cX1_takeWeight : ByteArray := prog_3_method_19_code
def yX1_takeWeight : MethodName := ⟨RX1, "takeWeight", "(I)I"⟩
abbrev cX1_isDigit : ByteArray := prog_3_method_20_code
def yX1_isDigit : MethodName := ⟨RX1, "isDigit", "(I)Z"⟩
abbrev cX1_kindByLetter : ByteArray := prog_3_method_21_code
def yX1_kindByLetter : MethodName := ⟨RX1, "kindByLetter", "(I)I"⟩
def RX2 : String := "LieNights$Sheet"
def TX2 : u_T := fun k => match k with
  | 0 => ("LieNights$Sheet", "cells", "[I", true)
  | 1 => ("LieNights$Sheet", "lane", "I", false)
  | _ => ("LieNights$Sheet", "length", "I", false)
def tyX2 : Nat → FieldType := fun k => match k with
  | 0 => .array .int
  | 1 => .int
  | _ => .int
abbrev wsX20 : List Cond := u_ws RX2 TX2 3
theorem nmX2 : ∀ a, a < 3 → ∀ b, b < 3 → a ≠ b → (TX2 a).2.1 ≠ (TX2 b).2.1 := by decide +kernel
theorem tyX2_ok : ∀ k, k < 3 → parseFieldDescriptor (TX2 k).2.2.1 = some (tyX2 k) := by decide +kernel
abbrev cX2_init : ByteArray := prog_4_method_1_code
def yX2_init : MethodName := ⟨RX2, "<init>", "()V"⟩
abbrev cX2_isNothing : ByteArray := prog_4_method_2_code
def yX2_isNothing : MethodName := ⟨RX2, "isNothing", "()Z"⟩
abbrev cX2_isLikeLane : ByteArray := prog_4_method_3_code
def yX2_isLikeLane : MethodName := ⟨RX2, "isLikeLane", "(LLieNights$Sheet;)Z"⟩
abbrev cX2_faultAs : ByteArray := prog_4_method_4_code
def yX2_faultAs : MethodName := ⟨RX2, "faultAs", "(I)I"⟩
abbrev cX2_hasCells : ByteArray := prog_4_method_5_code
def yX2_hasCells : MethodName := ⟨RX2, "hasCells", "(II)Z"⟩
abbrev cX2_renew : ByteArray := prog_4_method_6_code
def yX2_renew : MethodName := ⟨RX2, "renew", "(II)V"⟩
abbrev cX2_clear : ByteArray := prog_4_method_7_code
def yX2_clear : MethodName := ⟨RX2, "clear", "()V"⟩
abbrev cX2_get : ByteArray := prog_4_method_8_code
def yX2_get : MethodName := ⟨RX2, "get", "(I)I"⟩
abbrev cX2_set : ByteArray := prog_4_method_9_code
def yX2_set : MethodName := ⟨RX2, "set", "(II)V"⟩
abbrev cX2_cut : ByteArray := prog_4_method_10_code
def yX2_cut : MethodName := ⟨RX2, "cut", "(I)I"⟩
abbrev cX2_takeCells : ByteArray := prog_4_method_11_code
def yX2_takeCells : MethodName := ⟨RX2, "takeCells", "(ILLieNights$Sheet;II)V"⟩
def RX3 : String := "LieNights"
def TX3 : u_T := fun k => match k with
  | 0 => ("LieNights", "sheets", "[LLieNights$Sheet;", true)
  | 1 => ("LieNights", "plan", "LLieNights$Plan;", true)
  | 2 => ("LieNights", "asked", "[I", true)
  | 3 => ("LieNights", "showed", "[I", true)
  | 4 => ("LieNights", "secret", "LLieNights$Secret;", false)
  | 5 => ("LieNights", "spare", "LLieNights$Secret;", false)
  | 6 => ("LieNights", "planIsOld", "Z", false)
  | 7 => ("LieNights", "readings", "I", false)
  | 8 => ("LieNights", "trace", "I", false)
  | _ => ("LieNights", "lastFault", "I", false)
def tyX3 : Nat → FieldType := fun k => match k with
  | 0 => .array (.object "LieNights$Sheet")
  | 1 => .object "LieNights$Plan"
  | 2 => .array .int
  | 3 => .array .int
  | 4 => .object "LieNights$Secret"
  | 5 => .object "LieNights$Secret"
  | 6 => .boolean
  | 7 => .int
  | 8 => .int
  | _ => .int
abbrev wsX30 : List Cond := u_ws RX3 TX3 10
theorem nmX3 : ∀ a, a < 10 → ∀ b, b < 10 → a ≠ b → (TX3 a).2.1 ≠ (TX3 b).2.1 := by decide +kernel
theorem tyX3_ok : ∀ k, k < 10 → parseFieldDescriptor (TX3 k).2.2.1 = some (tyX3 k) := by decide +kernel
abbrev cX3_init : ByteArray := prog_1_method_1_code
def yX3_init : MethodName := ⟨RX3, "<init>", "()V"⟩
abbrev cX3_secret : ByteArray := prog_1_method_2_code
def yX3_secret : MethodName := ⟨RX3, "secret", "(IIII)I"⟩
abbrev cX3_ofAnswer : ByteArray := prog_1_method_3_code
def yX3_ofAnswer : MethodName := ⟨RX3, "ofAnswer", "(II)I"⟩
abbrev cX3_move : ByteArray := prog_1_method_4_code
def yX3_move : MethodName := ⟨RX3, "move", "(II)I"⟩
abbrev cX3_grow : ByteArray := prog_1_method_5_code
def yX3_grow : MethodName := ⟨RX3, "grow", "(I)I"⟩
abbrev cX3_shown : ByteArray := prog_1_method_6_code
def yX3_shown : MethodName := ⟨RX3, "shown", "(II)I"⟩
abbrev cX3_nights : ByteArray := prog_1_method_7_code
def yX3_nights : MethodName := ⟨RX3, "nights", "(IIIIII)I"⟩
abbrev cX3_worst : ByteArray := prog_1_method_8_code
def yX3_worst : MethodName := ⟨RX3, "worst", "(I)I"⟩
abbrev cX3_ask : ByteArray := prog_1_method_9_code
def yX3_ask : MethodName := ⟨RX3, "ask", "(I)I"⟩
abbrev cX3_mean : ByteArray := prog_1_method_10_code
def yX3_mean : MethodName := ⟨RX3, "mean", "(II)J"⟩
abbrev cX3_parts : ByteArray := prog_1_method_11_code
def yX3_parts : MethodName := ⟨RX3, "parts", "(II)I"⟩
abbrev cX3_months : ByteArray := prog_1_method_12_code
def yX3_months : MethodName := ⟨RX3, "months", "(I)I"⟩
abbrev cX3_down : ByteArray := prog_1_method_13_code
def yX3_down : MethodName := ⟨RX3, "down", "(I)I"⟩
abbrev cX3_reading : ByteArray := prog_1_method_14_code
def yX3_reading : MethodName := ⟨RX3, "reading", "(II)I"⟩
abbrev cX3_back : ByteArray := prog_1_method_15_code
def yX3_back : MethodName := ⟨RX3, "back", "(I)I"⟩
abbrev cX3_left : ByteArray := prog_1_method_16_code
def yX3_left : MethodName := ⟨RX3, "left", "()I"⟩
abbrev cX3_kinds : ByteArray := prog_1_method_17_code
def yX3_kinds : MethodName := ⟨RX3, "kinds", "(I)I"⟩
abbrev cX3_places : ByteArray := prog_1_method_18_code
def yX3_places : MethodName := ⟨RX3, "places", "(I)I"⟩
abbrev cX3_odds : ByteArray := prog_1_method_19_code
def yX3_odds : MethodName := ⟨RX3, "odds", "(II)J"⟩
abbrev cX3_sheet : ByteArray := prog_1_method_20_code
def yX3_sheet : MethodName := ⟨RX3, "sheet", "(III)I"⟩
abbrev cX3_lose : ByteArray := prog_1_method_21_code
def yX3_lose : MethodName := ⟨RX3, "lose", "(I)I"⟩
abbrev cX3_put : ByteArray := prog_1_method_22_code
def yX3_put : MethodName := ⟨RX3, "put", "(III)I"⟩
abbrev cX3_cell : ByteArray := prog_1_method_23_code
def yX3_cell : MethodName := ⟨RX3, "cell", "(III)J"⟩
abbrev cX3_copy : ByteArray := prog_1_method_24_code
def yX3_copy : MethodName := ⟨RX3, "copy", "(IIIII)I"⟩
abbrev cX3_tell : ByteArray := prog_1_method_25_code
def yX3_tell : MethodName := ⟨RX3, "tell", "(I)I"⟩
abbrev cX3_whisper : ByteArray := prog_1_method_26_code
def yX3_whisper : MethodName := ⟨RX3, "whisper", "(I)I"⟩
abbrev cX3_as : ByteArray := prog_1_method_27_code
def yX3_as : MethodName := ⟨RX3, "as", "(II)I"⟩
abbrev cX3_trace : ByteArray := prog_1_method_28_code
def yX3_trace : MethodName := ⟨RX3, "trace", "()I"⟩
abbrev cX3_fault : ByteArray := prog_1_method_29_code
def yX3_fault : MethodName := ⟨RX3, "fault", "()I"⟩
abbrev cX3_many : ByteArray := prog_1_method_30_code
def yX3_many : MethodName := ⟨RX3, "many", "(I)I"⟩
abbrev cX3_within : ByteArray := prog_1_method_31_code
def yX3_within : MethodName := ⟨RX3, "within", "(II)Z"⟩
abbrev cX3_has : ByteArray := prog_1_method_32_code
def yX3_has : MethodName := ⟨RX3, "has", "(II)Z"⟩
abbrev cX3_isSetOf : ByteArray := prog_1_method_33_code
def yX3_isSetOf : MethodName := ⟨RX3, "isSetOf", "(II)Z"⟩
abbrev cX3_at : ByteArray := prog_1_method_34_code
def yX3_at : MethodName := ⟨RX3, "at", "([II)I"⟩
abbrev cX3_write : ByteArray := prog_1_method_35_code
def yX3_write : MethodName := ⟨RX3, "write", "([III)V"⟩
abbrev cX3_shareNumber : ByteArray := prog_1_method_36_code
def yX3_shareNumber : MethodName := ⟨RX3, "shareNumber", "(III)J"⟩
abbrev cX3_noSecret : ByteArray := prog_1_method_37_code
def yX3_noSecret : MethodName := ⟨RX3, "noSecret", "()Z"⟩
abbrev cX3_isAnswer : ByteArray := prog_1_method_38_code
def yX3_isAnswer : MethodName := ⟨RX3, "isAnswer", "(I)Z"⟩
abbrev cX3_sheetOf : ByteArray := prog_1_method_39_code
def yX3_sheetOf : MethodName := ⟨RX3, "sheetOf", "(I)LLieNights$Sheet;"⟩
abbrev cX3_faulted : ByteArray := prog_1_method_40_code
def yX3_faulted : MethodName := ⟨RX3, "faulted", "(I)I"⟩
abbrev cX3_takeSpare : ByteArray := prog_1_method_41_code
def yX3_takeSpare : MethodName := ⟨RX3, "takeSpare", "()V"⟩
abbrev cX3_planned : ByteArray := prog_1_method_42_code
def yX3_planned : MethodName := ⟨RX3, "planned", "()LLieNights$Plan;"⟩
abbrev cX3_areAnswers : ByteArray := prog_1_method_43_code
def yX3_areAnswers : MethodName := ⟨RX3, "areAnswers", "(LLieNights$Sheet;II)Z"⟩
abbrev cX3_boundOn : ByteArray := prog_1_method_44_code
def yX3_boundOn : MethodName := ⟨RX3, "boundOn", "(ILLieNights$Sheet;II)I"⟩
abbrev cX3_mayBe : ByteArray := prog_1_method_45_code
def yX3_mayBe : MethodName := ⟨RX3, "mayBe", "(ILLieNights$Sheet;II)I"⟩
abbrev cX3_isBoundWithin : ByteArray := prog_1_method_46_code
def yX3_isBoundWithin : MethodName := ⟨RX3, "isBoundWithin", "(LLieNights$Plan;II)Z"⟩
abbrev cX3_truths : ByteArray := prog_1_method_47_code
def yX3_truths : MethodName := ⟨RX3, "truths", "()I"⟩
abbrev cX3_areReadingsSo : ByteArray := prog_1_method_48_code
def yX3_areReadingsSo : MethodName := ⟨RX3, "areReadingsSo", "(I)Z"⟩
abbrev cX3_leave : ByteArray := prog_1_method_49_code
def yX3_leave : MethodName := ⟨RX3, "leave", "(I)V"⟩
abbrev cX3_tellPlain : ByteArray := prog_1_method_50_code
def yX3_tellPlain : MethodName := ⟨RX3, "tellPlain", "(I)I"⟩
abbrev cX3_tellSly : ByteArray := prog_1_method_51_code
def yX3_tellSly : MethodName := ⟨RX3, "tellSly", "(I)I"⟩
abbrev cX3_tellVain : ByteArray := prog_1_method_52_code
def yX3_tellVain : MethodName := ⟨RX3, "tellVain", "(I)I"⟩
abbrev cX3_whisperLent : ByteArray := prog_1_method_53_code
def yX3_whisperLent : MethodName := ⟨RX3, "whisperLent", "(I)I"⟩
abbrev cX3_whisperVain : ByteArray := prog_1_method_54_code
def yX3_whisperVain : MethodName := ⟨RX3, "whisperVain", "()I"⟩
def RX4 : String := "LieNightsModel"
def TX4 : u_T := fun k => match k with
  | 0 => ("LieNightsModel", "fault", "I", false)
  | 1 => ("LieNightsModel", "trace", "I", false)
  | 2 => ("LieNightsModel", "sorts", "[I", true)
  | 3 => ("LieNightsModel", "sheetLong", "[I", true)
  | 4 => ("LieNightsModel", "cells", "[I", true)
  | 5 => ("LieNightsModel", "answers", "I", false)
  | 6 => ("LieNightsModel", "pillars", "I", false)
  | 7 => ("LieNightsModel", "growth", "I", false)
  | 8 => ("LieNightsModel", "kind", "[I", true)
  | 9 => ("LieNightsModel", "place", "[I", true)
  | 10 => ("LieNightsModel", "weight", "[I", true)
  | 11 => ("LieNightsModel", "at", "I", false)
  | 12 => ("LieNightsModel", "readAnswers", "I", false)
  | 13 => ("LieNightsModel", "readPillars", "I", false)
  | 14 => ("LieNightsModel", "readGrowth", "I", false)
  | 15 => ("LieNightsModel", "readKind", "[I", true)
  | 16 => ("LieNightsModel", "readPlace", "[I", true)
  | 17 => ("LieNightsModel", "readWeight", "[I", true)
  | 18 => ("LieNightsModel", "worstOf", "[I", true)
  | 19 => ("LieNightsModel", "sumOf", "[I", true)
  | 20 => ("LieNightsModel", "readings", "I", false)
  | 21 => ("LieNightsModel", "readAnswerOf", "[I", true)
  | _ => ("LieNightsModel", "readShown", "[I", true)
def tyX4 : Nat → FieldType := fun k => match k with
  | 0 => .int
  | 1 => .int
  | 2 => .array .int
  | 3 => .array .int
  | 4 => .array .int
  | 5 => .int
  | 6 => .int
  | 7 => .int
  | 8 => .array .int
  | 9 => .array .int
  | 10 => .array .int
  | 11 => .int
  | 12 => .int
  | 13 => .int
  | 14 => .int
  | 15 => .array .int
  | 16 => .array .int
  | 17 => .array .int
  | 18 => .array .int
  | 19 => .array .int
  | 20 => .int
  | 21 => .array .int
  | _ => .array .int
abbrev wsX40 : List Cond := u_ws RX4 TX4 23
theorem nmX4 : ∀ a, a < 23 → ∀ b, b < 23 → a ≠ b → (TX4 a).2.1 ≠ (TX4 b).2.1 := by decide +kernel
theorem tyX4_ok : ∀ k, k < 23 → parseFieldDescriptor (TX4 k).2.2.1 = some (tyX4 k) := by decide +kernel
abbrev cX4_init : ByteArray := prog_6_method_1_code
def yX4_init : MethodName := ⟨RX4, "<init>", "()V"⟩
abbrev cX4_fails : ByteArray := prog_6_method_3_code
def yX4_fails : MethodName := ⟨RX4, "fails", "(I)I"⟩
abbrev cX4_lost : ByteArray := prog_6_method_4_code
def yX4_lost : MethodName := ⟨RX4, "lost", "(I)J"⟩
abbrev cX4_within : ByteArray := prog_6_method_5_code
def yX4_within : MethodName := ⟨RX4, "within", "(III)Z"⟩
abbrev cX4_isSheet : ByteArray := prog_6_method_6_code
def yX4_isSheet : MethodName := ⟨RX4, "isSheet", "(I)Z"⟩
abbrev cX4_isSort : ByteArray := prog_6_method_7_code
def yX4_isSort : MethodName := ⟨RX4, "isSort", "(I)Z"⟩
abbrev cX4_against : ByteArray := prog_6_method_8_code
def yX4_against : MethodName := ⟨RX4, "against", "(IIII)I"⟩
abbrev cX4_isAnswer : ByteArray := prog_6_method_9_code
def yX4_isAnswer : MethodName := ⟨RX4, "isAnswer", "(I)Z"⟩
abbrev cX4_isSet : ByteArray := prog_6_method_10_code
def yX4_isSet : MethodName := ⟨RX4, "isSet", "(I)Z"⟩
abbrev cX4_digit : ByteArray := prog_6_method_11_code
def yX4_digit : MethodName := ⟨RX4, "digit", "(II)I"⟩
abbrev cX4_isSign : ByteArray := prog_6_method_12_code
def yX4_isSign : MethodName := ⟨RX4, "isSign", "(II)Z"⟩
abbrev cX4_secret : ByteArray := prog_6_method_13_code
def yX4_secret : MethodName := ⟨RX4, "secret", "(IIII)I"⟩
abbrev cX4_readSecret : ByteArray := prog_6_method_14_code
def yX4_readSecret : MethodName := ⟨RX4, "readSecret", "(I)Z"⟩
abbrev cX4_readThePillars : ByteArray := prog_6_method_15_code
def yX4_readThePillars : MethodName := ⟨RX4, "readThePillars", "(I)Z"⟩
abbrev cX4_readAnswer : ByteArray := prog_6_method_16_code
def yX4_readAnswer : MethodName := ⟨RX4, "readAnswer", "(I)Z"⟩
abbrev cX4_ofAnswer : ByteArray := prog_6_method_17_code
def yX4_ofAnswer : MethodName := ⟨RX4, "ofAnswer", "(II)I"⟩
abbrev cX4_move : ByteArray := prog_6_method_18_code
def yX4_move : MethodName := ⟨RX4, "move", "(II)I"⟩
abbrev cX4_grow : ByteArray := prog_6_method_19_code
def yX4_grow : MethodName := ⟨RX4, "grow", "(I)I"⟩
abbrev cX4_shownBy : ByteArray := prog_6_method_20_code
def yX4_shownBy : MethodName := ⟨RX4, "shownBy", "(II)I"⟩
abbrev cX4_shown : ByteArray := prog_6_method_21_code
def yX4_shown : MethodName := ⟨RX4, "shown", "(II)I"⟩
abbrev cX4_nights : ByteArray := prog_6_method_22_code
def yX4_nights : MethodName := ⟨RX4, "nights", "(IIIIII)I"⟩
abbrev cX4_tellNights : ByteArray := prog_6_method_23_code
def yX4_tellNights : MethodName := ⟨RX4, "tellNights", "(IIII)I"⟩
abbrev cX4_group : ByteArray := prog_6_method_24_code
def yX4_group : MethodName := ⟨RX4, "group", "(III)I"⟩
abbrev cX4_worstBy : ByteArray := prog_6_method_25_code
def yX4_worstBy : MethodName := ⟨RX4, "worstBy", "(II)I"⟩
abbrev cX4_size : ByteArray := prog_6_method_26_code
def yX4_size : MethodName := ⟨RX4, "size", "(I)I"⟩
abbrev cX4_sumBy : ByteArray := prog_6_method_27_code
def yX4_sumBy : MethodName := ⟨RX4, "sumBy", "(II)I"⟩
abbrev cX4_findWorst : ByteArray := prog_6_method_28_code
def yX4_findWorst : MethodName := ⟨RX4, "findWorst", "(I)V"⟩
abbrev cX4_worst : ByteArray := prog_6_method_29_code
def yX4_worst : MethodName := ⟨RX4, "worst", "(I)I"⟩
abbrev cX4_askOf : ByteArray := prog_6_method_30_code
def yX4_askOf : MethodName := ⟨RX4, "askOf", "(I)I"⟩
abbrev cX4_ask : ByteArray := prog_6_method_31_code
def yX4_ask : MethodName := ⟨RX4, "ask", "(I)I"⟩
abbrev cX4_inLeastTerms : ByteArray := prog_6_method_32_code
def yX4_inLeastTerms : MethodName := ⟨RX4, "inLeastTerms", "(JJI)J"⟩
abbrev cX4_mean : ByteArray := prog_6_method_33_code
def yX4_mean : MethodName := ⟨RX4, "mean", "(II)J"⟩
abbrev cX4_parts : ByteArray := prog_6_method_34_code
def yX4_parts : MethodName := ⟨RX4, "parts", "(II)I"⟩
abbrev cX4_months : ByteArray := prog_6_method_35_code
def yX4_months : MethodName := ⟨RX4, "months", "(I)I"⟩
abbrev cX4_down : ByteArray := prog_6_method_36_code
def yX4_down : MethodName := ⟨RX4, "down", "(I)I"⟩
abbrev cX4_reading : ByteArray := prog_6_method_37_code
def yX4_reading : MethodName := ⟨RX4, "reading", "(II)I"⟩
abbrev cX4_back : ByteArray := prog_6_method_38_code
def yX4_back : MethodName := ⟨RX4, "back", "(I)I"⟩
abbrev cX4_leftSet : ByteArray := prog_6_method_39_code
def yX4_leftSet : MethodName := ⟨RX4, "leftSet", "()I"⟩
abbrev cX4_left : ByteArray := prog_6_method_40_code
def yX4_left : MethodName := ⟨RX4, "left", "()I"⟩
abbrev cX4_kinds : ByteArray := prog_6_method_41_code
def yX4_kinds : MethodName := ⟨RX4, "kinds", "(I)I"⟩
abbrev cX4_places : ByteArray := prog_6_method_42_code
def yX4_places : MethodName := ⟨RX4, "places", "(I)I"⟩
abbrev cX4_isBound : ByteArray := prog_6_method_43_code
def yX4_isBound : MethodName := ⟨RX4, "isBound", "(II)Z"⟩
abbrev cX4_odds : ByteArray := prog_6_method_44_code
def yX4_odds : MethodName := ⟨RX4, "odds", "(II)J"⟩
abbrev cX4_sheet : ByteArray := prog_6_method_45_code
def yX4_sheet : MethodName := ⟨RX4, "sheet", "(III)I"⟩
abbrev cX4_lose : ByteArray := prog_6_method_46_code
def yX4_lose : MethodName := ⟨RX4, "lose", "(I)I"⟩
abbrev cX4_put : ByteArray := prog_6_method_47_code
def yX4_put : MethodName := ⟨RX4, "put", "(III)I"⟩
abbrev cX4_cell : ByteArray := prog_6_method_48_code
def yX4_cell : MethodName := ⟨RX4, "cell", "(III)J"⟩
abbrev cX4_copy : ByteArray := prog_6_method_49_code
def yX4_copy : MethodName := ⟨RX4, "copy", "(IIIII)I"⟩
abbrev cX4_begins : ByteArray := prog_6_method_50_code
def yX4_begins : MethodName := ⟨RX4, "begins", "(I)V"⟩
abbrev cX4_tell : ByteArray := prog_6_method_51_code
def yX4_tell : MethodName := ⟨RX4, "tell", "(I)I"⟩
abbrev cX4_whisper : ByteArray := prog_6_method_52_code
def yX4_whisper : MethodName := ⟨RX4, "whisper", "(I)I"⟩
abbrev cX4_as : ByteArray := prog_6_method_53_code
def yX4_as : MethodName := ⟨RX4, "as", "(II)I"⟩
abbrev cX4_trace : ByteArray := prog_6_method_54_code
def yX4_trace : MethodName := ⟨RX4, "trace", "()I"⟩
abbrev cX4_fault : ByteArray := prog_6_method_55_code
def yX4_fault : MethodName := ⟨RX4, "fault", "()I"⟩
abbrev cX4_many : ByteArray := prog_6_method_56_code
def yX4_many : MethodName := ⟨RX4, "many", "(I)I"⟩
def RJ6 : String := "java/lang/Integer"
def TJ6 : u_T := fun k => match k with
  | _ => ("", "", "", false)
def tyJ6 : Nat → FieldType := fun k => match k with
  | _ => .int
abbrev wsJ60 : List Cond := u_ws RJ6 TJ6 0
theorem nmJ6 : ∀ a, a < 0 → ∀ b, b < 0 → a ≠ b → (TJ6 a).2.1 ≠ (TJ6 b).2.1 := by decide +kernel
theorem tyJ6_ok : ∀ k, k < 0 → parseFieldDescriptor (TJ6 k).2.2.1 = some (tyJ6 k) := by decide +kernel
abbrev cJ6_bitCount_0f7a4 : ByteArray := prog_7_method_49_code
def yJ6_bitCount_0f7a4 : MethodName := ⟨RJ6, "bitCount", "(I)I"⟩
def RJ9 : String := "java/lang/Math"
def TJ9 : u_T := fun k => match k with
  | _ => ("", "", "", false)
def tyJ9 : Nat → FieldType := fun k => match k with
  | _ => .int
abbrev wsJ90 : List Cond := u_ws RJ9 TJ9 0
theorem nmJ9 : ∀ a, a < 0 → ∀ b, b < 0 → a ≠ b → (TJ9 a).2.1 ≠ (TJ9 b).2.1 := by decide +kernel
theorem tyJ9_ok : ∀ k, k < 0 → parseFieldDescriptor (TJ9 k).2.2.1 = some (tyJ9 k) := by decide +kernel
abbrev cJ9_abs_0f7a4 : ByteArray := prog_8_method_59_code
def yJ9_abs_0f7a4 : MethodName := ⟨RJ9, "abs", "(I)I"⟩
abbrev cJ9_max_7cf53 : ByteArray := prog_8_method_65_code
def yJ9_max_7cf53 : MethodName := ⟨RJ9, "max", "(II)I"⟩
abbrev cJ9_min_7cf53 : ByteArray := prog_8_method_69_code
def yJ9_min_7cf53 : MethodName := ⟨RJ9, "min", "(II)I"⟩
def RL : String := "LieNightsLaw"
def wsX0_init : List Cond := .code yX0_init cX0_init 1 none :: ([.methodLink RX0 5 objectInit, .instanceMethod objectInit, .code objectInit ⟨#[0xb1]⟩ 1 none, .arrayClass .int, .fieldLink RX0 11 "LieNights$Plan" "alike" "[I", .fieldLink RX0 17 "LieNights$Plan" "worst" "[I", .fieldLink RX0 20 "LieNights$Plan" "first" "[I", .fieldLink RX0 23 "LieNights$Plan" "nights" "[I"] ++ wsX00)
def wsX3_at : List Cond := .code yX3_at cX3_at 2 (some .int) :: ([])
def wsX0_worstOf : List Cond := .code yX0_worstOf cX0_worstOf 2 (some .int) :: ([.fieldLink RX0 17 "LieNights$Plan" "worst" "[I", .static yX3_at, .initialized RX3, .code yX3_at cX3_at 2 (some .int)] ++ wsX00)
def wsX0_askOf : List Cond := .code yX0_askOf cX0_askOf 2 (some .int) :: ([.fieldLink RX0 20 "LieNights$Plan" "first" "[I", .static yX3_at, .initialized RX3, .code yX3_at cX3_at 2 (some .int)] ++ wsX00)
def wsX0_nightsOf : List Cond := .code yX0_nightsOf cX0_nightsOf 2 (some .int) :: ([.fieldLink RX0 23 "LieNights$Plan" "nights" "[I", .static yX3_at, .initialized RX3, .code yX3_at cX3_at 2 (some .int)] ++ wsX00)
def wsX1_answers : List Cond := .code yX1_answers cX1_answers 1 (some .int) :: ([.fieldLink RX1 21 "LieNights$Secret" "answers" "I"] ++ wsX10)
def wsX1_shownBy : List Cond := .code yX1_shownBy cX1_shownBy 4 (some .int) :: ([.fieldLink RX1 15 "LieNights$Secret" "places" "[I", .methodLink RX1 39 Lib.Math.abs.name, .static Lib.Math.abs.name, .initialized "java/lang/Math", .code Lib.Math.abs.name Lib.Math.abs.code 1 (some .int), .fieldLink RX1 11 "LieNights$Secret" "kinds" "[I", .static yX3_at, .initialized RX3, .code yX3_at cX3_at 2 (some .int)] ++ wsX10)
def wsX1_alike : List Cond := .code yX1_alike cX1_alike 6 (some .int) :: ([.fieldLink RX1 21 "LieNights$Secret" "answers" "I", .methodLink RX1 45 yX1_shownBy, .instanceMethod yX1_shownBy, .selects RX1 yX1_shownBy yX1_shownBy, .initialized RX1, .code yX1_shownBy cX1_shownBy 4 (some .int), .fieldLink RX1 15 "LieNights$Secret" "places" "[I", .methodLink RX1 39 Lib.Math.abs.name, .static Lib.Math.abs.name, .initialized "java/lang/Math", .code Lib.Math.abs.name Lib.Math.abs.code 1 (some .int), .fieldLink RX1 11 "LieNights$Secret" "kinds" "[I", .static yX3_at, .initialized RX3, .code yX3_at cX3_at 2 (some .int)] ++ wsX10)
def wsX3_write : List Cond := .code yX3_write cX3_write 3 none :: ([])
def wsX1_all : List Cond := .code yX1_all cX1_all 1 (some .int) :: ([.fieldLink RX1 21 "LieNights$Secret" "answers" "I"] ++ wsX10)
def wsJ6_bitCount_0f7a4 : List Cond := .code yJ6_bitCount_0f7a4 cJ6_bitCount_0f7a4 1 (some .int) :: ([.constant RJ6 265 (1431655765), .constant RJ6 266 (858993459), .constant RJ6 267 (252645135)])
def wsX3_has : List Cond := .code yX3_has cX3_has 2 (some .boolean) :: ([])
def wsX0_tryAsking_r1 : List Cond := [Cond.fieldLink RX0 34 "LieNights$Plan" "answers" "I", Cond.fieldLink RX0 11 "LieNights$Plan" "alike" "[I", Cond.methodLink RX0 64 Lib.Math.max.name, Cond.static Lib.Math.max.name, Cond.initialized "java/lang/Math", Cond.code Lib.Math.max.name Lib.Math.max.code 2 (some .int), Cond.fieldLink RX0 17 "LieNights$Plan" "worst" "[I", Cond.fieldLink RX0 20 "LieNights$Plan" "first" "[I", Cond.fieldLink RX0 23 "LieNights$Plan" "nights" "[I", Cond.methodLink RX0 72 Lib.Math.min.name, Cond.static Lib.Math.min.name, Cond.code Lib.Math.min.name Lib.Math.min.code 2 (some .int), Cond.methodLink RX0 51 yJ6_bitCount_0f7a4, Cond.static yJ6_bitCount_0f7a4, Cond.initialized RJ6, Cond.code yJ6_bitCount_0f7a4 cJ6_bitCount_0f7a4 1 (some .int), Cond.constant RJ6 265 (1431655765), Cond.constant RJ6 266 (858993459), Cond.constant RJ6 267 (252645135), Cond.static yX3_has, Cond.initialized RX3, Cond.code yX3_has cX3_has 2 (some .boolean), Cond.static yX3_at, Cond.code yX3_at cX3_at 2 (some .int)]
def wsX0_tryAsking_r2 : List Cond := [Cond.methodLink RX0 61 yX0_worstOf, Cond.instanceMethod yX0_worstOf, Cond.selects RX0 yX0_worstOf yX0_worstOf, Cond.initialized RX0, Cond.code yX0_worstOf cX0_worstOf 2 (some .int), Cond.methodLink RX0 69 yX0_nightsOf, Cond.instanceMethod yX0_nightsOf, Cond.selects RX0 yX0_nightsOf yX0_nightsOf, Cond.code yX0_nightsOf cX0_nightsOf 2 (some .int), Cond.static yX3_write, Cond.code yX3_write cX3_write 3 none]
def wsX0_tryAsking : List Cond := .code yX0_tryAsking cX0_tryAsking 8 none :: ((wsX0_tryAsking_r1 ++ wsX0_tryAsking_r2) ++ wsX00)
def wsX0_make_r1 : List Cond := [Cond.fieldLink RX0 34 "LieNights$Plan" "answers" "I", Cond.fieldLink RX0 11 "LieNights$Plan" "alike" "[I", Cond.fieldLink RX0 17 "LieNights$Plan" "worst" "[I", Cond.fieldLink RX0 23 "LieNights$Plan" "nights" "[I", Cond.methodLink RX0 30 yX1_answers, Cond.instanceMethod yX1_answers, Cond.selects RX1 yX1_answers yX1_answers, Cond.initialized RX1, Cond.code yX1_answers cX1_answers 1 (some .int), Cond.fieldLink RX1 21 "LieNights$Secret" "answers" "I", Cond.methodLink RX0 37 yX1_alike, Cond.instanceMethod yX1_alike, Cond.selects RX1 yX1_alike yX1_alike, Cond.code yX1_alike cX1_alike 6 (some .int), Cond.methodLink RX1 45 yX1_shownBy, Cond.instanceMethod yX1_shownBy, Cond.selects RX1 yX1_shownBy yX1_shownBy, Cond.code yX1_shownBy cX1_shownBy 4 (some .int), Cond.fieldLink RX1 15 "LieNights$Secret" "places" "[I", Cond.methodLink RX1 39 Lib.Math.abs.name, Cond.static Lib.Math.abs.name, Cond.initialized "java/lang/Math", Cond.code Lib.Math.abs.name Lib.Math.abs.code 1 (some .int), Cond.fieldLink RX1 11 "LieNights$Secret" "kinds" "[I"]
def wsX0_make_r2 : List Cond := [Cond.static yX3_at, Cond.initialized RX3, Cond.code yX3_at cX3_at 2 (some .int), Cond.static yX3_write, Cond.code yX3_write cX3_write 3 none, Cond.methodLink RX0 44 yX1_all, Cond.instanceMethod yX1_all, Cond.selects RX1 yX1_all yX1_all, Cond.code yX1_all cX1_all 1 (some .int), Cond.methodLink RX0 47 yX0_tryAsking, Cond.instanceMethod yX0_tryAsking, Cond.selects RX0 yX0_tryAsking yX0_tryAsking, Cond.initialized RX0, Cond.code yX0_tryAsking cX0_tryAsking 8 none, Cond.methodLink RX0 64 Lib.Math.max.name, Cond.static Lib.Math.max.name, Cond.code Lib.Math.max.name Lib.Math.max.code 2 (some .int), Cond.fieldLink RX0 20 "LieNights$Plan" "first" "[I", Cond.methodLink RX0 72 Lib.Math.min.name, Cond.static Lib.Math.min.name, Cond.code Lib.Math.min.name Lib.Math.min.code 2 (some .int), Cond.methodLink RX0 51 yJ6_bitCount_0f7a4, Cond.static yJ6_bitCount_0f7a4, Cond.initialized RJ6]
def wsX0_make_r3 : List Cond := [Cond.code yJ6_bitCount_0f7a4 cJ6_bitCount_0f7a4 1 (some .int), Cond.constant RJ6 265 (1431655765), Cond.constant RJ6 266 (858993459), Cond.constant RJ6 267 (252645135), Cond.static yX3_has, Cond.code yX3_has cX3_has 2 (some .boolean), Cond.methodLink RX0 61 yX0_worstOf, Cond.instanceMethod yX0_worstOf, Cond.selects RX0 yX0_worstOf yX0_worstOf, Cond.code yX0_worstOf cX0_worstOf 2 (some .int), Cond.methodLink RX0 69 yX0_nightsOf, Cond.instanceMethod yX0_nightsOf, Cond.selects RX0 yX0_nightsOf yX0_nightsOf, Cond.code yX0_nightsOf cX0_nightsOf 2 (some .int)]
def wsX0_make : List Cond := .code yX0_make cX0_make 4 none :: ((wsX0_make_r1 ++ (wsX0_make_r2 ++ wsX0_make_r3)) ++ wsX00 ++ wsX10)
def wsX1_init : List Cond := .code yX1_init cX1_init 1 none :: ([.methodLink RX1 3 objectInit, .instanceMethod objectInit, .code objectInit ⟨#[0xb1]⟩ 1 none, .arrayClass .int, .fieldLink RX1 11 "LieNights$Secret" "kinds" "[I", .fieldLink RX1 15 "LieNights$Secret" "places" "[I", .fieldLink RX1 18 "LieNights$Secret" "weights" "[I"] ++ wsX10)
def wsX1_pillars : List Cond := .code yX1_pillars cX1_pillars 1 (some .int) :: ([.fieldLink RX1 25 "LieNights$Secret" "pillars" "I"] ++ wsX10)
def wsX1_growth : List Cond := .code yX1_growth cX1_growth 1 (some .int) :: ([.fieldLink RX1 28 "LieNights$Secret" "growth" "I"] ++ wsX10)
def wsX1_kindOf : List Cond := .code yX1_kindOf cX1_kindOf 2 (some .int) :: ([.fieldLink RX1 11 "LieNights$Secret" "kinds" "[I", .static yX3_at, .initialized RX3, .code yX3_at cX3_at 2 (some .int)] ++ wsX10)
def wsX1_placeOf : List Cond := .code yX1_placeOf cX1_placeOf 2 (some .int) :: ([.fieldLink RX1 15 "LieNights$Secret" "places" "[I", .static yX3_at, .initialized RX3, .code yX3_at cX3_at 2 (some .int)] ++ wsX10)
def wsX1_weightOf : List Cond := .code yX1_weightOf cX1_weightOf 2 (some .int) :: ([.fieldLink RX1 18 "LieNights$Secret" "weights" "[I", .static yX3_at, .initialized RX3, .code yX3_at cX3_at 2 (some .int)] ++ wsX10)
def wsX1_setGrowth : List Cond := .code yX1_setGrowth cX1_setGrowth 2 none :: ([.fieldLink RX1 28 "LieNights$Secret" "growth" "I"] ++ wsX10)
def wsX1_setKind : List Cond := .code yX1_setKind cX1_setKind 3 none :: ([.fieldLink RX1 11 "LieNights$Secret" "kinds" "[I", .static yX3_write, .initialized RX3, .code yX3_write cX3_write 3 none] ++ wsX10)
def wsX1_setPlace : List Cond := .code yX1_setPlace cX1_setPlace 3 none :: ([.fieldLink RX1 15 "LieNights$Secret" "places" "[I", .static yX3_write, .initialized RX3, .code yX3_write cX3_write 3 none] ++ wsX10)
def wsX2_get : List Cond := .code yX2_get cX2_get 2 (some .int) :: ([.fieldLink RX2 9 "LieNights$Sheet" "cells" "[I", .static yX3_at, .initialized RX3, .code yX3_at cX3_at 2 (some .int)] ++ wsX20)
def wsX1_kindByLetter : List Cond := .code yX1_kindByLetter cX1_kindByLetter 1 (some .int) :: ([])
def wsX1_takeKind : List Cond := .code yX1_takeKind cX1_takeKind 2 (some .int) :: ([.fieldLink RX1 11 "LieNights$Secret" "kinds" "[I", .fieldLink RX1 21 "LieNights$Secret" "answers" "I", .static yX3_write, .initialized RX3, .code yX3_write cX3_write 3 none] ++ wsX10)
def wsX1_isDigit : List Cond := .code yX1_isDigit cX1_isDigit 1 (some .boolean) :: ([])
def wsX1_takePlace : List Cond := .code yX1_takePlace cX1_takePlace 2 (some .int) :: ([.fieldLink RX1 15 "LieNights$Secret" "places" "[I", .fieldLink RX1 21 "LieNights$Secret" "answers" "I", .methodLink RX1 72 yX1_isDigit, .static yX1_isDigit, .initialized RX1, .code yX1_isDigit cX1_isDigit 1 (some .boolean), .static yX3_write, .initialized RX3, .code yX3_write cX3_write 3 none] ++ wsX10)
def wsX1_takeGrowth : List Cond := .code yX1_takeGrowth cX1_takeGrowth 2 (some .int) :: ([.fieldLink RX1 28 "LieNights$Secret" "growth" "I", .methodLink RX1 72 yX1_isDigit, .static yX1_isDigit, .initialized RX1, .code yX1_isDigit cX1_isDigit 1 (some .boolean)] ++ wsX10)
def wsX1_takeWeight : List Cond := .code yX1_takeWeight cX1_takeWeight 2 (some .int) :: ([.fieldLink RX1 18 "LieNights$Secret" "weights" "[I", .fieldLink RX1 25 "LieNights$Secret" "pillars" "I", .methodLink RX1 72 yX1_isDigit, .static yX1_isDigit, .initialized RX1, .code yX1_isDigit cX1_isDigit 1 (some .boolean), .static yX3_write, .initialized RX3, .code yX3_write cX3_write 3 none] ++ wsX10)
def wsX1_takeCode_r1 : List Cond := [Cond.fieldLink RX1 21 "LieNights$Secret" "answers" "I", Cond.fieldLink RX1 25 "LieNights$Secret" "pillars" "I", Cond.methodLink RX1 57 yX1_kindByLetter, Cond.static yX1_kindByLetter, Cond.initialized RX1, Cond.code yX1_kindByLetter cX1_kindByLetter 1 (some .int), Cond.methodLink RX1 60 yX1_takeKind, Cond.instanceMethod yX1_takeKind, Cond.selects RX1 yX1_takeKind yX1_takeKind, Cond.code yX1_takeKind cX1_takeKind 2 (some .int), Cond.fieldLink RX1 11 "LieNights$Secret" "kinds" "[I", Cond.static yX3_write, Cond.initialized RX3, Cond.code yX3_write cX3_write 3 none, Cond.methodLink RX1 63 yX1_takePlace, Cond.instanceMethod yX1_takePlace, Cond.selects RX1 yX1_takePlace yX1_takePlace, Cond.code yX1_takePlace cX1_takePlace 2 (some .int), Cond.fieldLink RX1 15 "LieNights$Secret" "places" "[I", Cond.methodLink RX1 72 yX1_isDigit, Cond.static yX1_isDigit, Cond.code yX1_isDigit cX1_isDigit 1 (some .boolean), Cond.methodLink RX1 66 yX1_takeGrowth, Cond.instanceMethod yX1_takeGrowth]
def wsX1_takeCode_r2 : List Cond := [Cond.selects RX1 yX1_takeGrowth yX1_takeGrowth, Cond.code yX1_takeGrowth cX1_takeGrowth 2 (some .int), Cond.fieldLink RX1 28 "LieNights$Secret" "growth" "I", Cond.methodLink RX1 69 yX1_takeWeight, Cond.instanceMethod yX1_takeWeight, Cond.selects RX1 yX1_takeWeight yX1_takeWeight, Cond.code yX1_takeWeight cX1_takeWeight 2 (some .int), Cond.fieldLink RX1 18 "LieNights$Secret" "weights" "[I"]
def wsX1_takeCode : List Cond := .code yX1_takeCode cX1_takeCode 3 (some .int) :: ((wsX1_takeCode_r1 ++ wsX1_takeCode_r2) ++ wsX10)
def wsX1_readText_r1 : List Cond := [Cond.fieldLink RX1 21 "LieNights$Secret" "answers" "I", Cond.fieldLink RX1 25 "LieNights$Secret" "pillars" "I", Cond.methodLink RX1 49 yX2_get, Cond.instanceMethod yX2_get, Cond.selects RX2 yX2_get yX2_get, Cond.initialized RX2, Cond.code yX2_get cX2_get 2 (some .int), Cond.fieldLink RX2 9 "LieNights$Sheet" "cells" "[I", Cond.static yX3_at, Cond.initialized RX3, Cond.code yX3_at cX3_at 2 (some .int), Cond.methodLink RX1 54 yX1_takeCode, Cond.instanceMethod yX1_takeCode, Cond.selects RX1 yX1_takeCode yX1_takeCode, Cond.initialized RX1, Cond.code yX1_takeCode cX1_takeCode 3 (some .int), Cond.methodLink RX1 57 yX1_kindByLetter, Cond.static yX1_kindByLetter, Cond.code yX1_kindByLetter cX1_kindByLetter 1 (some .int), Cond.methodLink RX1 60 yX1_takeKind, Cond.instanceMethod yX1_takeKind, Cond.selects RX1 yX1_takeKind yX1_takeKind, Cond.code yX1_takeKind cX1_takeKind 2 (some .int), Cond.fieldLink RX1 11 "LieNights$Secret" "kinds" "[I"]
def wsX1_readText_r2 : List Cond := [Cond.static yX3_write, Cond.code yX3_write cX3_write 3 none, Cond.methodLink RX1 63 yX1_takePlace, Cond.instanceMethod yX1_takePlace, Cond.selects RX1 yX1_takePlace yX1_takePlace, Cond.code yX1_takePlace cX1_takePlace 2 (some .int), Cond.fieldLink RX1 15 "LieNights$Secret" "places" "[I", Cond.methodLink RX1 72 yX1_isDigit, Cond.static yX1_isDigit, Cond.code yX1_isDigit cX1_isDigit 1 (some .boolean), Cond.methodLink RX1 66 yX1_takeGrowth, Cond.instanceMethod yX1_takeGrowth, Cond.selects RX1 yX1_takeGrowth yX1_takeGrowth, Cond.code yX1_takeGrowth cX1_takeGrowth 2 (some .int), Cond.fieldLink RX1 28 "LieNights$Secret" "growth" "I", Cond.methodLink RX1 69 yX1_takeWeight, Cond.instanceMethod yX1_takeWeight, Cond.selects RX1 yX1_takeWeight yX1_takeWeight, Cond.code yX1_takeWeight cX1_takeWeight 2 (some .int), Cond.fieldLink RX1 18 "LieNights$Secret" "weights" "[I"]
def wsX1_readText : List Cond := .code yX1_readText cX1_readText 6 (some .int) :: ((wsX1_readText_r1 ++ wsX1_readText_r2) ++ wsX10 ++ wsX20)
def wsX2_init : List Cond := .code yX2_init cX2_init 1 none :: ([.methodLink RX2 3 objectInit, .instanceMethod objectInit, .code objectInit ⟨#[0xb1]⟩ 1 none, .arrayClass .int, .fieldLink RX2 9 "LieNights$Sheet" "cells" "[I", .fieldLink RX2 15 "LieNights$Sheet" "lane" "I"] ++ wsX20)
def wsX2_isNothing : List Cond := .code yX2_isNothing cX2_isNothing 1 (some .boolean) :: ([.fieldLink RX2 15 "LieNights$Sheet" "lane" "I"] ++ wsX20)
def wsX2_isLikeLane : List Cond := .code yX2_isLikeLane cX2_isLikeLane 2 (some .boolean) :: ([.fieldLink RX2 15 "LieNights$Sheet" "lane" "I"] ++ wsX20)
def wsX2_faultAs : List Cond := .code yX2_faultAs cX2_faultAs 2 (some .int) :: ([.fieldLink RX2 15 "LieNights$Sheet" "lane" "I", .methodLink RX2 19 yX2_isNothing, .instanceMethod yX2_isNothing, .selects RX2 yX2_isNothing yX2_isNothing, .initialized RX2, .code yX2_isNothing cX2_isNothing 1 (some .boolean)] ++ wsX20)
def wsX3_within : List Cond := .code yX3_within cX3_within 2 (some .boolean) :: ([])
def wsX2_hasCells : List Cond := .code yX2_hasCells cX2_hasCells 3 (some .boolean) :: ([.fieldLink RX2 23 "LieNights$Sheet" "length" "I", .static yX3_within, .initialized RX3, .code yX3_within cX3_within 2 (some .boolean)] ++ wsX20)
def wsX2_renew : List Cond := .code yX2_renew cX2_renew 4 none :: ([.fieldLink RX2 15 "LieNights$Sheet" "lane" "I", .fieldLink RX2 23 "LieNights$Sheet" "length" "I", .fieldLink RX2 9 "LieNights$Sheet" "cells" "[I", .static yX3_write, .initialized RX3, .code yX3_write cX3_write 3 none] ++ wsX20)
def wsX2_clear : List Cond := .code yX2_clear cX2_clear 1 none :: ([.fieldLink RX2 15 "LieNights$Sheet" "lane" "I", .fieldLink RX2 23 "LieNights$Sheet" "length" "I"] ++ wsX20)
def wsX2_cut : List Cond := .code yX2_cut cX2_cut 2 (some .int) :: ([.fieldLink RX2 15 "LieNights$Sheet" "lane" "I"] ++ wsX20)
def wsX2_set : List Cond := .code yX2_set cX2_set 3 none :: ([.fieldLink RX2 9 "LieNights$Sheet" "cells" "[I", .methodLink RX2 38 yX2_cut, .instanceMethod yX2_cut, .selects RX2 yX2_cut yX2_cut, .initialized RX2, .code yX2_cut cX2_cut 2 (some .int), .fieldLink RX2 15 "LieNights$Sheet" "lane" "I", .static yX3_write, .initialized RX3, .code yX3_write cX3_write 3 none] ++ wsX20)
def wsX2_takeCells : List Cond := .code yX2_takeCells cX2_takeCells 6 none :: ([.fieldLink RX2 9 "LieNights$Sheet" "cells" "[I", .methodLink RX2 42 yX2_get, .instanceMethod yX2_get, .selects RX2 yX2_get yX2_get, .initialized RX2, .code yX2_get cX2_get 2 (some .int), .static yX3_at, .initialized RX3, .code yX3_at cX3_at 2 (some .int), .static yX3_write, .code yX3_write cX3_write 3 none] ++ wsX20)
def wsX3_init_r1 : List Cond := [Cond.methodLink RX3 3 objectInit, Cond.instanceMethod objectInit, Cond.code objectInit ⟨#[0xb1]⟩ 1 none, Cond.classLink RX3 11 RX2, Cond.fieldLink RX3 13 "LieNights" "sheets" "[LLieNights$Sheet;", Cond.classLink RX3 17 RX0, Cond.instantiable RX0 5, Cond.initialized RX0, Cond.fieldLink RX3 20 "LieNights" "plan" "LLieNights$Plan;", Cond.arrayClass .int, Cond.fieldLink RX3 24 "LieNights" "asked" "[I", Cond.fieldLink RX3 28 "LieNights" "showed" "[I", Cond.classLink RX3 31 RX1, Cond.instantiable RX1 6, Cond.initialized RX1, Cond.fieldLink RX3 34 "LieNights" "secret" "LLieNights$Secret;", Cond.fieldLink RX3 38 "LieNights" "spare" "LLieNights$Secret;", Cond.fieldLink RX3 41 "LieNights" "planIsOld" "Z", Cond.fieldLink RX3 45 "LieNights" "lastFault" "I", Cond.instantiable RX2 3, Cond.initialized RX2, Cond.instanceMethod yX0_init, Cond.code yX0_init cX0_init 1 none, Cond.methodLink RX0 5 objectInit]
def wsX3_init_r2 : List Cond := [Cond.fieldLink RX0 11 "LieNights$Plan" "alike" "[I", Cond.fieldLink RX0 17 "LieNights$Plan" "worst" "[I", Cond.fieldLink RX0 20 "LieNights$Plan" "first" "[I", Cond.fieldLink RX0 23 "LieNights$Plan" "nights" "[I", Cond.instanceMethod yX1_init, Cond.code yX1_init cX1_init 1 none, Cond.methodLink RX1 3 objectInit, Cond.fieldLink RX1 11 "LieNights$Secret" "kinds" "[I", Cond.fieldLink RX1 15 "LieNights$Secret" "places" "[I", Cond.fieldLink RX1 18 "LieNights$Secret" "weights" "[I", Cond.instanceMethod yX2_init, Cond.code yX2_init cX2_init 1 none, Cond.methodLink RX2 3 objectInit, Cond.fieldLink RX2 9 "LieNights$Sheet" "cells" "[I", Cond.fieldLink RX2 15 "LieNights$Sheet" "lane" "I"]
def wsX3_init : List Cond := .code yX3_init cX3_init 2 none :: ((wsX3_init_r1 ++ wsX3_init_r2) ++ wsX30 ++ wsX00 ++ wsX10 ++ wsX20)
def wsX3_sheetOf : List Cond := .code yX3_sheetOf cX3_sheetOf 2 (some (.object "LieNights$Sheet")) :: ([.fieldLink RX3 13 "LieNights" "sheets" "[LLieNights$Sheet;"] ++ wsX30)
def wsX3_faulted : List Cond := .code yX3_faulted cX3_faulted 2 (some .int) :: ([.fieldLink RX3 45 "LieNights" "lastFault" "I"] ++ wsX30)
def wsX3_takeSpare : List Cond := .code yX3_takeSpare cX3_takeSpare 2 none :: ([.fieldLink RX3 34 "LieNights" "secret" "LLieNights$Secret;", .fieldLink RX3 38 "LieNights" "spare" "LLieNights$Secret;", .fieldLink RX3 161 "LieNights" "readings" "I", .fieldLink RX3 41 "LieNights" "planIsOld" "Z"] ++ wsX30)
def wsX3_secret_r1 : List Cond := [Cond.fieldLink RX3 45 "LieNights" "lastFault" "I", Cond.fieldLink RX3 38 "LieNights" "spare" "LLieNights$Secret;", Cond.fieldLink RX3 34 "LieNights" "secret" "LLieNights$Secret;", Cond.methodLink RX3 50 yX3_sheetOf, Cond.instanceMethod yX3_sheetOf, Cond.selects RX3 yX3_sheetOf yX3_sheetOf, Cond.initialized RX3, Cond.code yX3_sheetOf cX3_sheetOf 2 (some (.object "LieNights$Sheet")), Cond.fieldLink RX3 13 "LieNights" "sheets" "[LLieNights$Sheet;", Cond.methodLink RX3 54 yX3_within, Cond.static yX3_within, Cond.code yX3_within cX3_within 2 (some .boolean), Cond.methodLink RX3 58 yX2_faultAs, Cond.instanceMethod yX2_faultAs, Cond.selects RX2 yX2_faultAs yX2_faultAs, Cond.initialized RX2, Cond.code yX2_faultAs cX2_faultAs 2 (some .int), Cond.fieldLink RX2 15 "LieNights$Sheet" "lane" "I", Cond.methodLink RX2 19 yX2_isNothing, Cond.instanceMethod yX2_isNothing, Cond.selects RX2 yX2_isNothing yX2_isNothing, Cond.code yX2_isNothing cX2_isNothing 1 (some .boolean), Cond.methodLink RX3 62 yX2_hasCells, Cond.instanceMethod yX2_hasCells]
def wsX3_secret_r2 : List Cond := [Cond.selects RX2 yX2_hasCells yX2_hasCells, Cond.code yX2_hasCells cX2_hasCells 3 (some .boolean), Cond.fieldLink RX2 23 "LieNights$Sheet" "length" "I", Cond.methodLink RX3 65 yX3_faulted, Cond.instanceMethod yX3_faulted, Cond.selects RX3 yX3_faulted yX3_faulted, Cond.code yX3_faulted cX3_faulted 2 (some .int), Cond.methodLink RX3 68 yX1_readText, Cond.instanceMethod yX1_readText, Cond.selects RX1 yX1_readText yX1_readText, Cond.initialized RX1, Cond.code yX1_readText cX1_readText 6 (some .int), Cond.fieldLink RX1 21 "LieNights$Secret" "answers" "I", Cond.fieldLink RX1 25 "LieNights$Secret" "pillars" "I", Cond.methodLink RX1 49 yX2_get, Cond.instanceMethod yX2_get, Cond.selects RX2 yX2_get yX2_get, Cond.code yX2_get cX2_get 2 (some .int), Cond.fieldLink RX2 9 "LieNights$Sheet" "cells" "[I", Cond.static yX3_at, Cond.code yX3_at cX3_at 2 (some .int), Cond.methodLink RX1 54 yX1_takeCode, Cond.instanceMethod yX1_takeCode, Cond.selects RX1 yX1_takeCode yX1_takeCode]
def wsX3_secret_r3 : List Cond := [Cond.code yX1_takeCode cX1_takeCode 3 (some .int), Cond.methodLink RX1 57 yX1_kindByLetter, Cond.static yX1_kindByLetter, Cond.code yX1_kindByLetter cX1_kindByLetter 1 (some .int), Cond.methodLink RX1 60 yX1_takeKind, Cond.instanceMethod yX1_takeKind, Cond.selects RX1 yX1_takeKind yX1_takeKind, Cond.code yX1_takeKind cX1_takeKind 2 (some .int), Cond.fieldLink RX1 11 "LieNights$Secret" "kinds" "[I", Cond.static yX3_write, Cond.code yX3_write cX3_write 3 none, Cond.methodLink RX1 63 yX1_takePlace, Cond.instanceMethod yX1_takePlace, Cond.selects RX1 yX1_takePlace yX1_takePlace, Cond.code yX1_takePlace cX1_takePlace 2 (some .int), Cond.fieldLink RX1 15 "LieNights$Secret" "places" "[I", Cond.methodLink RX1 72 yX1_isDigit, Cond.static yX1_isDigit, Cond.code yX1_isDigit cX1_isDigit 1 (some .boolean), Cond.methodLink RX1 66 yX1_takeGrowth, Cond.instanceMethod yX1_takeGrowth, Cond.selects RX1 yX1_takeGrowth yX1_takeGrowth, Cond.code yX1_takeGrowth cX1_takeGrowth 2 (some .int), Cond.fieldLink RX1 28 "LieNights$Secret" "growth" "I"]
def wsX3_secret_r4 : List Cond := [Cond.methodLink RX1 69 yX1_takeWeight, Cond.instanceMethod yX1_takeWeight, Cond.selects RX1 yX1_takeWeight yX1_takeWeight, Cond.code yX1_takeWeight cX1_takeWeight 2 (some .int), Cond.fieldLink RX1 18 "LieNights$Secret" "weights" "[I", Cond.methodLink RX3 72 yX3_takeSpare, Cond.instanceMethod yX3_takeSpare, Cond.selects RX3 yX3_takeSpare yX3_takeSpare, Cond.code yX3_takeSpare cX3_takeSpare 2 none, Cond.fieldLink RX3 161 "LieNights" "readings" "I", Cond.fieldLink RX3 41 "LieNights" "planIsOld" "Z", Cond.methodLink RX3 75 yX1_answers, Cond.instanceMethod yX1_answers, Cond.selects RX1 yX1_answers yX1_answers, Cond.code yX1_answers cX1_answers 1 (some .int)]
def wsX3_secret : List Cond := .code yX3_secret cX3_secret 8 (some .int) :: ((wsX3_secret_r1 ++ (wsX3_secret_r2 ++ (wsX3_secret_r3 ++ wsX3_secret_r4))) ++ wsX30 ++ wsX20 ++ wsX10)
def wsX3_isAnswer : List Cond := .code yX3_isAnswer cX3_isAnswer 2 (some .boolean) :: ([.fieldLink RX3 34 "LieNights" "secret" "LLieNights$Secret;", .methodLink RX3 75 yX1_answers, .instanceMethod yX1_answers, .selects RX1 yX1_answers yX1_answers, .initialized RX1, .code yX1_answers cX1_answers 1 (some .int), .fieldLink RX1 21 "LieNights$Secret" "answers" "I"] ++ wsX30 ++ wsX10)
def wsX3_ofAnswer_r1 : List Cond := [Cond.fieldLink RX3 34 "LieNights" "secret" "LLieNights$Secret;", Cond.methodLink RX3 79 yX3_isAnswer, Cond.instanceMethod yX3_isAnswer, Cond.selects RX3 yX3_isAnswer yX3_isAnswer, Cond.initialized RX3, Cond.code yX3_isAnswer cX3_isAnswer 2 (some .boolean), Cond.methodLink RX3 75 yX1_answers, Cond.instanceMethod yX1_answers, Cond.selects RX1 yX1_answers yX1_answers, Cond.initialized RX1, Cond.code yX1_answers cX1_answers 1 (some .int), Cond.fieldLink RX1 21 "LieNights$Secret" "answers" "I", Cond.methodLink RX3 54 yX3_within, Cond.static yX3_within, Cond.code yX3_within cX3_within 2 (some .boolean), Cond.methodLink RX3 83 yX1_kindOf, Cond.instanceMethod yX1_kindOf, Cond.selects RX1 yX1_kindOf yX1_kindOf, Cond.code yX1_kindOf cX1_kindOf 2 (some .int), Cond.fieldLink RX1 11 "LieNights$Secret" "kinds" "[I", Cond.static yX3_at, Cond.code yX3_at cX3_at 2 (some .int), Cond.methodLink RX3 86 yX1_placeOf, Cond.instanceMethod yX1_placeOf]
def wsX3_ofAnswer_r2 : List Cond := [Cond.selects RX1 yX1_placeOf yX1_placeOf, Cond.code yX1_placeOf cX1_placeOf 2 (some .int), Cond.fieldLink RX1 15 "LieNights$Secret" "places" "[I"]
def wsX3_ofAnswer : List Cond := .code yX3_ofAnswer cX3_ofAnswer 3 (some .int) :: ((wsX3_ofAnswer_r1 ++ wsX3_ofAnswer_r2) ++ wsX30 ++ wsX10)
def wsX3_move_r1 : List Cond := [Cond.fieldLink RX3 34 "LieNights" "secret" "LLieNights$Secret;", Cond.fieldLink RX3 41 "LieNights" "planIsOld" "Z", Cond.methodLink RX3 79 yX3_isAnswer, Cond.instanceMethod yX3_isAnswer, Cond.selects RX3 yX3_isAnswer yX3_isAnswer, Cond.initialized RX3, Cond.code yX3_isAnswer cX3_isAnswer 2 (some .boolean), Cond.methodLink RX3 75 yX1_answers, Cond.instanceMethod yX1_answers, Cond.selects RX1 yX1_answers yX1_answers, Cond.initialized RX1, Cond.code yX1_answers cX1_answers 1 (some .int), Cond.fieldLink RX1 21 "LieNights$Secret" "answers" "I", Cond.methodLink RX3 54 yX3_within, Cond.static yX3_within, Cond.code yX3_within cX3_within 2 (some .boolean), Cond.methodLink RX3 86 yX1_placeOf, Cond.instanceMethod yX1_placeOf, Cond.selects RX1 yX1_placeOf yX1_placeOf, Cond.code yX1_placeOf cX1_placeOf 2 (some .int), Cond.fieldLink RX1 15 "LieNights$Secret" "places" "[I", Cond.static yX3_at, Cond.code yX3_at cX3_at 2 (some .int), Cond.methodLink RX3 89 yX1_setPlace]
def wsX3_move_r2 : List Cond := [Cond.instanceMethod yX1_setPlace, Cond.selects RX1 yX1_setPlace yX1_setPlace, Cond.code yX1_setPlace cX1_setPlace 3 none, Cond.static yX3_write, Cond.code yX3_write cX3_write 3 none]
def wsX3_move : List Cond := .code yX3_move cX3_move 4 (some .int) :: ((wsX3_move_r1 ++ wsX3_move_r2) ++ wsX30 ++ wsX10)
def wsX3_noSecret : List Cond := .code yX3_noSecret cX3_noSecret 1 (some .boolean) :: ([.fieldLink RX3 34 "LieNights" "secret" "LLieNights$Secret;", .methodLink RX3 75 yX1_answers, .instanceMethod yX1_answers, .selects RX1 yX1_answers yX1_answers, .initialized RX1, .code yX1_answers cX1_answers 1 (some .int), .fieldLink RX1 21 "LieNights$Secret" "answers" "I"] ++ wsX30 ++ wsX10)
def wsX3_grow : List Cond := .code yX3_grow cX3_grow 3 (some .int) :: ([.fieldLink RX3 34 "LieNights" "secret" "LLieNights$Secret;", .methodLink RX3 54 yX3_within, .static yX3_within, .initialized RX3, .code yX3_within cX3_within 2 (some .boolean), .methodLink RX3 93 yX3_noSecret, .instanceMethod yX3_noSecret, .selects RX3 yX3_noSecret yX3_noSecret, .code yX3_noSecret cX3_noSecret 1 (some .boolean), .methodLink RX3 75 yX1_answers, .instanceMethod yX1_answers, .selects RX1 yX1_answers yX1_answers, .initialized RX1, .code yX1_answers cX1_answers 1 (some .int), .fieldLink RX1 21 "LieNights$Secret" "answers" "I", .methodLink RX3 97 yX1_growth, .instanceMethod yX1_growth, .selects RX1 yX1_growth yX1_growth, .code yX1_growth cX1_growth 1 (some .int), .fieldLink RX1 28 "LieNights$Secret" "growth" "I", .methodLink RX3 100 yX1_setGrowth, .instanceMethod yX1_setGrowth, .selects RX1 yX1_setGrowth yX1_setGrowth, .code yX1_setGrowth cX1_setGrowth 2 none] ++ wsX30 ++ wsX10)
def wsX3_shown : List Cond := .code yX3_shown cX3_shown 3 (some .int) :: ([.fieldLink RX3 34 "LieNights" "secret" "LLieNights$Secret;", .methodLink RX3 79 yX3_isAnswer, .instanceMethod yX3_isAnswer, .selects RX3 yX3_isAnswer yX3_isAnswer, .initialized RX3, .code yX3_isAnswer cX3_isAnswer 2 (some .boolean), .methodLink RX3 75 yX1_answers, .instanceMethod yX1_answers, .selects RX1 yX1_answers yX1_answers, .initialized RX1, .code yX1_answers cX1_answers 1 (some .int), .fieldLink RX1 21 "LieNights$Secret" "answers" "I", .methodLink RX3 104 yX1_shownBy, .instanceMethod yX1_shownBy, .selects RX1 yX1_shownBy yX1_shownBy, .code yX1_shownBy cX1_shownBy 4 (some .int), .fieldLink RX1 15 "LieNights$Secret" "places" "[I", .methodLink RX1 39 Lib.Math.abs.name, .static Lib.Math.abs.name, .initialized "java/lang/Math", .code Lib.Math.abs.name Lib.Math.abs.code 1 (some .int), .fieldLink RX1 11 "LieNights$Secret" "kinds" "[I", .static yX3_at, .code yX3_at cX3_at 2 (some .int)] ++ wsX30 ++ wsX10)
def wsX3_areAnswers : List Cond := .code yX3_areAnswers cX3_areAnswers 5 (some .boolean) :: ([.methodLink RX3 119 yX2_get, .instanceMethod yX2_get, .selects RX2 yX2_get yX2_get, .initialized RX2, .code yX2_get cX2_get 2 (some .int), .fieldLink RX2 9 "LieNights$Sheet" "cells" "[I", .static yX3_at, .initialized RX3, .code yX3_at cX3_at 2 (some .int), .methodLink RX3 79 yX3_isAnswer, .instanceMethod yX3_isAnswer, .selects RX3 yX3_isAnswer yX3_isAnswer, .code yX3_isAnswer cX3_isAnswer 2 (some .boolean), .fieldLink RX3 34 "LieNights" "secret" "LLieNights$Secret;", .methodLink RX3 75 yX1_answers, .instanceMethod yX1_answers, .selects RX1 yX1_answers yX1_answers, .initialized RX1, .code yX1_answers cX1_answers 1 (some .int), .fieldLink RX1 21 "LieNights$Secret" "answers" "I"] ++ wsX20 ++ wsX30 ++ wsX10)
def wsX3_mayBe_r1 : List Cond := [Cond.fieldLink RX3 34 "LieNights" "secret" "LLieNights$Secret;", Cond.methodLink RX3 220 yX1_all, Cond.instanceMethod yX1_all, Cond.selects RX1 yX1_all yX1_all, Cond.initialized RX1, Cond.code yX1_all cX1_all 1 (some .int), Cond.fieldLink RX1 21 "LieNights$Secret" "answers" "I", Cond.methodLink RX3 119 yX2_get, Cond.instanceMethod yX2_get, Cond.selects RX2 yX2_get yX2_get, Cond.initialized RX2, Cond.code yX2_get cX2_get 2 (some .int), Cond.fieldLink RX2 9 "LieNights$Sheet" "cells" "[I", Cond.static yX3_at, Cond.initialized RX3, Cond.code yX3_at cX3_at 2 (some .int), Cond.methodLink RX3 152 yX1_alike, Cond.instanceMethod yX1_alike, Cond.selects RX1 yX1_alike yX1_alike, Cond.code yX1_alike cX1_alike 6 (some .int), Cond.methodLink RX1 45 yX1_shownBy, Cond.instanceMethod yX1_shownBy, Cond.selects RX1 yX1_shownBy yX1_shownBy, Cond.code yX1_shownBy cX1_shownBy 4 (some .int)]
def wsX3_mayBe_r2 : List Cond := [Cond.fieldLink RX1 15 "LieNights$Secret" "places" "[I", Cond.methodLink RX1 39 Lib.Math.abs.name, Cond.static Lib.Math.abs.name, Cond.initialized "java/lang/Math", Cond.code Lib.Math.abs.name Lib.Math.abs.code 1 (some .int), Cond.fieldLink RX1 11 "LieNights$Secret" "kinds" "[I"]
def wsX3_mayBe : List Cond := .code yX3_mayBe cX3_mayBe 7 (some .int) :: ((wsX3_mayBe_r1 ++ wsX3_mayBe_r2) ++ wsX30 ++ wsX10 ++ wsX20)
def wsX3_boundOn : List Cond := .code yX3_boundOn cX3_boundOn 6 (some .int) :: ([.methodLink RX3 119 yX2_get, .instanceMethod yX2_get, .selects RX2 yX2_get yX2_get, .initialized RX2, .code yX2_get cX2_get 2 (some .int), .fieldLink RX2 9 "LieNights$Sheet" "cells" "[I", .static yX3_at, .initialized RX3, .code yX3_at cX3_at 2 (some .int)] ++ wsX20)
def wsX3_nights_r1 : List Cond := [Cond.fieldLink RX3 45 "LieNights" "lastFault" "I", Cond.fieldLink RX3 34 "LieNights" "secret" "LLieNights$Secret;", Cond.methodLink RX3 50 yX3_sheetOf, Cond.instanceMethod yX3_sheetOf, Cond.selects RX3 yX3_sheetOf yX3_sheetOf, Cond.initialized RX3, Cond.code yX3_sheetOf cX3_sheetOf 2 (some (.object "LieNights$Sheet")), Cond.fieldLink RX3 13 "LieNights" "sheets" "[LLieNights$Sheet;", Cond.methodLink RX3 79 yX3_isAnswer, Cond.instanceMethod yX3_isAnswer, Cond.selects RX3 yX3_isAnswer yX3_isAnswer, Cond.code yX3_isAnswer cX3_isAnswer 2 (some .boolean), Cond.methodLink RX3 75 yX1_answers, Cond.instanceMethod yX1_answers, Cond.selects RX1 yX1_answers yX1_answers, Cond.initialized RX1, Cond.code yX1_answers cX1_answers 1 (some .int), Cond.fieldLink RX1 21 "LieNights$Secret" "answers" "I", Cond.methodLink RX3 54 yX3_within, Cond.static yX3_within, Cond.code yX3_within cX3_within 2 (some .boolean), Cond.methodLink RX3 58 yX2_faultAs, Cond.instanceMethod yX2_faultAs, Cond.selects RX2 yX2_faultAs yX2_faultAs]
def wsX3_nights_r2 : List Cond := [Cond.initialized RX2, Cond.code yX2_faultAs cX2_faultAs 2 (some .int), Cond.fieldLink RX2 15 "LieNights$Sheet" "lane" "I", Cond.methodLink RX2 19 yX2_isNothing, Cond.instanceMethod yX2_isNothing, Cond.selects RX2 yX2_isNothing yX2_isNothing, Cond.code yX2_isNothing cX2_isNothing 1 (some .boolean), Cond.methodLink RX3 62 yX2_hasCells, Cond.instanceMethod yX2_hasCells, Cond.selects RX2 yX2_hasCells yX2_hasCells, Cond.code yX2_hasCells cX2_hasCells 3 (some .boolean), Cond.fieldLink RX2 23 "LieNights$Sheet" "length" "I", Cond.methodLink RX3 65 yX3_faulted, Cond.instanceMethod yX3_faulted, Cond.selects RX3 yX3_faulted yX3_faulted, Cond.code yX3_faulted cX3_faulted 2 (some .int), Cond.methodLink RX3 108 yX3_areAnswers, Cond.instanceMethod yX3_areAnswers, Cond.selects RX3 yX3_areAnswers yX3_areAnswers, Cond.code yX3_areAnswers cX3_areAnswers 5 (some .boolean), Cond.methodLink RX3 119 yX2_get, Cond.instanceMethod yX2_get, Cond.selects RX2 yX2_get yX2_get, Cond.code yX2_get cX2_get 2 (some .int)]
def wsX3_nights_r3 : List Cond := [Cond.fieldLink RX2 9 "LieNights$Sheet" "cells" "[I", Cond.static yX3_at, Cond.code yX3_at cX3_at 2 (some .int), Cond.methodLink RX3 112 yX3_mayBe, Cond.instanceMethod yX3_mayBe, Cond.selects RX3 yX3_mayBe yX3_mayBe, Cond.code yX3_mayBe cX3_mayBe 7 (some .int), Cond.methodLink RX3 220 yX1_all, Cond.instanceMethod yX1_all, Cond.selects RX1 yX1_all yX1_all, Cond.code yX1_all cX1_all 1 (some .int), Cond.methodLink RX3 152 yX1_alike, Cond.instanceMethod yX1_alike, Cond.selects RX1 yX1_alike yX1_alike, Cond.code yX1_alike cX1_alike 6 (some .int), Cond.methodLink RX1 45 yX1_shownBy, Cond.instanceMethod yX1_shownBy, Cond.selects RX1 yX1_shownBy yX1_shownBy, Cond.code yX1_shownBy cX1_shownBy 4 (some .int), Cond.fieldLink RX1 15 "LieNights$Secret" "places" "[I", Cond.methodLink RX1 39 Lib.Math.abs.name, Cond.static Lib.Math.abs.name, Cond.initialized "java/lang/Math", Cond.code Lib.Math.abs.name Lib.Math.abs.code 1 (some .int)]
def wsX3_nights_r4 : List Cond := [Cond.fieldLink RX1 11 "LieNights$Secret" "kinds" "[I", Cond.methodLink RX3 116 yX3_boundOn, Cond.instanceMethod yX3_boundOn, Cond.selects RX3 yX3_boundOn yX3_boundOn, Cond.code yX3_boundOn cX3_boundOn 6 (some .int), Cond.methodLink RX3 104 yX1_shownBy]
def wsX3_nights : List Cond := .code yX3_nights cX3_nights 10 (some .int) :: ((wsX3_nights_r1 ++ (wsX3_nights_r2 ++ (wsX3_nights_r3 ++ wsX3_nights_r4))) ++ wsX30 ++ wsX10 ++ wsX20)
def wsX3_isSetOf : List Cond := .code yX3_isSetOf cX3_isSetOf 2 (some .boolean) :: ([])
def wsX3_planned_r1 : List Cond := [Cond.fieldLink RX3 41 "LieNights" "planIsOld" "Z", Cond.fieldLink RX3 20 "LieNights" "plan" "LLieNights$Plan;", Cond.fieldLink RX3 34 "LieNights" "secret" "LLieNights$Secret;", Cond.methodLink RX3 216 yX0_make, Cond.instanceMethod yX0_make, Cond.selects RX0 yX0_make yX0_make, Cond.initialized RX0, Cond.code yX0_make cX0_make 4 none, Cond.fieldLink RX0 34 "LieNights$Plan" "answers" "I", Cond.fieldLink RX0 11 "LieNights$Plan" "alike" "[I", Cond.fieldLink RX0 17 "LieNights$Plan" "worst" "[I", Cond.fieldLink RX0 23 "LieNights$Plan" "nights" "[I", Cond.methodLink RX0 30 yX1_answers, Cond.instanceMethod yX1_answers, Cond.selects RX1 yX1_answers yX1_answers, Cond.initialized RX1, Cond.code yX1_answers cX1_answers 1 (some .int), Cond.fieldLink RX1 21 "LieNights$Secret" "answers" "I", Cond.methodLink RX0 37 yX1_alike, Cond.instanceMethod yX1_alike, Cond.selects RX1 yX1_alike yX1_alike, Cond.code yX1_alike cX1_alike 6 (some .int), Cond.methodLink RX1 45 yX1_shownBy, Cond.instanceMethod yX1_shownBy]
def wsX3_planned_r2 : List Cond := [Cond.selects RX1 yX1_shownBy yX1_shownBy, Cond.code yX1_shownBy cX1_shownBy 4 (some .int), Cond.fieldLink RX1 15 "LieNights$Secret" "places" "[I", Cond.methodLink RX1 39 Lib.Math.abs.name, Cond.static Lib.Math.abs.name, Cond.initialized "java/lang/Math", Cond.code Lib.Math.abs.name Lib.Math.abs.code 1 (some .int), Cond.fieldLink RX1 11 "LieNights$Secret" "kinds" "[I", Cond.static yX3_at, Cond.initialized RX3, Cond.code yX3_at cX3_at 2 (some .int), Cond.static yX3_write, Cond.code yX3_write cX3_write 3 none, Cond.methodLink RX0 44 yX1_all, Cond.instanceMethod yX1_all, Cond.selects RX1 yX1_all yX1_all, Cond.code yX1_all cX1_all 1 (some .int), Cond.methodLink RX0 47 yX0_tryAsking, Cond.instanceMethod yX0_tryAsking, Cond.selects RX0 yX0_tryAsking yX0_tryAsking, Cond.code yX0_tryAsking cX0_tryAsking 8 none, Cond.methodLink RX0 64 Lib.Math.max.name, Cond.static Lib.Math.max.name, Cond.code Lib.Math.max.name Lib.Math.max.code 2 (some .int)]
def wsX3_planned_r3 : List Cond := [Cond.fieldLink RX0 20 "LieNights$Plan" "first" "[I", Cond.methodLink RX0 72 Lib.Math.min.name, Cond.static Lib.Math.min.name, Cond.code Lib.Math.min.name Lib.Math.min.code 2 (some .int), Cond.methodLink RX0 51 yJ6_bitCount_0f7a4, Cond.static yJ6_bitCount_0f7a4, Cond.initialized RJ6, Cond.code yJ6_bitCount_0f7a4 cJ6_bitCount_0f7a4 1 (some .int), Cond.constant RJ6 265 (1431655765), Cond.constant RJ6 266 (858993459), Cond.constant RJ6 267 (252645135), Cond.static yX3_has, Cond.code yX3_has cX3_has 2 (some .boolean), Cond.methodLink RX0 61 yX0_worstOf, Cond.instanceMethod yX0_worstOf, Cond.selects RX0 yX0_worstOf yX0_worstOf, Cond.code yX0_worstOf cX0_worstOf 2 (some .int), Cond.methodLink RX0 69 yX0_nightsOf, Cond.instanceMethod yX0_nightsOf, Cond.selects RX0 yX0_nightsOf yX0_nightsOf, Cond.code yX0_nightsOf cX0_nightsOf 2 (some .int)]
def wsX3_planned : List Cond := .code yX3_planned cX3_planned 1 (some (.object "LieNights$Plan")) :: ((wsX3_planned_r1 ++ (wsX3_planned_r2 ++ wsX3_planned_r3)) ++ wsX30 ++ wsX00 ++ wsX10)
def wsX3_worst_r1 : List Cond := [Cond.fieldLink RX3 34 "LieNights" "secret" "LLieNights$Secret;", Cond.methodLink RX3 93 yX3_noSecret, Cond.instanceMethod yX3_noSecret, Cond.selects RX3 yX3_noSecret yX3_noSecret, Cond.initialized RX3, Cond.code yX3_noSecret cX3_noSecret 1 (some .boolean), Cond.methodLink RX3 75 yX1_answers, Cond.instanceMethod yX1_answers, Cond.selects RX1 yX1_answers yX1_answers, Cond.initialized RX1, Cond.code yX1_answers cX1_answers 1 (some .int), Cond.fieldLink RX1 21 "LieNights$Secret" "answers" "I", Cond.methodLink RX3 122 yX3_isSetOf, Cond.static yX3_isSetOf, Cond.code yX3_isSetOf cX3_isSetOf 2 (some .boolean), Cond.methodLink RX3 125 yX3_planned, Cond.instanceMethod yX3_planned, Cond.selects RX3 yX3_planned yX3_planned, Cond.code yX3_planned cX3_planned 1 (some (.object "LieNights$Plan")), Cond.fieldLink RX3 41 "LieNights" "planIsOld" "Z", Cond.fieldLink RX3 20 "LieNights" "plan" "LLieNights$Plan;", Cond.methodLink RX3 216 yX0_make, Cond.instanceMethod yX0_make, Cond.selects RX0 yX0_make yX0_make]
def wsX3_worst_r2 : List Cond := [Cond.initialized RX0, Cond.code yX0_make cX0_make 4 none, Cond.fieldLink RX0 34 "LieNights$Plan" "answers" "I", Cond.fieldLink RX0 11 "LieNights$Plan" "alike" "[I", Cond.fieldLink RX0 17 "LieNights$Plan" "worst" "[I", Cond.fieldLink RX0 23 "LieNights$Plan" "nights" "[I", Cond.methodLink RX0 30 yX1_answers, Cond.methodLink RX0 37 yX1_alike, Cond.instanceMethod yX1_alike, Cond.selects RX1 yX1_alike yX1_alike, Cond.code yX1_alike cX1_alike 6 (some .int), Cond.methodLink RX1 45 yX1_shownBy, Cond.instanceMethod yX1_shownBy, Cond.selects RX1 yX1_shownBy yX1_shownBy, Cond.code yX1_shownBy cX1_shownBy 4 (some .int), Cond.fieldLink RX1 15 "LieNights$Secret" "places" "[I", Cond.methodLink RX1 39 Lib.Math.abs.name, Cond.static Lib.Math.abs.name, Cond.initialized "java/lang/Math", Cond.code Lib.Math.abs.name Lib.Math.abs.code 1 (some .int), Cond.fieldLink RX1 11 "LieNights$Secret" "kinds" "[I", Cond.static yX3_at, Cond.code yX3_at cX3_at 2 (some .int), Cond.static yX3_write]
def wsX3_worst_r3 : List Cond := [Cond.code yX3_write cX3_write 3 none, Cond.methodLink RX0 44 yX1_all, Cond.instanceMethod yX1_all, Cond.selects RX1 yX1_all yX1_all, Cond.code yX1_all cX1_all 1 (some .int), Cond.methodLink RX0 47 yX0_tryAsking, Cond.instanceMethod yX0_tryAsking, Cond.selects RX0 yX0_tryAsking yX0_tryAsking, Cond.code yX0_tryAsking cX0_tryAsking 8 none, Cond.methodLink RX0 64 Lib.Math.max.name, Cond.static Lib.Math.max.name, Cond.code Lib.Math.max.name Lib.Math.max.code 2 (some .int), Cond.fieldLink RX0 20 "LieNights$Plan" "first" "[I", Cond.methodLink RX0 72 Lib.Math.min.name, Cond.static Lib.Math.min.name, Cond.code Lib.Math.min.name Lib.Math.min.code 2 (some .int), Cond.methodLink RX0 51 yJ6_bitCount_0f7a4, Cond.static yJ6_bitCount_0f7a4, Cond.initialized RJ6, Cond.code yJ6_bitCount_0f7a4 cJ6_bitCount_0f7a4 1 (some .int), Cond.constant RJ6 265 (1431655765), Cond.constant RJ6 266 (858993459), Cond.constant RJ6 267 (252645135), Cond.static yX3_has]
def wsX3_worst_r4 : List Cond := [Cond.code yX3_has cX3_has 2 (some .boolean), Cond.methodLink RX0 61 yX0_worstOf, Cond.instanceMethod yX0_worstOf, Cond.selects RX0 yX0_worstOf yX0_worstOf, Cond.code yX0_worstOf cX0_worstOf 2 (some .int), Cond.methodLink RX0 69 yX0_nightsOf, Cond.instanceMethod yX0_nightsOf, Cond.selects RX0 yX0_nightsOf yX0_nightsOf, Cond.code yX0_nightsOf cX0_nightsOf 2 (some .int), Cond.methodLink RX3 129 yX0_worstOf]
def wsX3_worst : List Cond := .code yX3_worst cX3_worst 2 (some .int) :: ((wsX3_worst_r1 ++ (wsX3_worst_r2 ++ (wsX3_worst_r3 ++ wsX3_worst_r4))) ++ wsX30 ++ wsX10 ++ wsX00)
def wsX3_ask_r1 : List Cond := [Cond.fieldLink RX3 34 "LieNights" "secret" "LLieNights$Secret;", Cond.methodLink RX3 93 yX3_noSecret, Cond.instanceMethod yX3_noSecret, Cond.selects RX3 yX3_noSecret yX3_noSecret, Cond.initialized RX3, Cond.code yX3_noSecret cX3_noSecret 1 (some .boolean), Cond.methodLink RX3 75 yX1_answers, Cond.instanceMethod yX1_answers, Cond.selects RX1 yX1_answers yX1_answers, Cond.initialized RX1, Cond.code yX1_answers cX1_answers 1 (some .int), Cond.fieldLink RX1 21 "LieNights$Secret" "answers" "I", Cond.methodLink RX3 122 yX3_isSetOf, Cond.static yX3_isSetOf, Cond.code yX3_isSetOf cX3_isSetOf 2 (some .boolean), Cond.methodLink RX3 125 yX3_planned, Cond.instanceMethod yX3_planned, Cond.selects RX3 yX3_planned yX3_planned, Cond.code yX3_planned cX3_planned 1 (some (.object "LieNights$Plan")), Cond.fieldLink RX3 41 "LieNights" "planIsOld" "Z", Cond.fieldLink RX3 20 "LieNights" "plan" "LLieNights$Plan;", Cond.methodLink RX3 216 yX0_make, Cond.instanceMethod yX0_make, Cond.selects RX0 yX0_make yX0_make]
def wsX3_ask_r2 : List Cond := [Cond.initialized RX0, Cond.code yX0_make cX0_make 4 none, Cond.fieldLink RX0 34 "LieNights$Plan" "answers" "I", Cond.fieldLink RX0 11 "LieNights$Plan" "alike" "[I", Cond.fieldLink RX0 17 "LieNights$Plan" "worst" "[I", Cond.fieldLink RX0 23 "LieNights$Plan" "nights" "[I", Cond.methodLink RX0 30 yX1_answers, Cond.methodLink RX0 37 yX1_alike, Cond.instanceMethod yX1_alike, Cond.selects RX1 yX1_alike yX1_alike, Cond.code yX1_alike cX1_alike 6 (some .int), Cond.methodLink RX1 45 yX1_shownBy, Cond.instanceMethod yX1_shownBy, Cond.selects RX1 yX1_shownBy yX1_shownBy, Cond.code yX1_shownBy cX1_shownBy 4 (some .int), Cond.fieldLink RX1 15 "LieNights$Secret" "places" "[I", Cond.methodLink RX1 39 Lib.Math.abs.name, Cond.static Lib.Math.abs.name, Cond.initialized "java/lang/Math", Cond.code Lib.Math.abs.name Lib.Math.abs.code 1 (some .int), Cond.fieldLink RX1 11 "LieNights$Secret" "kinds" "[I", Cond.static yX3_at, Cond.code yX3_at cX3_at 2 (some .int), Cond.static yX3_write]
def wsX3_ask_r3 : List Cond := [Cond.code yX3_write cX3_write 3 none, Cond.methodLink RX0 44 yX1_all, Cond.instanceMethod yX1_all, Cond.selects RX1 yX1_all yX1_all, Cond.code yX1_all cX1_all 1 (some .int), Cond.methodLink RX0 47 yX0_tryAsking, Cond.instanceMethod yX0_tryAsking, Cond.selects RX0 yX0_tryAsking yX0_tryAsking, Cond.code yX0_tryAsking cX0_tryAsking 8 none, Cond.methodLink RX0 64 Lib.Math.max.name, Cond.static Lib.Math.max.name, Cond.code Lib.Math.max.name Lib.Math.max.code 2 (some .int), Cond.fieldLink RX0 20 "LieNights$Plan" "first" "[I", Cond.methodLink RX0 72 Lib.Math.min.name, Cond.static Lib.Math.min.name, Cond.code Lib.Math.min.name Lib.Math.min.code 2 (some .int), Cond.methodLink RX0 51 yJ6_bitCount_0f7a4, Cond.static yJ6_bitCount_0f7a4, Cond.initialized RJ6, Cond.code yJ6_bitCount_0f7a4 cJ6_bitCount_0f7a4 1 (some .int), Cond.constant RJ6 265 (1431655765), Cond.constant RJ6 266 (858993459), Cond.constant RJ6 267 (252645135), Cond.static yX3_has]
def wsX3_ask_r4 : List Cond := [Cond.code yX3_has cX3_has 2 (some .boolean), Cond.methodLink RX0 61 yX0_worstOf, Cond.instanceMethod yX0_worstOf, Cond.selects RX0 yX0_worstOf yX0_worstOf, Cond.code yX0_worstOf cX0_worstOf 2 (some .int), Cond.methodLink RX0 69 yX0_nightsOf, Cond.instanceMethod yX0_nightsOf, Cond.selects RX0 yX0_nightsOf yX0_nightsOf, Cond.code yX0_nightsOf cX0_nightsOf 2 (some .int), Cond.methodLink RX3 132 yX0_askOf, Cond.instanceMethod yX0_askOf, Cond.selects RX0 yX0_askOf yX0_askOf, Cond.code yX0_askOf cX0_askOf 2 (some .int)]
def wsX3_ask : List Cond := .code yX3_ask cX3_ask 2 (some .int) :: ((wsX3_ask_r1 ++ (wsX3_ask_r2 ++ (wsX3_ask_r3 ++ wsX3_ask_r4))) ++ wsX30 ++ wsX10 ++ wsX00)
def wsX3_shareNumber : List Cond := .code yX3_shareNumber cX3_shareNumber 5 (some .long) :: ([])
def wsX3_mean_r1 : List Cond := [Cond.fieldLink RX3 34 "LieNights" "secret" "LLieNights$Secret;", Cond.constantLong RX3 135 (-9223372036854775808), Cond.methodLink RX3 93 yX3_noSecret, Cond.instanceMethod yX3_noSecret, Cond.selects RX3 yX3_noSecret yX3_noSecret, Cond.initialized RX3, Cond.code yX3_noSecret cX3_noSecret 1 (some .boolean), Cond.methodLink RX3 75 yX1_answers, Cond.instanceMethod yX1_answers, Cond.selects RX1 yX1_answers yX1_answers, Cond.initialized RX1, Cond.code yX1_answers cX1_answers 1 (some .int), Cond.fieldLink RX1 21 "LieNights$Secret" "answers" "I", Cond.methodLink RX3 122 yX3_isSetOf, Cond.static yX3_isSetOf, Cond.code yX3_isSetOf cX3_isSetOf 2 (some .boolean), Cond.methodLink RX3 54 yX3_within, Cond.static yX3_within, Cond.code yX3_within cX3_within 2 (some .boolean), Cond.methodLink RX3 125 yX3_planned, Cond.instanceMethod yX3_planned, Cond.selects RX3 yX3_planned yX3_planned, Cond.code yX3_planned cX3_planned 1 (some (.object "LieNights$Plan")), Cond.fieldLink RX3 41 "LieNights" "planIsOld" "Z"]
def wsX3_mean_r2 : List Cond := [Cond.fieldLink RX3 20 "LieNights" "plan" "LLieNights$Plan;", Cond.methodLink RX3 216 yX0_make, Cond.instanceMethod yX0_make, Cond.selects RX0 yX0_make yX0_make, Cond.initialized RX0, Cond.code yX0_make cX0_make 4 none, Cond.fieldLink RX0 34 "LieNights$Plan" "answers" "I", Cond.fieldLink RX0 11 "LieNights$Plan" "alike" "[I", Cond.fieldLink RX0 17 "LieNights$Plan" "worst" "[I", Cond.fieldLink RX0 23 "LieNights$Plan" "nights" "[I", Cond.methodLink RX0 30 yX1_answers, Cond.methodLink RX0 37 yX1_alike, Cond.instanceMethod yX1_alike, Cond.selects RX1 yX1_alike yX1_alike, Cond.code yX1_alike cX1_alike 6 (some .int), Cond.methodLink RX1 45 yX1_shownBy, Cond.instanceMethod yX1_shownBy, Cond.selects RX1 yX1_shownBy yX1_shownBy, Cond.code yX1_shownBy cX1_shownBy 4 (some .int), Cond.fieldLink RX1 15 "LieNights$Secret" "places" "[I", Cond.methodLink RX1 39 Lib.Math.abs.name, Cond.static Lib.Math.abs.name, Cond.initialized "java/lang/Math", Cond.code Lib.Math.abs.name Lib.Math.abs.code 1 (some .int)]
def wsX3_mean_r3 : List Cond := [Cond.fieldLink RX1 11 "LieNights$Secret" "kinds" "[I", Cond.static yX3_at, Cond.code yX3_at cX3_at 2 (some .int), Cond.static yX3_write, Cond.code yX3_write cX3_write 3 none, Cond.methodLink RX0 44 yX1_all, Cond.instanceMethod yX1_all, Cond.selects RX1 yX1_all yX1_all, Cond.code yX1_all cX1_all 1 (some .int), Cond.methodLink RX0 47 yX0_tryAsking, Cond.instanceMethod yX0_tryAsking, Cond.selects RX0 yX0_tryAsking yX0_tryAsking, Cond.code yX0_tryAsking cX0_tryAsking 8 none, Cond.methodLink RX0 64 Lib.Math.max.name, Cond.static Lib.Math.max.name, Cond.code Lib.Math.max.name Lib.Math.max.code 2 (some .int), Cond.fieldLink RX0 20 "LieNights$Plan" "first" "[I", Cond.methodLink RX0 72 Lib.Math.min.name, Cond.static Lib.Math.min.name, Cond.code Lib.Math.min.name Lib.Math.min.code 2 (some .int), Cond.methodLink RX0 51 yJ6_bitCount_0f7a4, Cond.static yJ6_bitCount_0f7a4, Cond.initialized RJ6, Cond.code yJ6_bitCount_0f7a4 cJ6_bitCount_0f7a4 1 (some .int)]
def wsX3_mean_r4 : List Cond := [Cond.constant RJ6 265 (1431655765), Cond.constant RJ6 266 (858993459), Cond.constant RJ6 267 (252645135), Cond.static yX3_has, Cond.code yX3_has cX3_has 2 (some .boolean), Cond.methodLink RX0 61 yX0_worstOf, Cond.instanceMethod yX0_worstOf, Cond.selects RX0 yX0_worstOf yX0_worstOf, Cond.code yX0_worstOf cX0_worstOf 2 (some .int), Cond.methodLink RX0 69 yX0_nightsOf, Cond.instanceMethod yX0_nightsOf, Cond.selects RX0 yX0_nightsOf yX0_nightsOf, Cond.code yX0_nightsOf cX0_nightsOf 2 (some .int), Cond.methodLink RX3 137 yX0_nightsOf, Cond.methodLink RX3 140 yJ6_bitCount_0f7a4, Cond.methodLink RX3 145 yX3_shareNumber, Cond.static yX3_shareNumber, Cond.code yX3_shareNumber cX3_shareNumber 5 (some .long)]
def wsX3_mean : List Cond := .code yX3_mean cX3_mean 3 (some .long) :: ((wsX3_mean_r1 ++ (wsX3_mean_r2 ++ (wsX3_mean_r3 ++ wsX3_mean_r4))) ++ wsX30 ++ wsX10 ++ wsX00)
def wsX3_parts_r1 : List Cond := [Cond.fieldLink RX3 34 "LieNights" "secret" "LLieNights$Secret;", Cond.methodLink RX3 79 yX3_isAnswer, Cond.instanceMethod yX3_isAnswer, Cond.selects RX3 yX3_isAnswer yX3_isAnswer, Cond.initialized RX3, Cond.code yX3_isAnswer cX3_isAnswer 2 (some .boolean), Cond.methodLink RX3 75 yX1_answers, Cond.instanceMethod yX1_answers, Cond.selects RX1 yX1_answers yX1_answers, Cond.initialized RX1, Cond.code yX1_answers cX1_answers 1 (some .int), Cond.fieldLink RX1 21 "LieNights$Secret" "answers" "I", Cond.methodLink RX3 122 yX3_isSetOf, Cond.static yX3_isSetOf, Cond.code yX3_isSetOf cX3_isSetOf 2 (some .boolean), Cond.methodLink RX3 149 yX3_has, Cond.static yX3_has, Cond.code yX3_has cX3_has 2 (some .boolean), Cond.methodLink RX3 152 yX1_alike, Cond.instanceMethod yX1_alike, Cond.selects RX1 yX1_alike yX1_alike, Cond.code yX1_alike cX1_alike 6 (some .int), Cond.methodLink RX1 45 yX1_shownBy, Cond.instanceMethod yX1_shownBy]
def wsX3_parts_r2 : List Cond := [Cond.selects RX1 yX1_shownBy yX1_shownBy, Cond.code yX1_shownBy cX1_shownBy 4 (some .int), Cond.fieldLink RX1 15 "LieNights$Secret" "places" "[I", Cond.methodLink RX1 39 Lib.Math.abs.name, Cond.static Lib.Math.abs.name, Cond.initialized "java/lang/Math", Cond.code Lib.Math.abs.name Lib.Math.abs.code 1 (some .int), Cond.fieldLink RX1 11 "LieNights$Secret" "kinds" "[I", Cond.static yX3_at, Cond.code yX3_at cX3_at 2 (some .int)]
def wsX3_parts : List Cond := .code yX3_parts cX3_parts 6 (some .int) :: ((wsX3_parts_r1 ++ wsX3_parts_r2) ++ wsX30 ++ wsX10)
def wsX3_months_r1 : List Cond := [Cond.fieldLink RX3 34 "LieNights" "secret" "LLieNights$Secret;", Cond.methodLink RX3 93 yX3_noSecret, Cond.instanceMethod yX3_noSecret, Cond.selects RX3 yX3_noSecret yX3_noSecret, Cond.initialized RX3, Cond.code yX3_noSecret cX3_noSecret 1 (some .boolean), Cond.methodLink RX3 75 yX1_answers, Cond.instanceMethod yX1_answers, Cond.selects RX1 yX1_answers yX1_answers, Cond.initialized RX1, Cond.code yX1_answers cX1_answers 1 (some .int), Cond.fieldLink RX1 21 "LieNights$Secret" "answers" "I", Cond.methodLink RX3 155 yX1_pillars, Cond.instanceMethod yX1_pillars, Cond.selects RX1 yX1_pillars yX1_pillars, Cond.code yX1_pillars cX1_pillars 1 (some .int), Cond.fieldLink RX1 25 "LieNights$Secret" "pillars" "I", Cond.methodLink RX3 122 yX3_isSetOf, Cond.static yX3_isSetOf, Cond.code yX3_isSetOf cX3_isSetOf 2 (some .boolean), Cond.methodLink RX3 149 yX3_has, Cond.static yX3_has, Cond.code yX3_has cX3_has 2 (some .boolean), Cond.methodLink RX3 158 yX1_weightOf]
def wsX3_months_r2 : List Cond := [Cond.instanceMethod yX1_weightOf, Cond.selects RX1 yX1_weightOf yX1_weightOf, Cond.code yX1_weightOf cX1_weightOf 2 (some .int), Cond.fieldLink RX1 18 "LieNights$Secret" "weights" "[I", Cond.static yX3_at, Cond.code yX3_at cX3_at 2 (some .int), Cond.methodLink RX3 97 yX1_growth, Cond.instanceMethod yX1_growth, Cond.selects RX1 yX1_growth yX1_growth, Cond.code yX1_growth cX1_growth 1 (some .int), Cond.fieldLink RX1 28 "LieNights$Secret" "growth" "I"]
def wsX3_months : List Cond := .code yX3_months cX3_months 4 (some .int) :: ((wsX3_months_r1 ++ wsX3_months_r2) ++ wsX30 ++ wsX10)
def wsX3_down_r1 : List Cond := [Cond.fieldLink RX3 34 "LieNights" "secret" "LLieNights$Secret;", Cond.methodLink RX3 93 yX3_noSecret, Cond.instanceMethod yX3_noSecret, Cond.selects RX3 yX3_noSecret yX3_noSecret, Cond.initialized RX3, Cond.code yX3_noSecret cX3_noSecret 1 (some .boolean), Cond.methodLink RX3 75 yX1_answers, Cond.instanceMethod yX1_answers, Cond.selects RX1 yX1_answers yX1_answers, Cond.initialized RX1, Cond.code yX1_answers cX1_answers 1 (some .int), Cond.fieldLink RX1 21 "LieNights$Secret" "answers" "I", Cond.methodLink RX3 54 yX3_within, Cond.static yX3_within, Cond.code yX3_within cX3_within 2 (some .boolean), Cond.methodLink RX3 97 yX1_growth, Cond.instanceMethod yX1_growth, Cond.selects RX1 yX1_growth yX1_growth, Cond.code yX1_growth cX1_growth 1 (some .int), Cond.fieldLink RX1 28 "LieNights$Secret" "growth" "I", Cond.methodLink RX3 155 yX1_pillars, Cond.instanceMethod yX1_pillars, Cond.selects RX1 yX1_pillars yX1_pillars, Cond.code yX1_pillars cX1_pillars 1 (some .int)]
def wsX3_down_r2 : List Cond := [Cond.fieldLink RX1 25 "LieNights$Secret" "pillars" "I", Cond.methodLink RX3 158 yX1_weightOf, Cond.instanceMethod yX1_weightOf, Cond.selects RX1 yX1_weightOf yX1_weightOf, Cond.code yX1_weightOf cX1_weightOf 2 (some .int), Cond.fieldLink RX1 18 "LieNights$Secret" "weights" "[I", Cond.static yX3_at, Cond.code yX3_at cX3_at 2 (some .int)]
def wsX3_down : List Cond := .code yX3_down cX3_down 8 (some .int) :: ((wsX3_down_r1 ++ wsX3_down_r2) ++ wsX30 ++ wsX10)
def wsX3_reading : List Cond := .code yX3_reading cX3_reading 3 (some .int) :: ([.fieldLink RX3 161 "LieNights" "readings" "I", .fieldLink RX3 24 "LieNights" "asked" "[I", .fieldLink RX3 28 "LieNights" "showed" "[I", .methodLink RX3 79 yX3_isAnswer, .instanceMethod yX3_isAnswer, .selects RX3 yX3_isAnswer yX3_isAnswer, .initialized RX3, .code yX3_isAnswer cX3_isAnswer 2 (some .boolean), .fieldLink RX3 34 "LieNights" "secret" "LLieNights$Secret;", .methodLink RX3 75 yX1_answers, .instanceMethod yX1_answers, .selects RX1 yX1_answers yX1_answers, .initialized RX1, .code yX1_answers cX1_answers 1 (some .int), .fieldLink RX1 21 "LieNights$Secret" "answers" "I", .methodLink RX3 54 yX3_within, .static yX3_within, .code yX3_within cX3_within 2 (some .boolean), .methodLink RX3 164 yX3_write, .static yX3_write, .code yX3_write cX3_write 3 none] ++ wsX30 ++ wsX10)
def wsX3_back : List Cond := .code yX3_back cX3_back 2 (some .int) :: ([.fieldLink RX3 161 "LieNights" "readings" "I", .methodLink RX3 54 yX3_within, .static yX3_within, .initialized RX3, .code yX3_within cX3_within 2 (some .boolean)] ++ wsX30)
def wsX3_areReadingsSo : List Cond := .code yX3_areReadingsSo cX3_areReadingsSo 3 (some .boolean) :: ([.fieldLink RX3 161 "LieNights" "readings" "I", .fieldLink RX3 34 "LieNights" "secret" "LLieNights$Secret;", .fieldLink RX3 24 "LieNights" "asked" "[I", .fieldLink RX3 28 "LieNights" "showed" "[I", .methodLink RX3 226 yX3_at, .static yX3_at, .initialized RX3, .code yX3_at cX3_at 2 (some .int), .methodLink RX3 104 yX1_shownBy, .instanceMethod yX1_shownBy, .selects RX1 yX1_shownBy yX1_shownBy, .initialized RX1, .code yX1_shownBy cX1_shownBy 4 (some .int), .fieldLink RX1 15 "LieNights$Secret" "places" "[I", .methodLink RX1 39 Lib.Math.abs.name, .static Lib.Math.abs.name, .initialized "java/lang/Math", .code Lib.Math.abs.name Lib.Math.abs.code 1 (some .int), .fieldLink RX1 11 "LieNights$Secret" "kinds" "[I"] ++ wsX30 ++ wsX10)
def wsX3_truths_r1 : List Cond := [Cond.fieldLink RX3 34 "LieNights" "secret" "LLieNights$Secret;", Cond.methodLink RX3 75 yX1_answers, Cond.instanceMethod yX1_answers, Cond.selects RX1 yX1_answers yX1_answers, Cond.initialized RX1, Cond.code yX1_answers cX1_answers 1 (some .int), Cond.fieldLink RX1 21 "LieNights$Secret" "answers" "I", Cond.methodLink RX3 223 yX3_areReadingsSo, Cond.instanceMethod yX3_areReadingsSo, Cond.selects RX3 yX3_areReadingsSo yX3_areReadingsSo, Cond.initialized RX3, Cond.code yX3_areReadingsSo cX3_areReadingsSo 3 (some .boolean), Cond.fieldLink RX3 161 "LieNights" "readings" "I", Cond.fieldLink RX3 24 "LieNights" "asked" "[I", Cond.fieldLink RX3 28 "LieNights" "showed" "[I", Cond.methodLink RX3 226 yX3_at, Cond.static yX3_at, Cond.code yX3_at cX3_at 2 (some .int), Cond.methodLink RX3 104 yX1_shownBy, Cond.instanceMethod yX1_shownBy, Cond.selects RX1 yX1_shownBy yX1_shownBy, Cond.code yX1_shownBy cX1_shownBy 4 (some .int), Cond.fieldLink RX1 15 "LieNights$Secret" "places" "[I", Cond.methodLink RX1 39 Lib.Math.abs.name]
def wsX3_truths_r2 : List Cond := [Cond.static Lib.Math.abs.name, Cond.initialized "java/lang/Math", Cond.code Lib.Math.abs.name Lib.Math.abs.code 1 (some .int), Cond.fieldLink RX1 11 "LieNights$Secret" "kinds" "[I"]
def wsX3_truths : List Cond := .code yX3_truths cX3_truths 3 (some .int) :: ((wsX3_truths_r1 ++ wsX3_truths_r2) ++ wsX30 ++ wsX10)
def wsX3_left_r1 : List Cond := [Cond.methodLink RX3 93 yX3_noSecret, Cond.instanceMethod yX3_noSecret, Cond.selects RX3 yX3_noSecret yX3_noSecret, Cond.initialized RX3, Cond.code yX3_noSecret cX3_noSecret 1 (some .boolean), Cond.fieldLink RX3 34 "LieNights" "secret" "LLieNights$Secret;", Cond.methodLink RX3 75 yX1_answers, Cond.instanceMethod yX1_answers, Cond.selects RX1 yX1_answers yX1_answers, Cond.initialized RX1, Cond.code yX1_answers cX1_answers 1 (some .int), Cond.fieldLink RX1 21 "LieNights$Secret" "answers" "I", Cond.methodLink RX3 168 yX3_truths, Cond.instanceMethod yX3_truths, Cond.selects RX3 yX3_truths yX3_truths, Cond.code yX3_truths cX3_truths 3 (some .int), Cond.methodLink RX3 223 yX3_areReadingsSo, Cond.instanceMethod yX3_areReadingsSo, Cond.selects RX3 yX3_areReadingsSo yX3_areReadingsSo, Cond.code yX3_areReadingsSo cX3_areReadingsSo 3 (some .boolean), Cond.fieldLink RX3 161 "LieNights" "readings" "I", Cond.fieldLink RX3 24 "LieNights" "asked" "[I", Cond.fieldLink RX3 28 "LieNights" "showed" "[I", Cond.methodLink RX3 226 yX3_at]
def wsX3_left_r2 : List Cond := [Cond.static yX3_at, Cond.code yX3_at cX3_at 2 (some .int), Cond.methodLink RX3 104 yX1_shownBy, Cond.instanceMethod yX1_shownBy, Cond.selects RX1 yX1_shownBy yX1_shownBy, Cond.code yX1_shownBy cX1_shownBy 4 (some .int), Cond.fieldLink RX1 15 "LieNights$Secret" "places" "[I", Cond.methodLink RX1 39 Lib.Math.abs.name, Cond.static Lib.Math.abs.name, Cond.initialized "java/lang/Math", Cond.code Lib.Math.abs.name Lib.Math.abs.code 1 (some .int), Cond.fieldLink RX1 11 "LieNights$Secret" "kinds" "[I"]
def wsX3_left : List Cond := .code yX3_left cX3_left 1 (some .int) :: ((wsX3_left_r1 ++ wsX3_left_r2) ++ wsX30 ++ wsX10)
def wsX3_kinds_r1 : List Cond := [Cond.fieldLink RX3 34 "LieNights" "secret" "LLieNights$Secret;", Cond.methodLink RX3 79 yX3_isAnswer, Cond.instanceMethod yX3_isAnswer, Cond.selects RX3 yX3_isAnswer yX3_isAnswer, Cond.initialized RX3, Cond.code yX3_isAnswer cX3_isAnswer 2 (some .boolean), Cond.methodLink RX3 75 yX1_answers, Cond.instanceMethod yX1_answers, Cond.selects RX1 yX1_answers yX1_answers, Cond.initialized RX1, Cond.code yX1_answers cX1_answers 1 (some .int), Cond.fieldLink RX1 21 "LieNights$Secret" "answers" "I", Cond.methodLink RX3 83 yX1_kindOf, Cond.instanceMethod yX1_kindOf, Cond.selects RX1 yX1_kindOf yX1_kindOf, Cond.code yX1_kindOf cX1_kindOf 2 (some .int), Cond.fieldLink RX1 11 "LieNights$Secret" "kinds" "[I", Cond.static yX3_at, Cond.code yX3_at cX3_at 2 (some .int), Cond.methodLink RX3 171 yX1_setKind, Cond.instanceMethod yX1_setKind, Cond.selects RX1 yX1_setKind yX1_setKind, Cond.code yX1_setKind cX1_setKind 3 none, Cond.static yX3_write]
def wsX3_kinds_r2 : List Cond := [Cond.code yX3_write cX3_write 3 none, Cond.methodLink RX3 168 yX3_truths, Cond.instanceMethod yX3_truths, Cond.selects RX3 yX3_truths yX3_truths, Cond.code yX3_truths cX3_truths 3 (some .int), Cond.methodLink RX3 223 yX3_areReadingsSo, Cond.instanceMethod yX3_areReadingsSo, Cond.selects RX3 yX3_areReadingsSo yX3_areReadingsSo, Cond.code yX3_areReadingsSo cX3_areReadingsSo 3 (some .boolean), Cond.fieldLink RX3 161 "LieNights" "readings" "I", Cond.fieldLink RX3 24 "LieNights" "asked" "[I", Cond.fieldLink RX3 28 "LieNights" "showed" "[I", Cond.methodLink RX3 226 yX3_at, Cond.methodLink RX3 104 yX1_shownBy, Cond.instanceMethod yX1_shownBy, Cond.selects RX1 yX1_shownBy yX1_shownBy, Cond.code yX1_shownBy cX1_shownBy 4 (some .int), Cond.fieldLink RX1 15 "LieNights$Secret" "places" "[I", Cond.methodLink RX1 39 Lib.Math.abs.name, Cond.static Lib.Math.abs.name, Cond.initialized "java/lang/Math", Cond.code Lib.Math.abs.name Lib.Math.abs.code 1 (some .int)]
def wsX3_kinds : List Cond := .code yX3_kinds cX3_kinds 5 (some .int) :: ((wsX3_kinds_r1 ++ wsX3_kinds_r2) ++ wsX30 ++ wsX10)
def wsX3_places_r1 : List Cond := [Cond.fieldLink RX3 34 "LieNights" "secret" "LLieNights$Secret;", Cond.methodLink RX3 79 yX3_isAnswer, Cond.instanceMethod yX3_isAnswer, Cond.selects RX3 yX3_isAnswer yX3_isAnswer, Cond.initialized RX3, Cond.code yX3_isAnswer cX3_isAnswer 2 (some .boolean), Cond.methodLink RX3 75 yX1_answers, Cond.instanceMethod yX1_answers, Cond.selects RX1 yX1_answers yX1_answers, Cond.initialized RX1, Cond.code yX1_answers cX1_answers 1 (some .int), Cond.fieldLink RX1 21 "LieNights$Secret" "answers" "I", Cond.methodLink RX3 86 yX1_placeOf, Cond.instanceMethod yX1_placeOf, Cond.selects RX1 yX1_placeOf yX1_placeOf, Cond.code yX1_placeOf cX1_placeOf 2 (some .int), Cond.fieldLink RX1 15 "LieNights$Secret" "places" "[I", Cond.static yX3_at, Cond.code yX3_at cX3_at 2 (some .int), Cond.methodLink RX3 89 yX1_setPlace, Cond.instanceMethod yX1_setPlace, Cond.selects RX1 yX1_setPlace yX1_setPlace, Cond.code yX1_setPlace cX1_setPlace 3 none, Cond.static yX3_write]
def wsX3_places_r2 : List Cond := [Cond.code yX3_write cX3_write 3 none, Cond.methodLink RX3 168 yX3_truths, Cond.instanceMethod yX3_truths, Cond.selects RX3 yX3_truths yX3_truths, Cond.code yX3_truths cX3_truths 3 (some .int), Cond.methodLink RX3 223 yX3_areReadingsSo, Cond.instanceMethod yX3_areReadingsSo, Cond.selects RX3 yX3_areReadingsSo yX3_areReadingsSo, Cond.code yX3_areReadingsSo cX3_areReadingsSo 3 (some .boolean), Cond.fieldLink RX3 161 "LieNights" "readings" "I", Cond.fieldLink RX3 24 "LieNights" "asked" "[I", Cond.fieldLink RX3 28 "LieNights" "showed" "[I", Cond.methodLink RX3 226 yX3_at, Cond.methodLink RX3 104 yX1_shownBy, Cond.instanceMethod yX1_shownBy, Cond.selects RX1 yX1_shownBy yX1_shownBy, Cond.code yX1_shownBy cX1_shownBy 4 (some .int), Cond.methodLink RX1 39 Lib.Math.abs.name, Cond.static Lib.Math.abs.name, Cond.initialized "java/lang/Math", Cond.code Lib.Math.abs.name Lib.Math.abs.code 1 (some .int), Cond.fieldLink RX1 11 "LieNights$Secret" "kinds" "[I"]
def wsX3_places : List Cond := .code yX3_places cX3_places 5 (some .int) :: ((wsX3_places_r1 ++ wsX3_places_r2) ++ wsX30 ++ wsX10)
def wsX3_isBoundWithin_r1 : List Cond := [Cond.fieldLink RX3 34 "LieNights" "secret" "LLieNights$Secret;", Cond.methodLink RX3 220 yX1_all, Cond.instanceMethod yX1_all, Cond.selects RX1 yX1_all yX1_all, Cond.initialized RX1, Cond.code yX1_all cX1_all 1 (some .int), Cond.fieldLink RX1 21 "LieNights$Secret" "answers" "I", Cond.methodLink RX3 132 yX0_askOf, Cond.instanceMethod yX0_askOf, Cond.selects RX0 yX0_askOf yX0_askOf, Cond.initialized RX0, Cond.code yX0_askOf cX0_askOf 2 (some .int), Cond.fieldLink RX0 20 "LieNights$Plan" "first" "[I", Cond.static yX3_at, Cond.initialized RX3, Cond.code yX3_at cX3_at 2 (some .int), Cond.methodLink RX3 152 yX1_alike, Cond.instanceMethod yX1_alike, Cond.selects RX1 yX1_alike yX1_alike, Cond.code yX1_alike cX1_alike 6 (some .int), Cond.methodLink RX1 45 yX1_shownBy, Cond.instanceMethod yX1_shownBy, Cond.selects RX1 yX1_shownBy yX1_shownBy, Cond.code yX1_shownBy cX1_shownBy 4 (some .int)]
def wsX3_isBoundWithin_r2 : List Cond := [Cond.fieldLink RX1 15 "LieNights$Secret" "places" "[I", Cond.methodLink RX1 39 Lib.Math.abs.name, Cond.static Lib.Math.abs.name, Cond.initialized "java/lang/Math", Cond.code Lib.Math.abs.name Lib.Math.abs.code 1 (some .int), Cond.fieldLink RX1 11 "LieNights$Secret" "kinds" "[I"]
def wsX3_isBoundWithin : List Cond := .code yX3_isBoundWithin cX3_isBoundWithin 7 (some .boolean) :: ((wsX3_isBoundWithin_r1 ++ wsX3_isBoundWithin_r2) ++ wsX30 ++ wsX10 ++ wsX00)
def wsX3_odds_r1 : List Cond := [Cond.constantLong RX3 135 (-9223372036854775808), Cond.fieldLink RX3 34 "LieNights" "secret" "LLieNights$Secret;", Cond.methodLink RX3 93 yX3_noSecret, Cond.instanceMethod yX3_noSecret, Cond.selects RX3 yX3_noSecret yX3_noSecret, Cond.initialized RX3, Cond.code yX3_noSecret cX3_noSecret 1 (some .boolean), Cond.methodLink RX3 75 yX1_answers, Cond.instanceMethod yX1_answers, Cond.selects RX1 yX1_answers yX1_answers, Cond.initialized RX1, Cond.code yX1_answers cX1_answers 1 (some .int), Cond.fieldLink RX1 21 "LieNights$Secret" "answers" "I", Cond.methodLink RX3 54 yX3_within, Cond.static yX3_within, Cond.code yX3_within cX3_within 2 (some .boolean), Cond.methodLink RX3 125 yX3_planned, Cond.instanceMethod yX3_planned, Cond.selects RX3 yX3_planned yX3_planned, Cond.code yX3_planned cX3_planned 1 (some (.object "LieNights$Plan")), Cond.fieldLink RX3 41 "LieNights" "planIsOld" "Z", Cond.fieldLink RX3 20 "LieNights" "plan" "LLieNights$Plan;", Cond.methodLink RX3 216 yX0_make, Cond.instanceMethod yX0_make]
def wsX3_odds_r2 : List Cond := [Cond.selects RX0 yX0_make yX0_make, Cond.initialized RX0, Cond.code yX0_make cX0_make 4 none, Cond.fieldLink RX0 34 "LieNights$Plan" "answers" "I", Cond.fieldLink RX0 11 "LieNights$Plan" "alike" "[I", Cond.fieldLink RX0 17 "LieNights$Plan" "worst" "[I", Cond.fieldLink RX0 23 "LieNights$Plan" "nights" "[I", Cond.methodLink RX0 30 yX1_answers, Cond.methodLink RX0 37 yX1_alike, Cond.instanceMethod yX1_alike, Cond.selects RX1 yX1_alike yX1_alike, Cond.code yX1_alike cX1_alike 6 (some .int), Cond.methodLink RX1 45 yX1_shownBy, Cond.instanceMethod yX1_shownBy, Cond.selects RX1 yX1_shownBy yX1_shownBy, Cond.code yX1_shownBy cX1_shownBy 4 (some .int), Cond.fieldLink RX1 15 "LieNights$Secret" "places" "[I", Cond.methodLink RX1 39 Lib.Math.abs.name, Cond.static Lib.Math.abs.name, Cond.initialized "java/lang/Math", Cond.code Lib.Math.abs.name Lib.Math.abs.code 1 (some .int), Cond.fieldLink RX1 11 "LieNights$Secret" "kinds" "[I", Cond.static yX3_at, Cond.code yX3_at cX3_at 2 (some .int)]
def wsX3_odds_r3 : List Cond := [Cond.static yX3_write, Cond.code yX3_write cX3_write 3 none, Cond.methodLink RX0 44 yX1_all, Cond.instanceMethod yX1_all, Cond.selects RX1 yX1_all yX1_all, Cond.code yX1_all cX1_all 1 (some .int), Cond.methodLink RX0 47 yX0_tryAsking, Cond.instanceMethod yX0_tryAsking, Cond.selects RX0 yX0_tryAsking yX0_tryAsking, Cond.code yX0_tryAsking cX0_tryAsking 8 none, Cond.methodLink RX0 64 Lib.Math.max.name, Cond.static Lib.Math.max.name, Cond.code Lib.Math.max.name Lib.Math.max.code 2 (some .int), Cond.fieldLink RX0 20 "LieNights$Plan" "first" "[I", Cond.methodLink RX0 72 Lib.Math.min.name, Cond.static Lib.Math.min.name, Cond.code Lib.Math.min.name Lib.Math.min.code 2 (some .int), Cond.methodLink RX0 51 yJ6_bitCount_0f7a4, Cond.static yJ6_bitCount_0f7a4, Cond.initialized RJ6, Cond.code yJ6_bitCount_0f7a4 cJ6_bitCount_0f7a4 1 (some .int), Cond.constant RJ6 265 (1431655765), Cond.constant RJ6 266 (858993459), Cond.constant RJ6 267 (252645135)]
def wsX3_odds_r4 : List Cond := [Cond.static yX3_has, Cond.code yX3_has cX3_has 2 (some .boolean), Cond.methodLink RX0 61 yX0_worstOf, Cond.instanceMethod yX0_worstOf, Cond.selects RX0 yX0_worstOf yX0_worstOf, Cond.code yX0_worstOf cX0_worstOf 2 (some .int), Cond.methodLink RX0 69 yX0_nightsOf, Cond.instanceMethod yX0_nightsOf, Cond.selects RX0 yX0_nightsOf yX0_nightsOf, Cond.code yX0_nightsOf cX0_nightsOf 2 (some .int), Cond.methodLink RX3 174 yX3_isBoundWithin, Cond.instanceMethod yX3_isBoundWithin, Cond.selects RX3 yX3_isBoundWithin yX3_isBoundWithin, Cond.code yX3_isBoundWithin cX3_isBoundWithin 7 (some .boolean), Cond.methodLink RX3 220 yX1_all, Cond.methodLink RX3 132 yX0_askOf, Cond.instanceMethod yX0_askOf, Cond.selects RX0 yX0_askOf yX0_askOf, Cond.code yX0_askOf cX0_askOf 2 (some .int), Cond.methodLink RX3 152 yX1_alike, Cond.methodLink RX3 145 yX3_shareNumber, Cond.static yX3_shareNumber, Cond.code yX3_shareNumber cX3_shareNumber 5 (some .long)]
def wsX3_odds : List Cond := .code yX3_odds cX3_odds 6 (some .long) :: ((wsX3_odds_r1 ++ (wsX3_odds_r2 ++ (wsX3_odds_r3 ++ wsX3_odds_r4))) ++ wsX30 ++ wsX10 ++ wsX00)
def wsX3_sheet : List Cond := .code yX3_sheet cX3_sheet 5 (some .int) :: ([.fieldLink RX3 45 "LieNights" "lastFault" "I", .methodLink RX3 50 yX3_sheetOf, .instanceMethod yX3_sheetOf, .selects RX3 yX3_sheetOf yX3_sheetOf, .initialized RX3, .code yX3_sheetOf cX3_sheetOf 2 (some (.object "LieNights$Sheet")), .fieldLink RX3 13 "LieNights" "sheets" "[LLieNights$Sheet;", .methodLink RX3 54 yX3_within, .static yX3_within, .code yX3_within cX3_within 2 (some .boolean), .methodLink RX3 65 yX3_faulted, .instanceMethod yX3_faulted, .selects RX3 yX3_faulted yX3_faulted, .code yX3_faulted cX3_faulted 2 (some .int), .methodLink RX3 178 yX2_renew, .instanceMethod yX2_renew, .selects RX2 yX2_renew yX2_renew, .initialized RX2, .code yX2_renew cX2_renew 4 none, .fieldLink RX2 15 "LieNights$Sheet" "lane" "I", .fieldLink RX2 23 "LieNights$Sheet" "length" "I", .fieldLink RX2 9 "LieNights$Sheet" "cells" "[I", .static yX3_write, .code yX3_write cX3_write 3 none] ++ wsX30 ++ wsX20)
def wsX3_lose : List Cond := .code yX3_lose cX3_lose 3 (some .int) :: ([.methodLink RX3 50 yX3_sheetOf, .instanceMethod yX3_sheetOf, .selects RX3 yX3_sheetOf yX3_sheetOf, .initialized RX3, .code yX3_sheetOf cX3_sheetOf 2 (some (.object "LieNights$Sheet")), .fieldLink RX3 13 "LieNights" "sheets" "[LLieNights$Sheet;", .methodLink RX3 181 yX2_isNothing, .instanceMethod yX2_isNothing, .selects RX2 yX2_isNothing yX2_isNothing, .initialized RX2, .code yX2_isNothing cX2_isNothing 1 (some .boolean), .fieldLink RX2 15 "LieNights$Sheet" "lane" "I", .methodLink RX3 184 yX2_clear, .instanceMethod yX2_clear, .selects RX2 yX2_clear yX2_clear, .code yX2_clear cX2_clear 1 none, .fieldLink RX2 23 "LieNights$Sheet" "length" "I"] ++ wsX30 ++ wsX20)
def wsX3_put_r1 : List Cond := [Cond.fieldLink RX3 45 "LieNights" "lastFault" "I", Cond.methodLink RX3 50 yX3_sheetOf, Cond.instanceMethod yX3_sheetOf, Cond.selects RX3 yX3_sheetOf yX3_sheetOf, Cond.initialized RX3, Cond.code yX3_sheetOf cX3_sheetOf 2 (some (.object "LieNights$Sheet")), Cond.fieldLink RX3 13 "LieNights" "sheets" "[LLieNights$Sheet;", Cond.methodLink RX3 181 yX2_isNothing, Cond.instanceMethod yX2_isNothing, Cond.selects RX2 yX2_isNothing yX2_isNothing, Cond.initialized RX2, Cond.code yX2_isNothing cX2_isNothing 1 (some .boolean), Cond.fieldLink RX2 15 "LieNights$Sheet" "lane" "I", Cond.methodLink RX3 65 yX3_faulted, Cond.instanceMethod yX3_faulted, Cond.selects RX3 yX3_faulted yX3_faulted, Cond.code yX3_faulted cX3_faulted 2 (some .int), Cond.methodLink RX3 62 yX2_hasCells, Cond.instanceMethod yX2_hasCells, Cond.selects RX2 yX2_hasCells yX2_hasCells, Cond.code yX2_hasCells cX2_hasCells 3 (some .boolean), Cond.fieldLink RX2 23 "LieNights$Sheet" "length" "I", Cond.static yX3_within, Cond.code yX3_within cX3_within 2 (some .boolean)]
def wsX3_put_r2 : List Cond := [Cond.methodLink RX3 187 yX2_set, Cond.instanceMethod yX2_set, Cond.selects RX2 yX2_set yX2_set, Cond.code yX2_set cX2_set 3 none, Cond.fieldLink RX2 9 "LieNights$Sheet" "cells" "[I", Cond.methodLink RX2 38 yX2_cut, Cond.instanceMethod yX2_cut, Cond.selects RX2 yX2_cut yX2_cut, Cond.code yX2_cut cX2_cut 2 (some .int), Cond.static yX3_write, Cond.code yX3_write cX3_write 3 none]
def wsX3_put : List Cond := .code yX3_put cX3_put 5 (some .int) :: ((wsX3_put_r1 ++ wsX3_put_r2) ++ wsX30 ++ wsX20)
def wsX3_cell_r1 : List Cond := [Cond.fieldLink RX3 45 "LieNights" "lastFault" "I", Cond.constantLong RX3 135 (-9223372036854775808), Cond.methodLink RX3 50 yX3_sheetOf, Cond.instanceMethod yX3_sheetOf, Cond.selects RX3 yX3_sheetOf yX3_sheetOf, Cond.initialized RX3, Cond.code yX3_sheetOf cX3_sheetOf 2 (some (.object "LieNights$Sheet")), Cond.fieldLink RX3 13 "LieNights" "sheets" "[LLieNights$Sheet;", Cond.methodLink RX3 54 yX3_within, Cond.static yX3_within, Cond.code yX3_within cX3_within 2 (some .boolean), Cond.methodLink RX3 58 yX2_faultAs, Cond.instanceMethod yX2_faultAs, Cond.selects RX2 yX2_faultAs yX2_faultAs, Cond.initialized RX2, Cond.code yX2_faultAs cX2_faultAs 2 (some .int), Cond.fieldLink RX2 15 "LieNights$Sheet" "lane" "I", Cond.methodLink RX2 19 yX2_isNothing, Cond.instanceMethod yX2_isNothing, Cond.selects RX2 yX2_isNothing yX2_isNothing, Cond.code yX2_isNothing cX2_isNothing 1 (some .boolean), Cond.methodLink RX3 62 yX2_hasCells, Cond.instanceMethod yX2_hasCells, Cond.selects RX2 yX2_hasCells yX2_hasCells]
def wsX3_cell_r2 : List Cond := [Cond.code yX2_hasCells cX2_hasCells 3 (some .boolean), Cond.fieldLink RX2 23 "LieNights$Sheet" "length" "I", Cond.methodLink RX3 119 yX2_get, Cond.instanceMethod yX2_get, Cond.selects RX2 yX2_get yX2_get, Cond.code yX2_get cX2_get 2 (some .int), Cond.fieldLink RX2 9 "LieNights$Sheet" "cells" "[I", Cond.static yX3_at, Cond.code yX3_at cX3_at 2 (some .int)]
def wsX3_cell : List Cond := .code yX3_cell cX3_cell 6 (some .long) :: ((wsX3_cell_r1 ++ wsX3_cell_r2) ++ wsX30 ++ wsX20)
def wsX3_copy_r1 : List Cond := [Cond.fieldLink RX3 45 "LieNights" "lastFault" "I", Cond.methodLink RX3 50 yX3_sheetOf, Cond.instanceMethod yX3_sheetOf, Cond.selects RX3 yX3_sheetOf yX3_sheetOf, Cond.initialized RX3, Cond.code yX3_sheetOf cX3_sheetOf 2 (some (.object "LieNights$Sheet")), Cond.fieldLink RX3 13 "LieNights" "sheets" "[LLieNights$Sheet;", Cond.methodLink RX3 181 yX2_isNothing, Cond.instanceMethod yX2_isNothing, Cond.selects RX2 yX2_isNothing yX2_isNothing, Cond.initialized RX2, Cond.code yX2_isNothing cX2_isNothing 1 (some .boolean), Cond.fieldLink RX2 15 "LieNights$Sheet" "lane" "I", Cond.methodLink RX3 65 yX3_faulted, Cond.instanceMethod yX3_faulted, Cond.selects RX3 yX3_faulted yX3_faulted, Cond.code yX3_faulted cX3_faulted 2 (some .int), Cond.methodLink RX3 190 yX2_isLikeLane, Cond.instanceMethod yX2_isLikeLane, Cond.selects RX2 yX2_isLikeLane yX2_isLikeLane, Cond.code yX2_isLikeLane cX2_isLikeLane 2 (some .boolean), Cond.methodLink RX3 62 yX2_hasCells, Cond.instanceMethod yX2_hasCells, Cond.selects RX2 yX2_hasCells yX2_hasCells]
def wsX3_copy_r2 : List Cond := [Cond.code yX2_hasCells cX2_hasCells 3 (some .boolean), Cond.fieldLink RX2 23 "LieNights$Sheet" "length" "I", Cond.static yX3_within, Cond.code yX3_within cX3_within 2 (some .boolean), Cond.methodLink RX3 194 yX2_takeCells, Cond.instanceMethod yX2_takeCells, Cond.selects RX2 yX2_takeCells yX2_takeCells, Cond.code yX2_takeCells cX2_takeCells 6 none, Cond.fieldLink RX2 9 "LieNights$Sheet" "cells" "[I", Cond.methodLink RX2 42 yX2_get, Cond.instanceMethod yX2_get, Cond.selects RX2 yX2_get yX2_get, Cond.code yX2_get cX2_get 2 (some .int), Cond.static yX3_at, Cond.code yX3_at cX3_at 2 (some .int), Cond.static yX3_write, Cond.code yX3_write cX3_write 3 none]
def wsX3_copy : List Cond := .code yX3_copy cX3_copy 8 (some .int) :: ((wsX3_copy_r1 ++ wsX3_copy_r2) ++ wsX30 ++ wsX20)
def wsX3_leave : List Cond := .code yX3_leave cX3_leave 2 none :: ([.fieldLink RX3 213 "LieNights" "trace" "I"] ++ wsX30)
def wsX3_tellPlain : List Cond := .code yX3_tellPlain cX3_tellPlain 2 (some .int) :: ([.fieldLink RX3 34 "LieNights" "secret" "LLieNights$Secret;", .methodLink RX3 230 yX3_leave, .instanceMethod yX3_leave, .selects RX3 yX3_leave yX3_leave, .initialized RX3, .code yX3_leave cX3_leave 2 none, .fieldLink RX3 213 "LieNights" "trace" "I", .methodLink RX3 86 yX1_placeOf, .instanceMethod yX1_placeOf, .selects RX1 yX1_placeOf yX1_placeOf, .initialized RX1, .code yX1_placeOf cX1_placeOf 2 (some .int), .fieldLink RX1 15 "LieNights$Secret" "places" "[I", .static yX3_at, .code yX3_at cX3_at 2 (some .int)] ++ wsX30 ++ wsX10)
def wsX3_tellSly : List Cond := .code yX3_tellSly cX3_tellSly 2 (some .int) :: ([.methodLink RX3 230 yX3_leave, .instanceMethod yX3_leave, .selects RX3 yX3_leave yX3_leave, .initialized RX3, .code yX3_leave cX3_leave 2 none, .fieldLink RX3 213 "LieNights" "trace" "I", .methodLink RX3 204 yX3_tellPlain, .instanceMethod yX3_tellPlain, .selects RX3 yX3_tellPlain yX3_tellPlain, .code yX3_tellPlain cX3_tellPlain 2 (some .int), .fieldLink RX3 34 "LieNights" "secret" "LLieNights$Secret;", .methodLink RX3 86 yX1_placeOf, .instanceMethod yX1_placeOf, .selects RX1 yX1_placeOf yX1_placeOf, .initialized RX1, .code yX1_placeOf cX1_placeOf 2 (some .int), .fieldLink RX1 15 "LieNights$Secret" "places" "[I", .static yX3_at, .code yX3_at cX3_at 2 (some .int)] ++ wsX30 ++ wsX10)
def wsX3_tellVain : List Cond := .code yX3_tellVain cX3_tellVain 3 (some .int) :: ([.methodLink RX3 230 yX3_leave, .instanceMethod yX3_leave, .selects RX3 yX3_leave yX3_leave, .initialized RX3, .code yX3_leave cX3_leave 2 none, .fieldLink RX3 213 "LieNights" "trace" "I", .methodLink RX3 198 yX3_tellSly, .instanceMethod yX3_tellSly, .selects RX3 yX3_tellSly yX3_tellSly, .code yX3_tellSly cX3_tellSly 2 (some .int), .methodLink RX3 204 yX3_tellPlain, .instanceMethod yX3_tellPlain, .selects RX3 yX3_tellPlain yX3_tellPlain, .code yX3_tellPlain cX3_tellPlain 2 (some .int), .fieldLink RX3 34 "LieNights" "secret" "LLieNights$Secret;", .methodLink RX3 86 yX1_placeOf, .instanceMethod yX1_placeOf, .selects RX1 yX1_placeOf yX1_placeOf, .initialized RX1, .code yX1_placeOf cX1_placeOf 2 (some .int), .fieldLink RX1 15 "LieNights$Secret" "places" "[I", .static yX3_at, .code yX3_at cX3_at 2 (some .int)] ++ wsX30 ++ wsX10)
def wsX3_tell_r1 : List Cond := [Cond.fieldLink RX3 34 "LieNights" "secret" "LLieNights$Secret;", Cond.methodLink RX3 79 yX3_isAnswer, Cond.instanceMethod yX3_isAnswer, Cond.selects RX3 yX3_isAnswer yX3_isAnswer, Cond.initialized RX3, Cond.code yX3_isAnswer cX3_isAnswer 2 (some .boolean), Cond.methodLink RX3 75 yX1_answers, Cond.instanceMethod yX1_answers, Cond.selects RX1 yX1_answers yX1_answers, Cond.initialized RX1, Cond.code yX1_answers cX1_answers 1 (some .int), Cond.fieldLink RX1 21 "LieNights$Secret" "answers" "I", Cond.methodLink RX3 83 yX1_kindOf, Cond.instanceMethod yX1_kindOf, Cond.selects RX1 yX1_kindOf yX1_kindOf, Cond.code yX1_kindOf cX1_kindOf 2 (some .int), Cond.fieldLink RX1 11 "LieNights$Secret" "kinds" "[I", Cond.static yX3_at, Cond.code yX3_at cX3_at 2 (some .int), Cond.methodLink RX3 198 yX3_tellSly, Cond.instanceMethod yX3_tellSly, Cond.selects RX3 yX3_tellSly yX3_tellSly, Cond.code yX3_tellSly cX3_tellSly 2 (some .int), Cond.methodLink RX3 230 yX3_leave]
def wsX3_tell_r2 : List Cond := [Cond.instanceMethod yX3_leave, Cond.selects RX3 yX3_leave yX3_leave, Cond.code yX3_leave cX3_leave 2 none, Cond.fieldLink RX3 213 "LieNights" "trace" "I", Cond.methodLink RX3 204 yX3_tellPlain, Cond.instanceMethod yX3_tellPlain, Cond.selects RX3 yX3_tellPlain yX3_tellPlain, Cond.code yX3_tellPlain cX3_tellPlain 2 (some .int), Cond.methodLink RX3 86 yX1_placeOf, Cond.instanceMethod yX1_placeOf, Cond.selects RX1 yX1_placeOf yX1_placeOf, Cond.code yX1_placeOf cX1_placeOf 2 (some .int), Cond.fieldLink RX1 15 "LieNights$Secret" "places" "[I", Cond.methodLink RX3 201 yX3_tellVain, Cond.instanceMethod yX3_tellVain, Cond.selects RX3 yX3_tellVain yX3_tellVain, Cond.code yX3_tellVain cX3_tellVain 3 (some .int)]
def wsX3_tell : List Cond := .code yX3_tell cX3_tell 2 (some .int) :: ((wsX3_tell_r1 ++ wsX3_tell_r2) ++ wsX30 ++ wsX10)
def wsX3_whisperVain : List Cond := .code yX3_whisperVain cX3_whisperVain 1 (some .int) :: ([.methodLink RX3 230 yX3_leave, .instanceMethod yX3_leave, .selects RX3 yX3_leave yX3_leave, .initialized RX3, .code yX3_leave cX3_leave 2 none, .fieldLink RX3 213 "LieNights" "trace" "I"] ++ wsX30)
def wsX3_whisperLent : List Cond := .code yX3_whisperLent cX3_whisperLent 2 (some .int) :: ([.methodLink RX3 230 yX3_leave, .instanceMethod yX3_leave, .selects RX3 yX3_leave yX3_leave, .initialized RX3, .code yX3_leave cX3_leave 2 none, .fieldLink RX3 213 "LieNights" "trace" "I"] ++ wsX30)
def wsX3_whisper_r1 : List Cond := [Cond.fieldLink RX3 34 "LieNights" "secret" "LLieNights$Secret;", Cond.methodLink RX3 79 yX3_isAnswer, Cond.instanceMethod yX3_isAnswer, Cond.selects RX3 yX3_isAnswer yX3_isAnswer, Cond.initialized RX3, Cond.code yX3_isAnswer cX3_isAnswer 2 (some .boolean), Cond.methodLink RX3 75 yX1_answers, Cond.instanceMethod yX1_answers, Cond.selects RX1 yX1_answers yX1_answers, Cond.initialized RX1, Cond.code yX1_answers cX1_answers 1 (some .int), Cond.fieldLink RX1 21 "LieNights$Secret" "answers" "I", Cond.methodLink RX3 83 yX1_kindOf, Cond.instanceMethod yX1_kindOf, Cond.selects RX1 yX1_kindOf yX1_kindOf, Cond.code yX1_kindOf cX1_kindOf 2 (some .int), Cond.fieldLink RX1 11 "LieNights$Secret" "kinds" "[I", Cond.static yX3_at, Cond.code yX3_at cX3_at 2 (some .int), Cond.methodLink RX3 207 yX3_whisperVain, Cond.instanceMethod yX3_whisperVain, Cond.selects RX3 yX3_whisperVain yX3_whisperVain, Cond.code yX3_whisperVain cX3_whisperVain 1 (some .int), Cond.methodLink RX3 230 yX3_leave]
def wsX3_whisper_r2 : List Cond := [Cond.instanceMethod yX3_leave, Cond.selects RX3 yX3_leave yX3_leave, Cond.code yX3_leave cX3_leave 2 none, Cond.fieldLink RX3 213 "LieNights" "trace" "I", Cond.methodLink RX3 210 yX3_whisperLent, Cond.instanceMethod yX3_whisperLent, Cond.selects RX3 yX3_whisperLent yX3_whisperLent, Cond.code yX3_whisperLent cX3_whisperLent 2 (some .int)]
def wsX3_whisper : List Cond := .code yX3_whisper cX3_whisper 2 (some .int) :: ((wsX3_whisper_r1 ++ wsX3_whisper_r2) ++ wsX30 ++ wsX10)
def wsX3_as_r1 : List Cond := [Cond.fieldLink RX3 45 "LieNights" "lastFault" "I", Cond.fieldLink RX3 34 "LieNights" "secret" "LLieNights$Secret;", Cond.methodLink RX3 79 yX3_isAnswer, Cond.instanceMethod yX3_isAnswer, Cond.selects RX3 yX3_isAnswer yX3_isAnswer, Cond.initialized RX3, Cond.code yX3_isAnswer cX3_isAnswer 2 (some .boolean), Cond.methodLink RX3 75 yX1_answers, Cond.instanceMethod yX1_answers, Cond.selects RX1 yX1_answers yX1_answers, Cond.initialized RX1, Cond.code yX1_answers cX1_answers 1 (some .int), Cond.fieldLink RX1 21 "LieNights$Secret" "answers" "I", Cond.methodLink RX3 54 yX3_within, Cond.static yX3_within, Cond.code yX3_within cX3_within 2 (some .boolean), Cond.methodLink RX3 83 yX1_kindOf, Cond.instanceMethod yX1_kindOf, Cond.selects RX1 yX1_kindOf yX1_kindOf, Cond.code yX1_kindOf cX1_kindOf 2 (some .int), Cond.fieldLink RX1 11 "LieNights$Secret" "kinds" "[I", Cond.static yX3_at, Cond.code yX3_at cX3_at 2 (some .int), Cond.methodLink RX3 65 yX3_faulted]
def wsX3_as_r2 : List Cond := [Cond.instanceMethod yX3_faulted, Cond.selects RX3 yX3_faulted yX3_faulted, Cond.code yX3_faulted cX3_faulted 2 (some .int)]
def wsX3_as : List Cond := .code yX3_as cX3_as 3 (some .int) :: ((wsX3_as_r1 ++ wsX3_as_r2) ++ wsX30 ++ wsX10)
def wsX3_trace : List Cond := .code yX3_trace cX3_trace 1 (some .int) :: ([.fieldLink RX3 213 "LieNights" "trace" "I"] ++ wsX30)
def wsX3_fault : List Cond := .code yX3_fault cX3_fault 1 (some .int) :: ([.fieldLink RX3 45 "LieNights" "lastFault" "I"] ++ wsX30)
def wsX3_many : List Cond := .code yX3_many cX3_many 2 (some .int) :: ([.fieldLink RX3 34 "LieNights" "secret" "LLieNights$Secret;", .fieldLink RX3 161 "LieNights" "readings" "I", .methodLink RX3 75 yX1_answers, .instanceMethod yX1_answers, .selects RX1 yX1_answers yX1_answers, .initialized RX1, .code yX1_answers cX1_answers 1 (some .int), .fieldLink RX1 21 "LieNights$Secret" "answers" "I", .methodLink RX3 155 yX1_pillars, .instanceMethod yX1_pillars, .selects RX1 yX1_pillars yX1_pillars, .code yX1_pillars cX1_pillars 1 (some .int), .fieldLink RX1 25 "LieNights$Secret" "pillars" "I", .methodLink RX3 97 yX1_growth, .instanceMethod yX1_growth, .selects RX1 yX1_growth yX1_growth, .code yX1_growth cX1_growth 1 (some .int), .fieldLink RX1 28 "LieNights$Secret" "growth" "I"] ++ wsX30 ++ wsX10)
def wsX4_init : List Cond := .code yX4_init cX4_init 1 none :: ([.methodLink RX4 1 objectInit, .instanceMethod objectInit, .code objectInit ⟨#[0xb1]⟩ 1 none, .arrayClass .int, .fieldLink RX4 9 "LieNightsModel" "sorts" "[I", .fieldLink RX4 13 "LieNightsModel" "sheetLong" "[I", .fieldLink RX4 16 "LieNightsModel" "cells" "[I", .fieldLink RX4 19 "LieNightsModel" "kind" "[I", .fieldLink RX4 22 "LieNightsModel" "place" "[I", .fieldLink RX4 25 "LieNightsModel" "weight" "[I", .fieldLink RX4 28 "LieNightsModel" "readKind" "[I", .fieldLink RX4 31 "LieNightsModel" "readPlace" "[I", .fieldLink RX4 34 "LieNightsModel" "readWeight" "[I", .fieldLink RX4 37 "LieNightsModel" "worstOf" "[I", .fieldLink RX4 40 "LieNightsModel" "sumOf" "[I", .fieldLink RX4 43 "LieNightsModel" "readAnswerOf" "[I", .fieldLink RX4 46 "LieNightsModel" "readShown" "[I"] ++ wsX40)
def wsX4_fails : List Cond := .code yX4_fails cX4_fails 2 (some .int) :: ([.fieldLink RX4 49 "LieNightsModel" "fault" "I"] ++ wsX40)
def wsX4_lost : List Cond := .code yX4_lost cX4_lost 2 (some .long) :: ([.fieldLink RX4 49 "LieNightsModel" "fault" "I", .constantLong RX4 53 (-9223372036854775808)] ++ wsX40)
def wsX4_within : List Cond := .code yX4_within cX4_within 3 (some .boolean) :: ([])
def wsX4_isSheet : List Cond := .code yX4_isSheet cX4_isSheet 1 (some .boolean) :: ([.methodLink RX4 55 yX4_within, .static yX4_within, .initialized RX4, .code yX4_within cX4_within 3 (some .boolean)])
def wsX4_isSort : List Cond := .code yX4_isSort cX4_isSort 1 (some .boolean) :: ([.methodLink RX4 55 yX4_within, .static yX4_within, .initialized RX4, .code yX4_within cX4_within 3 (some .boolean)])
def wsX4_against : List Cond := .code yX4_against cX4_against 5 (some .int) :: ([.fieldLink RX4 9 "LieNightsModel" "sorts" "[I", .fieldLink RX4 13 "LieNightsModel" "sheetLong" "[I"] ++ wsX40)
def wsX4_isAnswer : List Cond := .code yX4_isAnswer cX4_isAnswer 2 (some .boolean) :: ([.fieldLink RX4 59 "LieNightsModel" "answers" "I"] ++ wsX40)
def wsX4_isSet : List Cond := .code yX4_isSet cX4_isSet 2 (some .boolean) :: ([.fieldLink RX4 59 "LieNightsModel" "answers" "I"] ++ wsX40)
def wsX4_digit : List Cond := .code yX4_digit cX4_digit 3 (some .int) :: ([.fieldLink RX4 62 "LieNightsModel" "at" "I", .fieldLink RX4 16 "LieNightsModel" "cells" "[I", .methodLink RX4 55 yX4_within, .static yX4_within, .initialized RX4, .code yX4_within cX4_within 3 (some .boolean)] ++ wsX40)
def wsX4_isSign : List Cond := .code yX4_isSign cX4_isSign 3 (some .boolean) :: ([.fieldLink RX4 62 "LieNightsModel" "at" "I", .fieldLink RX4 16 "LieNightsModel" "cells" "[I"] ++ wsX40)
def wsX4_readAnswer : List Cond := .code yX4_readAnswer cX4_readAnswer 3 (some .boolean) :: ([.fieldLink RX4 62 "LieNightsModel" "at" "I", .fieldLink RX4 16 "LieNightsModel" "cells" "[I", .fieldLink RX4 28 "LieNightsModel" "readKind" "[I", .fieldLink RX4 83 "LieNightsModel" "readAnswers" "I", .fieldLink RX4 31 "LieNightsModel" "readPlace" "[I", .methodLink RX4 108 yX4_digit, .instanceMethod yX4_digit, .selects RX4 yX4_digit yX4_digit, .initialized RX4, .code yX4_digit cX4_digit 3 (some .int), .methodLink RX4 55 yX4_within, .static yX4_within, .code yX4_within cX4_within 3 (some .boolean)] ++ wsX40)
def wsX4_readThePillars : List Cond := .code yX4_readThePillars cX4_readThePillars 2 (some .boolean) :: ([.fieldLink RX4 92 "LieNightsModel" "readPillars" "I", .fieldLink RX4 62 "LieNightsModel" "at" "I", .fieldLink RX4 34 "LieNightsModel" "readWeight" "[I", .methodLink RX4 101 yX4_isSign, .instanceMethod yX4_isSign, .selects RX4 yX4_isSign yX4_isSign, .initialized RX4, .code yX4_isSign cX4_isSign 3 (some .boolean), .fieldLink RX4 16 "LieNightsModel" "cells" "[I", .methodLink RX4 108 yX4_digit, .instanceMethod yX4_digit, .selects RX4 yX4_digit yX4_digit, .code yX4_digit cX4_digit 3 (some .int), .methodLink RX4 55 yX4_within, .static yX4_within, .code yX4_within cX4_within 3 (some .boolean)] ++ wsX40)
def wsX4_readSecret_r1 : List Cond := [Cond.fieldLink RX4 83 "LieNightsModel" "readAnswers" "I", Cond.fieldLink RX4 92 "LieNightsModel" "readPillars" "I", Cond.fieldLink RX4 86 "LieNightsModel" "readGrowth" "I", Cond.methodLink RX4 101 yX4_isSign, Cond.instanceMethod yX4_isSign, Cond.selects RX4 yX4_isSign yX4_isSign, Cond.initialized RX4, Cond.code yX4_isSign cX4_isSign 3 (some .boolean), Cond.fieldLink RX4 62 "LieNightsModel" "at" "I", Cond.fieldLink RX4 16 "LieNightsModel" "cells" "[I", Cond.methodLink RX4 105 yX4_readAnswer, Cond.instanceMethod yX4_readAnswer, Cond.selects RX4 yX4_readAnswer yX4_readAnswer, Cond.code yX4_readAnswer cX4_readAnswer 3 (some .boolean), Cond.fieldLink RX4 28 "LieNightsModel" "readKind" "[I", Cond.fieldLink RX4 31 "LieNightsModel" "readPlace" "[I", Cond.methodLink RX4 108 yX4_digit, Cond.instanceMethod yX4_digit, Cond.selects RX4 yX4_digit yX4_digit, Cond.code yX4_digit cX4_digit 3 (some .int), Cond.methodLink RX4 55 yX4_within, Cond.static yX4_within, Cond.code yX4_within cX4_within 3 (some .boolean), Cond.methodLink RX4 112 yX4_readThePillars]
def wsX4_readSecret_r2 : List Cond := [Cond.instanceMethod yX4_readThePillars, Cond.selects RX4 yX4_readThePillars yX4_readThePillars, Cond.code yX4_readThePillars cX4_readThePillars 2 (some .boolean), Cond.fieldLink RX4 34 "LieNightsModel" "readWeight" "[I"]
def wsX4_readSecret : List Cond := .code yX4_readSecret cX4_readSecret 2 (some .boolean) :: ((wsX4_readSecret_r1 ++ wsX4_readSecret_r2) ++ wsX40)
def wsX4_secret_r1 : List Cond := [Cond.fieldLink RX4 49 "LieNightsModel" "fault" "I", Cond.fieldLink RX4 62 "LieNightsModel" "at" "I", Cond.fieldLink RX4 83 "LieNightsModel" "readAnswers" "I", Cond.fieldLink RX4 59 "LieNightsModel" "answers" "I", Cond.fieldLink RX4 19 "LieNightsModel" "kind" "[I", Cond.fieldLink RX4 28 "LieNightsModel" "readKind" "[I", Cond.fieldLink RX4 22 "LieNightsModel" "place" "[I", Cond.fieldLink RX4 31 "LieNightsModel" "readPlace" "[I", Cond.fieldLink RX4 86 "LieNightsModel" "readGrowth" "I", Cond.fieldLink RX4 89 "LieNightsModel" "growth" "I", Cond.fieldLink RX4 92 "LieNightsModel" "readPillars" "I", Cond.fieldLink RX4 95 "LieNightsModel" "pillars" "I", Cond.fieldLink RX4 25 "LieNightsModel" "weight" "[I", Cond.fieldLink RX4 34 "LieNightsModel" "readWeight" "[I", Cond.fieldLink RX4 98 "LieNightsModel" "readings" "I", Cond.methodLink RX4 65 yX4_isSheet, Cond.static yX4_isSheet, Cond.initialized RX4, Cond.code yX4_isSheet cX4_isSheet 1 (some .boolean), Cond.methodLink RX4 55 yX4_within, Cond.static yX4_within, Cond.code yX4_within cX4_within 3 (some .boolean), Cond.methodLink RX4 69 yX4_isSort, Cond.static yX4_isSort]
def wsX4_secret_r2 : List Cond := [Cond.code yX4_isSort cX4_isSort 1 (some .boolean), Cond.methodLink RX4 72 yX4_against, Cond.instanceMethod yX4_against, Cond.selects RX4 yX4_against yX4_against, Cond.code yX4_against cX4_against 5 (some .int), Cond.fieldLink RX4 9 "LieNightsModel" "sorts" "[I", Cond.fieldLink RX4 13 "LieNightsModel" "sheetLong" "[I", Cond.methodLink RX4 76 yX4_fails, Cond.instanceMethod yX4_fails, Cond.selects RX4 yX4_fails yX4_fails, Cond.code yX4_fails cX4_fails 2 (some .int), Cond.methodLink RX4 80 yX4_readSecret, Cond.instanceMethod yX4_readSecret, Cond.selects RX4 yX4_readSecret yX4_readSecret, Cond.code yX4_readSecret cX4_readSecret 2 (some .boolean), Cond.methodLink RX4 101 yX4_isSign, Cond.instanceMethod yX4_isSign, Cond.selects RX4 yX4_isSign yX4_isSign, Cond.code yX4_isSign cX4_isSign 3 (some .boolean), Cond.fieldLink RX4 16 "LieNightsModel" "cells" "[I", Cond.methodLink RX4 105 yX4_readAnswer, Cond.instanceMethod yX4_readAnswer, Cond.selects RX4 yX4_readAnswer yX4_readAnswer, Cond.code yX4_readAnswer cX4_readAnswer 3 (some .boolean)]
def wsX4_secret_r3 : List Cond := [Cond.methodLink RX4 108 yX4_digit, Cond.instanceMethod yX4_digit, Cond.selects RX4 yX4_digit yX4_digit, Cond.code yX4_digit cX4_digit 3 (some .int), Cond.methodLink RX4 112 yX4_readThePillars, Cond.instanceMethod yX4_readThePillars, Cond.selects RX4 yX4_readThePillars yX4_readThePillars, Cond.code yX4_readThePillars cX4_readThePillars 2 (some .boolean)]
def wsX4_secret : List Cond := .code yX4_secret cX4_secret 8 (some .int) :: ((wsX4_secret_r1 ++ (wsX4_secret_r2 ++ wsX4_secret_r3)) ++ wsX40)
def wsX4_ofAnswer : List Cond := .code yX4_ofAnswer cX4_ofAnswer 3 (some .int) :: ([.fieldLink RX4 19 "LieNightsModel" "kind" "[I", .fieldLink RX4 22 "LieNightsModel" "place" "[I", .methodLink RX4 115 yX4_isAnswer, .instanceMethod yX4_isAnswer, .selects RX4 yX4_isAnswer yX4_isAnswer, .initialized RX4, .code yX4_isAnswer cX4_isAnswer 2 (some .boolean), .fieldLink RX4 59 "LieNightsModel" "answers" "I"] ++ wsX40)
def wsX4_move : List Cond := .code yX4_move cX4_move 4 (some .int) :: ([.fieldLink RX4 22 "LieNightsModel" "place" "[I", .methodLink RX4 115 yX4_isAnswer, .instanceMethod yX4_isAnswer, .selects RX4 yX4_isAnswer yX4_isAnswer, .initialized RX4, .code yX4_isAnswer cX4_isAnswer 2 (some .boolean), .fieldLink RX4 59 "LieNightsModel" "answers" "I", .methodLink RX4 55 yX4_within, .static yX4_within, .code yX4_within cX4_within 3 (some .boolean)] ++ wsX40)
def wsX4_grow : List Cond := .code yX4_grow cX4_grow 3 (some .int) :: ([.fieldLink RX4 59 "LieNightsModel" "answers" "I", .fieldLink RX4 89 "LieNightsModel" "growth" "I", .methodLink RX4 55 yX4_within, .static yX4_within, .initialized RX4, .code yX4_within cX4_within 3 (some .boolean)] ++ wsX40)
def wsX4_shownBy : List Cond := .code yX4_shownBy cX4_shownBy 4 (some .int) :: ([.fieldLink RX4 22 "LieNightsModel" "place" "[I", .fieldLink RX4 19 "LieNightsModel" "kind" "[I"] ++ wsX40)
def wsX4_shown : List Cond := .code yX4_shown cX4_shown 3 (some .int) :: ([.methodLink RX4 115 yX4_isAnswer, .instanceMethod yX4_isAnswer, .selects RX4 yX4_isAnswer yX4_isAnswer, .initialized RX4, .code yX4_isAnswer cX4_isAnswer 2 (some .boolean), .fieldLink RX4 59 "LieNightsModel" "answers" "I", .methodLink RX4 118 yX4_shownBy, .instanceMethod yX4_shownBy, .selects RX4 yX4_shownBy yX4_shownBy, .code yX4_shownBy cX4_shownBy 4 (some .int), .fieldLink RX4 22 "LieNightsModel" "place" "[I", .fieldLink RX4 19 "LieNightsModel" "kind" "[I"] ++ wsX40)
def wsX4_group : List Cond := .code yX4_group cX4_group 6 (some .int) :: ([.fieldLink RX4 59 "LieNightsModel" "answers" "I", .methodLink RX4 118 yX4_shownBy, .instanceMethod yX4_shownBy, .selects RX4 yX4_shownBy yX4_shownBy, .initialized RX4, .code yX4_shownBy cX4_shownBy 4 (some .int), .fieldLink RX4 22 "LieNightsModel" "place" "[I", .fieldLink RX4 19 "LieNightsModel" "kind" "[I"] ++ wsX40)
def wsX4_tellNights : List Cond := .code yX4_tellNights cX4_tellNights 10 (some .int) :: ([.fieldLink RX4 59 "LieNightsModel" "answers" "I", .fieldLink RX4 16 "LieNightsModel" "cells" "[I", .methodLink RX4 118 yX4_shownBy, .instanceMethod yX4_shownBy, .selects RX4 yX4_shownBy yX4_shownBy, .initialized RX4, .code yX4_shownBy cX4_shownBy 4 (some .int), .fieldLink RX4 22 "LieNightsModel" "place" "[I", .fieldLink RX4 19 "LieNightsModel" "kind" "[I", .methodLink RX4 124 yX4_group, .instanceMethod yX4_group, .selects RX4 yX4_group yX4_group, .code yX4_group cX4_group 6 (some .int)] ++ wsX40)
def wsX4_nights_r1 : List Cond := [Cond.fieldLink RX4 49 "LieNightsModel" "fault" "I", Cond.fieldLink RX4 16 "LieNightsModel" "cells" "[I", Cond.methodLink RX4 115 yX4_isAnswer, Cond.instanceMethod yX4_isAnswer, Cond.selects RX4 yX4_isAnswer yX4_isAnswer, Cond.initialized RX4, Cond.code yX4_isAnswer cX4_isAnswer 2 (some .boolean), Cond.fieldLink RX4 59 "LieNightsModel" "answers" "I", Cond.methodLink RX4 65 yX4_isSheet, Cond.static yX4_isSheet, Cond.code yX4_isSheet cX4_isSheet 1 (some .boolean), Cond.methodLink RX4 55 yX4_within, Cond.static yX4_within, Cond.code yX4_within cX4_within 3 (some .boolean), Cond.methodLink RX4 69 yX4_isSort, Cond.static yX4_isSort, Cond.code yX4_isSort cX4_isSort 1 (some .boolean), Cond.methodLink RX4 72 yX4_against, Cond.instanceMethod yX4_against, Cond.selects RX4 yX4_against yX4_against, Cond.code yX4_against cX4_against 5 (some .int), Cond.fieldLink RX4 9 "LieNightsModel" "sorts" "[I", Cond.fieldLink RX4 13 "LieNightsModel" "sheetLong" "[I", Cond.methodLink RX4 76 yX4_fails]
def wsX4_nights_r2 : List Cond := [Cond.instanceMethod yX4_fails, Cond.selects RX4 yX4_fails yX4_fails, Cond.code yX4_fails cX4_fails 2 (some .int), Cond.methodLink RX4 121 yX4_tellNights, Cond.instanceMethod yX4_tellNights, Cond.selects RX4 yX4_tellNights yX4_tellNights, Cond.code yX4_tellNights cX4_tellNights 10 (some .int), Cond.methodLink RX4 118 yX4_shownBy, Cond.instanceMethod yX4_shownBy, Cond.selects RX4 yX4_shownBy yX4_shownBy, Cond.code yX4_shownBy cX4_shownBy 4 (some .int), Cond.fieldLink RX4 22 "LieNightsModel" "place" "[I", Cond.fieldLink RX4 19 "LieNightsModel" "kind" "[I", Cond.methodLink RX4 124 yX4_group, Cond.instanceMethod yX4_group, Cond.selects RX4 yX4_group yX4_group, Cond.code yX4_group cX4_group 6 (some .int)]
def wsX4_nights : List Cond := .code yX4_nights cX4_nights 10 (some .int) :: ((wsX4_nights_r1 ++ wsX4_nights_r2) ++ wsX40)
def wsX4_worstBy : List Cond := .code yX4_worstBy cX4_worstBy 6 (some .int) :: ([.fieldLink RX4 37 "LieNightsModel" "worstOf" "[I", .methodLink RX4 124 yX4_group, .instanceMethod yX4_group, .selects RX4 yX4_group yX4_group, .initialized RX4, .code yX4_group cX4_group 6 (some .int), .fieldLink RX4 59 "LieNightsModel" "answers" "I", .methodLink RX4 118 yX4_shownBy, .instanceMethod yX4_shownBy, .selects RX4 yX4_shownBy yX4_shownBy, .code yX4_shownBy cX4_shownBy 4 (some .int), .fieldLink RX4 22 "LieNightsModel" "place" "[I", .fieldLink RX4 19 "LieNightsModel" "kind" "[I"] ++ wsX40)
def wsX4_size : List Cond := .code yX4_size cX4_size 3 (some .int) :: ([])
def wsX4_sumBy : List Cond := .code yX4_sumBy cX4_sumBy 6 (some .int) :: ([.fieldLink RX4 40 "LieNightsModel" "sumOf" "[I", .methodLink RX4 128 yX4_size, .static yX4_size, .initialized RX4, .code yX4_size cX4_size 3 (some .int), .methodLink RX4 124 yX4_group, .instanceMethod yX4_group, .selects RX4 yX4_group yX4_group, .code yX4_group cX4_group 6 (some .int), .fieldLink RX4 59 "LieNightsModel" "answers" "I", .methodLink RX4 118 yX4_shownBy, .instanceMethod yX4_shownBy, .selects RX4 yX4_shownBy yX4_shownBy, .code yX4_shownBy cX4_shownBy 4 (some .int), .fieldLink RX4 22 "LieNightsModel" "place" "[I", .fieldLink RX4 19 "LieNightsModel" "kind" "[I"] ++ wsX40)
def wsX4_findWorst_r1 : List Cond := [Cond.fieldLink RX4 37 "LieNightsModel" "worstOf" "[I", Cond.fieldLink RX4 40 "LieNightsModel" "sumOf" "[I", Cond.fieldLink RX4 59 "LieNightsModel" "answers" "I", Cond.methodLink RX4 131 yX4_worstBy, Cond.instanceMethod yX4_worstBy, Cond.selects RX4 yX4_worstBy yX4_worstBy, Cond.initialized RX4, Cond.code yX4_worstBy cX4_worstBy 6 (some .int), Cond.methodLink RX4 124 yX4_group, Cond.instanceMethod yX4_group, Cond.selects RX4 yX4_group yX4_group, Cond.code yX4_group cX4_group 6 (some .int), Cond.methodLink RX4 118 yX4_shownBy, Cond.instanceMethod yX4_shownBy, Cond.selects RX4 yX4_shownBy yX4_shownBy, Cond.code yX4_shownBy cX4_shownBy 4 (some .int), Cond.fieldLink RX4 22 "LieNightsModel" "place" "[I", Cond.fieldLink RX4 19 "LieNightsModel" "kind" "[I", Cond.methodLink RX4 134 yX4_sumBy, Cond.instanceMethod yX4_sumBy, Cond.selects RX4 yX4_sumBy yX4_sumBy, Cond.code yX4_sumBy cX4_sumBy 6 (some .int), Cond.methodLink RX4 128 yX4_size, Cond.static yX4_size]
def wsX4_findWorst_r2 : List Cond := [Cond.code yX4_size cX4_size 3 (some .int)]
def wsX4_findWorst : List Cond := .code yX4_findWorst cX4_findWorst 6 none :: ((wsX4_findWorst_r1 ++ wsX4_findWorst_r2) ++ wsX40)
def wsX4_worst_r1 : List Cond := [Cond.fieldLink RX4 59 "LieNightsModel" "answers" "I", Cond.fieldLink RX4 37 "LieNightsModel" "worstOf" "[I", Cond.methodLink RX4 137 yX4_isSet, Cond.instanceMethod yX4_isSet, Cond.selects RX4 yX4_isSet yX4_isSet, Cond.initialized RX4, Cond.code yX4_isSet cX4_isSet 2 (some .boolean), Cond.methodLink RX4 140 yX4_findWorst, Cond.instanceMethod yX4_findWorst, Cond.selects RX4 yX4_findWorst yX4_findWorst, Cond.code yX4_findWorst cX4_findWorst 6 none, Cond.fieldLink RX4 40 "LieNightsModel" "sumOf" "[I", Cond.methodLink RX4 131 yX4_worstBy, Cond.instanceMethod yX4_worstBy, Cond.selects RX4 yX4_worstBy yX4_worstBy, Cond.code yX4_worstBy cX4_worstBy 6 (some .int), Cond.methodLink RX4 124 yX4_group, Cond.instanceMethod yX4_group, Cond.selects RX4 yX4_group yX4_group, Cond.code yX4_group cX4_group 6 (some .int), Cond.methodLink RX4 118 yX4_shownBy, Cond.instanceMethod yX4_shownBy, Cond.selects RX4 yX4_shownBy yX4_shownBy, Cond.code yX4_shownBy cX4_shownBy 4 (some .int)]
def wsX4_worst_r2 : List Cond := [Cond.fieldLink RX4 22 "LieNightsModel" "place" "[I", Cond.fieldLink RX4 19 "LieNightsModel" "kind" "[I", Cond.methodLink RX4 134 yX4_sumBy, Cond.instanceMethod yX4_sumBy, Cond.selects RX4 yX4_sumBy yX4_sumBy, Cond.code yX4_sumBy cX4_sumBy 6 (some .int), Cond.methodLink RX4 128 yX4_size, Cond.static yX4_size, Cond.code yX4_size cX4_size 3 (some .int)]
def wsX4_worst : List Cond := .code yX4_worst cX4_worst 2 (some .int) :: ((wsX4_worst_r1 ++ wsX4_worst_r2) ++ wsX40)
def wsX4_askOf : List Cond := .code yX4_askOf cX4_askOf 3 (some .int) :: ([.fieldLink RX4 59 "LieNightsModel" "answers" "I", .fieldLink RX4 37 "LieNightsModel" "worstOf" "[I", .methodLink RX4 131 yX4_worstBy, .instanceMethod yX4_worstBy, .selects RX4 yX4_worstBy yX4_worstBy, .initialized RX4, .code yX4_worstBy cX4_worstBy 6 (some .int), .methodLink RX4 124 yX4_group, .instanceMethod yX4_group, .selects RX4 yX4_group yX4_group, .code yX4_group cX4_group 6 (some .int), .methodLink RX4 118 yX4_shownBy, .instanceMethod yX4_shownBy, .selects RX4 yX4_shownBy yX4_shownBy, .code yX4_shownBy cX4_shownBy 4 (some .int), .fieldLink RX4 22 "LieNightsModel" "place" "[I", .fieldLink RX4 19 "LieNightsModel" "kind" "[I"] ++ wsX40)
def wsX4_ask_r1 : List Cond := [Cond.fieldLink RX4 59 "LieNightsModel" "answers" "I", Cond.methodLink RX4 137 yX4_isSet, Cond.instanceMethod yX4_isSet, Cond.selects RX4 yX4_isSet yX4_isSet, Cond.initialized RX4, Cond.code yX4_isSet cX4_isSet 2 (some .boolean), Cond.methodLink RX4 140 yX4_findWorst, Cond.instanceMethod yX4_findWorst, Cond.selects RX4 yX4_findWorst yX4_findWorst, Cond.code yX4_findWorst cX4_findWorst 6 none, Cond.fieldLink RX4 37 "LieNightsModel" "worstOf" "[I", Cond.fieldLink RX4 40 "LieNightsModel" "sumOf" "[I", Cond.methodLink RX4 131 yX4_worstBy, Cond.instanceMethod yX4_worstBy, Cond.selects RX4 yX4_worstBy yX4_worstBy, Cond.code yX4_worstBy cX4_worstBy 6 (some .int), Cond.methodLink RX4 124 yX4_group, Cond.instanceMethod yX4_group, Cond.selects RX4 yX4_group yX4_group, Cond.code yX4_group cX4_group 6 (some .int), Cond.methodLink RX4 118 yX4_shownBy, Cond.instanceMethod yX4_shownBy, Cond.selects RX4 yX4_shownBy yX4_shownBy, Cond.code yX4_shownBy cX4_shownBy 4 (some .int)]
def wsX4_ask_r2 : List Cond := [Cond.fieldLink RX4 22 "LieNightsModel" "place" "[I", Cond.fieldLink RX4 19 "LieNightsModel" "kind" "[I", Cond.methodLink RX4 134 yX4_sumBy, Cond.instanceMethod yX4_sumBy, Cond.selects RX4 yX4_sumBy yX4_sumBy, Cond.code yX4_sumBy cX4_sumBy 6 (some .int), Cond.methodLink RX4 128 yX4_size, Cond.static yX4_size, Cond.code yX4_size cX4_size 3 (some .int), Cond.methodLink RX4 144 yX4_askOf, Cond.instanceMethod yX4_askOf, Cond.selects RX4 yX4_askOf yX4_askOf, Cond.code yX4_askOf cX4_askOf 3 (some .int)]
def wsX4_ask : List Cond := .code yX4_ask cX4_ask 2 (some .int) :: ((wsX4_ask_r1 ++ wsX4_ask_r2) ++ wsX40)
def wsX4_inLeastTerms : List Cond := .code yX4_inLeastTerms cX4_inLeastTerms 11 (some .long) :: ([])
def wsX4_mean_r1 : List Cond := [Cond.fieldLink RX4 59 "LieNightsModel" "answers" "I", Cond.constantLong RX4 53 (-9223372036854775808), Cond.fieldLink RX4 40 "LieNightsModel" "sumOf" "[I", Cond.methodLink RX4 137 yX4_isSet, Cond.instanceMethod yX4_isSet, Cond.selects RX4 yX4_isSet yX4_isSet, Cond.initialized RX4, Cond.code yX4_isSet cX4_isSet 2 (some .boolean), Cond.methodLink RX4 55 yX4_within, Cond.static yX4_within, Cond.code yX4_within cX4_within 3 (some .boolean), Cond.methodLink RX4 140 yX4_findWorst, Cond.instanceMethod yX4_findWorst, Cond.selects RX4 yX4_findWorst yX4_findWorst, Cond.code yX4_findWorst cX4_findWorst 6 none, Cond.fieldLink RX4 37 "LieNightsModel" "worstOf" "[I", Cond.methodLink RX4 131 yX4_worstBy, Cond.instanceMethod yX4_worstBy, Cond.selects RX4 yX4_worstBy yX4_worstBy, Cond.code yX4_worstBy cX4_worstBy 6 (some .int), Cond.methodLink RX4 124 yX4_group, Cond.instanceMethod yX4_group, Cond.selects RX4 yX4_group yX4_group, Cond.code yX4_group cX4_group 6 (some .int)]
def wsX4_mean_r2 : List Cond := [Cond.methodLink RX4 118 yX4_shownBy, Cond.instanceMethod yX4_shownBy, Cond.selects RX4 yX4_shownBy yX4_shownBy, Cond.code yX4_shownBy cX4_shownBy 4 (some .int), Cond.fieldLink RX4 22 "LieNightsModel" "place" "[I", Cond.fieldLink RX4 19 "LieNightsModel" "kind" "[I", Cond.methodLink RX4 134 yX4_sumBy, Cond.instanceMethod yX4_sumBy, Cond.selects RX4 yX4_sumBy yX4_sumBy, Cond.code yX4_sumBy cX4_sumBy 6 (some .int), Cond.methodLink RX4 128 yX4_size, Cond.static yX4_size, Cond.code yX4_size cX4_size 3 (some .int), Cond.methodLink RX4 147 yX4_inLeastTerms, Cond.static yX4_inLeastTerms, Cond.code yX4_inLeastTerms cX4_inLeastTerms 11 (some .long)]
def wsX4_mean : List Cond := .code yX4_mean cX4_mean 3 (some .long) :: ((wsX4_mean_r1 ++ wsX4_mean_r2) ++ wsX40)
def wsX4_parts : List Cond := .code yX4_parts cX4_parts 5 (some .int) :: ([.methodLink RX4 115 yX4_isAnswer, .instanceMethod yX4_isAnswer, .selects RX4 yX4_isAnswer yX4_isAnswer, .initialized RX4, .code yX4_isAnswer cX4_isAnswer 2 (some .boolean), .fieldLink RX4 59 "LieNightsModel" "answers" "I", .methodLink RX4 137 yX4_isSet, .instanceMethod yX4_isSet, .selects RX4 yX4_isSet yX4_isSet, .code yX4_isSet cX4_isSet 2 (some .boolean), .methodLink RX4 124 yX4_group, .instanceMethod yX4_group, .selects RX4 yX4_group yX4_group, .code yX4_group cX4_group 6 (some .int), .methodLink RX4 118 yX4_shownBy, .instanceMethod yX4_shownBy, .selects RX4 yX4_shownBy yX4_shownBy, .code yX4_shownBy cX4_shownBy 4 (some .int), .fieldLink RX4 22 "LieNightsModel" "place" "[I", .fieldLink RX4 19 "LieNightsModel" "kind" "[I"] ++ wsX40)
def wsX4_months : List Cond := .code yX4_months cX4_months 4 (some .int) :: ([.fieldLink RX4 59 "LieNightsModel" "answers" "I", .fieldLink RX4 95 "LieNightsModel" "pillars" "I", .fieldLink RX4 25 "LieNightsModel" "weight" "[I", .fieldLink RX4 89 "LieNightsModel" "growth" "I"] ++ wsX40)
def wsX4_down : List Cond := .code yX4_down cX4_down 7 (some .int) :: ([.fieldLink RX4 59 "LieNightsModel" "answers" "I", .fieldLink RX4 95 "LieNightsModel" "pillars" "I", .fieldLink RX4 25 "LieNightsModel" "weight" "[I", .fieldLink RX4 89 "LieNightsModel" "growth" "I", .methodLink RX4 55 yX4_within, .static yX4_within, .initialized RX4, .code yX4_within cX4_within 3 (some .boolean)] ++ wsX40)
def wsX4_reading : List Cond := .code yX4_reading cX4_reading 3 (some .int) :: ([.fieldLink RX4 98 "LieNightsModel" "readings" "I", .fieldLink RX4 43 "LieNightsModel" "readAnswerOf" "[I", .fieldLink RX4 46 "LieNightsModel" "readShown" "[I", .methodLink RX4 115 yX4_isAnswer, .instanceMethod yX4_isAnswer, .selects RX4 yX4_isAnswer yX4_isAnswer, .initialized RX4, .code yX4_isAnswer cX4_isAnswer 2 (some .boolean), .fieldLink RX4 59 "LieNightsModel" "answers" "I", .methodLink RX4 55 yX4_within, .static yX4_within, .code yX4_within cX4_within 3 (some .boolean)] ++ wsX40)
def wsX4_back : List Cond := .code yX4_back cX4_back 2 (some .int) :: ([.fieldLink RX4 98 "LieNightsModel" "readings" "I", .methodLink RX4 55 yX4_within, .static yX4_within, .initialized RX4, .code yX4_within cX4_within 3 (some .boolean)] ++ wsX40)
def wsX4_leftSet : List Cond := .code yX4_leftSet cX4_leftSet 3 (some .int) :: ([.fieldLink RX4 59 "LieNightsModel" "answers" "I", .fieldLink RX4 98 "LieNightsModel" "readings" "I", .fieldLink RX4 43 "LieNightsModel" "readAnswerOf" "[I", .fieldLink RX4 46 "LieNightsModel" "readShown" "[I", .methodLink RX4 124 yX4_group, .instanceMethod yX4_group, .selects RX4 yX4_group yX4_group, .initialized RX4, .code yX4_group cX4_group 6 (some .int), .methodLink RX4 118 yX4_shownBy, .instanceMethod yX4_shownBy, .selects RX4 yX4_shownBy yX4_shownBy, .code yX4_shownBy cX4_shownBy 4 (some .int), .fieldLink RX4 22 "LieNightsModel" "place" "[I", .fieldLink RX4 19 "LieNightsModel" "kind" "[I"] ++ wsX40)
def wsX4_left : List Cond := .code yX4_left cX4_left 1 (some .int) :: ([.fieldLink RX4 59 "LieNightsModel" "answers" "I", .methodLink RX4 151 yX4_leftSet, .instanceMethod yX4_leftSet, .selects RX4 yX4_leftSet yX4_leftSet, .initialized RX4, .code yX4_leftSet cX4_leftSet 3 (some .int), .fieldLink RX4 98 "LieNightsModel" "readings" "I", .fieldLink RX4 43 "LieNightsModel" "readAnswerOf" "[I", .fieldLink RX4 46 "LieNightsModel" "readShown" "[I", .methodLink RX4 124 yX4_group, .instanceMethod yX4_group, .selects RX4 yX4_group yX4_group, .code yX4_group cX4_group 6 (some .int), .methodLink RX4 118 yX4_shownBy, .instanceMethod yX4_shownBy, .selects RX4 yX4_shownBy yX4_shownBy, .code yX4_shownBy cX4_shownBy 4 (some .int), .fieldLink RX4 22 "LieNightsModel" "place" "[I", .fieldLink RX4 19 "LieNightsModel" "kind" "[I"] ++ wsX40)
def wsX4_kinds : List Cond := .code yX4_kinds cX4_kinds 5 (some .int) :: ([.fieldLink RX4 19 "LieNightsModel" "kind" "[I", .methodLink RX4 115 yX4_isAnswer, .instanceMethod yX4_isAnswer, .selects RX4 yX4_isAnswer yX4_isAnswer, .initialized RX4, .code yX4_isAnswer cX4_isAnswer 2 (some .boolean), .fieldLink RX4 59 "LieNightsModel" "answers" "I", .methodLink RX4 151 yX4_leftSet, .instanceMethod yX4_leftSet, .selects RX4 yX4_leftSet yX4_leftSet, .code yX4_leftSet cX4_leftSet 3 (some .int), .fieldLink RX4 98 "LieNightsModel" "readings" "I", .fieldLink RX4 43 "LieNightsModel" "readAnswerOf" "[I", .fieldLink RX4 46 "LieNightsModel" "readShown" "[I", .methodLink RX4 124 yX4_group, .instanceMethod yX4_group, .selects RX4 yX4_group yX4_group, .code yX4_group cX4_group 6 (some .int), .methodLink RX4 118 yX4_shownBy, .instanceMethod yX4_shownBy, .selects RX4 yX4_shownBy yX4_shownBy, .code yX4_shownBy cX4_shownBy 4 (some .int), .fieldLink RX4 22 "LieNightsModel" "place" "[I"] ++ wsX40)
def wsX4_places : List Cond := .code yX4_places cX4_places 5 (some .int) :: ([.fieldLink RX4 22 "LieNightsModel" "place" "[I", .methodLink RX4 115 yX4_isAnswer, .instanceMethod yX4_isAnswer, .selects RX4 yX4_isAnswer yX4_isAnswer, .initialized RX4, .code yX4_isAnswer cX4_isAnswer 2 (some .boolean), .fieldLink RX4 59 "LieNightsModel" "answers" "I", .methodLink RX4 151 yX4_leftSet, .instanceMethod yX4_leftSet, .selects RX4 yX4_leftSet yX4_leftSet, .code yX4_leftSet cX4_leftSet 3 (some .int), .fieldLink RX4 98 "LieNightsModel" "readings" "I", .fieldLink RX4 43 "LieNightsModel" "readAnswerOf" "[I", .fieldLink RX4 46 "LieNightsModel" "readShown" "[I", .methodLink RX4 124 yX4_group, .instanceMethod yX4_group, .selects RX4 yX4_group yX4_group, .code yX4_group cX4_group 6 (some .int), .methodLink RX4 118 yX4_shownBy, .instanceMethod yX4_shownBy, .selects RX4 yX4_shownBy yX4_shownBy, .code yX4_shownBy cX4_shownBy 4 (some .int), .fieldLink RX4 19 "LieNightsModel" "kind" "[I"] ++ wsX40)
def wsX4_isBound : List Cond := .code yX4_isBound cX4_isBound 6 (some .boolean) :: ([.fieldLink RX4 59 "LieNightsModel" "answers" "I", .methodLink RX4 144 yX4_askOf, .instanceMethod yX4_askOf, .selects RX4 yX4_askOf yX4_askOf, .initialized RX4, .code yX4_askOf cX4_askOf 3 (some .int), .fieldLink RX4 37 "LieNightsModel" "worstOf" "[I", .methodLink RX4 131 yX4_worstBy, .instanceMethod yX4_worstBy, .selects RX4 yX4_worstBy yX4_worstBy, .code yX4_worstBy cX4_worstBy 6 (some .int), .methodLink RX4 124 yX4_group, .instanceMethod yX4_group, .selects RX4 yX4_group yX4_group, .code yX4_group cX4_group 6 (some .int), .methodLink RX4 118 yX4_shownBy, .instanceMethod yX4_shownBy, .selects RX4 yX4_shownBy yX4_shownBy, .code yX4_shownBy cX4_shownBy 4 (some .int), .fieldLink RX4 22 "LieNightsModel" "place" "[I", .fieldLink RX4 19 "LieNightsModel" "kind" "[I"] ++ wsX40)
def wsX4_odds_r1 : List Cond := [Cond.fieldLink RX4 59 "LieNightsModel" "answers" "I", Cond.constantLong RX4 53 (-9223372036854775808), Cond.methodLink RX4 55 yX4_within, Cond.static yX4_within, Cond.initialized RX4, Cond.code yX4_within cX4_within 3 (some .boolean), Cond.methodLink RX4 140 yX4_findWorst, Cond.instanceMethod yX4_findWorst, Cond.selects RX4 yX4_findWorst yX4_findWorst, Cond.code yX4_findWorst cX4_findWorst 6 none, Cond.fieldLink RX4 37 "LieNightsModel" "worstOf" "[I", Cond.fieldLink RX4 40 "LieNightsModel" "sumOf" "[I", Cond.methodLink RX4 131 yX4_worstBy, Cond.instanceMethod yX4_worstBy, Cond.selects RX4 yX4_worstBy yX4_worstBy, Cond.code yX4_worstBy cX4_worstBy 6 (some .int), Cond.methodLink RX4 124 yX4_group, Cond.instanceMethod yX4_group, Cond.selects RX4 yX4_group yX4_group, Cond.code yX4_group cX4_group 6 (some .int), Cond.methodLink RX4 118 yX4_shownBy, Cond.instanceMethod yX4_shownBy, Cond.selects RX4 yX4_shownBy yX4_shownBy, Cond.code yX4_shownBy cX4_shownBy 4 (some .int)]
def wsX4_odds_r2 : List Cond := [Cond.fieldLink RX4 22 "LieNightsModel" "place" "[I", Cond.fieldLink RX4 19 "LieNightsModel" "kind" "[I", Cond.methodLink RX4 134 yX4_sumBy, Cond.instanceMethod yX4_sumBy, Cond.selects RX4 yX4_sumBy yX4_sumBy, Cond.code yX4_sumBy cX4_sumBy 6 (some .int), Cond.methodLink RX4 128 yX4_size, Cond.static yX4_size, Cond.code yX4_size cX4_size 3 (some .int), Cond.methodLink RX4 155 yX4_isBound, Cond.instanceMethod yX4_isBound, Cond.selects RX4 yX4_isBound yX4_isBound, Cond.code yX4_isBound cX4_isBound 6 (some .boolean), Cond.methodLink RX4 144 yX4_askOf, Cond.instanceMethod yX4_askOf, Cond.selects RX4 yX4_askOf yX4_askOf, Cond.code yX4_askOf cX4_askOf 3 (some .int), Cond.methodLink RX4 147 yX4_inLeastTerms, Cond.static yX4_inLeastTerms, Cond.code yX4_inLeastTerms cX4_inLeastTerms 11 (some .long)]
def wsX4_odds : List Cond := .code yX4_odds cX4_odds 5 (some .long) :: ((wsX4_odds_r1 ++ wsX4_odds_r2) ++ wsX40)
def wsX4_sheet : List Cond := .code yX4_sheet cX4_sheet 5 (some .int) :: ([.fieldLink RX4 49 "LieNightsModel" "fault" "I", .fieldLink RX4 9 "LieNightsModel" "sorts" "[I", .fieldLink RX4 13 "LieNightsModel" "sheetLong" "[I", .fieldLink RX4 16 "LieNightsModel" "cells" "[I", .methodLink RX4 65 yX4_isSheet, .static yX4_isSheet, .initialized RX4, .code yX4_isSheet cX4_isSheet 1 (some .boolean), .methodLink RX4 55 yX4_within, .static yX4_within, .code yX4_within cX4_within 3 (some .boolean), .methodLink RX4 69 yX4_isSort, .static yX4_isSort, .code yX4_isSort cX4_isSort 1 (some .boolean), .methodLink RX4 76 yX4_fails, .instanceMethod yX4_fails, .selects RX4 yX4_fails yX4_fails, .code yX4_fails cX4_fails 2 (some .int)] ++ wsX40)
def wsX4_lose : List Cond := .code yX4_lose cX4_lose 3 (some .int) :: ([.fieldLink RX4 9 "LieNightsModel" "sorts" "[I", .methodLink RX4 65 yX4_isSheet, .static yX4_isSheet, .initialized RX4, .code yX4_isSheet cX4_isSheet 1 (some .boolean), .methodLink RX4 55 yX4_within, .static yX4_within, .code yX4_within cX4_within 3 (some .boolean)] ++ wsX40)
def wsX4_put : List Cond := .code yX4_put cX4_put 4 (some .int) :: ([.fieldLink RX4 49 "LieNightsModel" "fault" "I", .fieldLink RX4 9 "LieNightsModel" "sorts" "[I", .fieldLink RX4 13 "LieNightsModel" "sheetLong" "[I", .fieldLink RX4 16 "LieNightsModel" "cells" "[I", .methodLink RX4 65 yX4_isSheet, .static yX4_isSheet, .initialized RX4, .code yX4_isSheet cX4_isSheet 1 (some .boolean), .methodLink RX4 55 yX4_within, .static yX4_within, .code yX4_within cX4_within 3 (some .boolean), .methodLink RX4 76 yX4_fails, .instanceMethod yX4_fails, .selects RX4 yX4_fails yX4_fails, .code yX4_fails cX4_fails 2 (some .int)] ++ wsX40)
def wsX4_cell : List Cond := .code yX4_cell cX4_cell 4 (some .long) :: ([.fieldLink RX4 49 "LieNightsModel" "fault" "I", .constantLong RX4 53 (-9223372036854775808), .fieldLink RX4 9 "LieNightsModel" "sorts" "[I", .fieldLink RX4 13 "LieNightsModel" "sheetLong" "[I", .fieldLink RX4 16 "LieNightsModel" "cells" "[I", .methodLink RX4 65 yX4_isSheet, .static yX4_isSheet, .initialized RX4, .code yX4_isSheet cX4_isSheet 1 (some .boolean), .methodLink RX4 55 yX4_within, .static yX4_within, .code yX4_within cX4_within 3 (some .boolean), .methodLink RX4 69 yX4_isSort, .static yX4_isSort, .code yX4_isSort cX4_isSort 1 (some .boolean), .methodLink RX4 158 yX4_lost, .instanceMethod yX4_lost, .selects RX4 yX4_lost yX4_lost, .code yX4_lost cX4_lost 2 (some .long)] ++ wsX40)
def wsX4_copy : List Cond := .code yX4_copy cX4_copy 10 (some .int) :: ([.fieldLink RX4 49 "LieNightsModel" "fault" "I", .fieldLink RX4 9 "LieNightsModel" "sorts" "[I", .fieldLink RX4 13 "LieNightsModel" "sheetLong" "[I", .fieldLink RX4 16 "LieNightsModel" "cells" "[I", .methodLink RX4 65 yX4_isSheet, .static yX4_isSheet, .initialized RX4, .code yX4_isSheet cX4_isSheet 1 (some .boolean), .methodLink RX4 55 yX4_within, .static yX4_within, .code yX4_within cX4_within 3 (some .boolean), .methodLink RX4 76 yX4_fails, .instanceMethod yX4_fails, .selects RX4 yX4_fails yX4_fails, .code yX4_fails cX4_fails 2 (some .int)] ++ wsX40)
def wsX4_begins : List Cond := .code yX4_begins cX4_begins 2 none :: ([.fieldLink RX4 162 "LieNightsModel" "trace" "I"] ++ wsX40)
def wsX4_tell : List Cond := .code yX4_tell cX4_tell 3 (some .int) :: ([.fieldLink RX4 22 "LieNightsModel" "place" "[I", .fieldLink RX4 19 "LieNightsModel" "kind" "[I", .methodLink RX4 115 yX4_isAnswer, .instanceMethod yX4_isAnswer, .selects RX4 yX4_isAnswer yX4_isAnswer, .initialized RX4, .code yX4_isAnswer cX4_isAnswer 2 (some .boolean), .fieldLink RX4 59 "LieNightsModel" "answers" "I", .methodLink RX4 165 yX4_begins, .instanceMethod yX4_begins, .selects RX4 yX4_begins yX4_begins, .code yX4_begins cX4_begins 2 none, .fieldLink RX4 162 "LieNightsModel" "trace" "I"] ++ wsX40)
def wsX4_whisper : List Cond := .code yX4_whisper cX4_whisper 2 (some .int) :: ([.fieldLink RX4 19 "LieNightsModel" "kind" "[I", .methodLink RX4 115 yX4_isAnswer, .instanceMethod yX4_isAnswer, .selects RX4 yX4_isAnswer yX4_isAnswer, .initialized RX4, .code yX4_isAnswer cX4_isAnswer 2 (some .boolean), .fieldLink RX4 59 "LieNightsModel" "answers" "I", .methodLink RX4 165 yX4_begins, .instanceMethod yX4_begins, .selects RX4 yX4_begins yX4_begins, .code yX4_begins cX4_begins 2 none, .fieldLink RX4 162 "LieNightsModel" "trace" "I"] ++ wsX40)
def wsX4_as : List Cond := .code yX4_as cX4_as 3 (some .int) :: ([.fieldLink RX4 49 "LieNightsModel" "fault" "I", .fieldLink RX4 19 "LieNightsModel" "kind" "[I", .methodLink RX4 115 yX4_isAnswer, .instanceMethod yX4_isAnswer, .selects RX4 yX4_isAnswer yX4_isAnswer, .initialized RX4, .code yX4_isAnswer cX4_isAnswer 2 (some .boolean), .fieldLink RX4 59 "LieNightsModel" "answers" "I", .methodLink RX4 55 yX4_within, .static yX4_within, .code yX4_within cX4_within 3 (some .boolean), .methodLink RX4 76 yX4_fails, .instanceMethod yX4_fails, .selects RX4 yX4_fails yX4_fails, .code yX4_fails cX4_fails 2 (some .int)] ++ wsX40)
def wsX4_trace : List Cond := .code yX4_trace cX4_trace 1 (some .int) :: ([.fieldLink RX4 162 "LieNightsModel" "trace" "I"] ++ wsX40)
def wsX4_fault : List Cond := .code yX4_fault cX4_fault 1 (some .int) :: ([.fieldLink RX4 49 "LieNightsModel" "fault" "I"] ++ wsX40)
def wsX4_many : List Cond := .code yX4_many cX4_many 2 (some .int) :: ([.fieldLink RX4 59 "LieNightsModel" "answers" "I", .fieldLink RX4 95 "LieNightsModel" "pillars" "I", .fieldLink RX4 89 "LieNightsModel" "growth" "I", .fieldLink RX4 98 "LieNightsModel" "readings" "I"] ++ wsX40)
def wsJ9_abs_0f7a4 : List Cond := .code yJ9_abs_0f7a4 cJ9_abs_0f7a4 1 (some .int) :: ([])
def wsJ9_max_7cf53 : List Cond := .code yJ9_max_7cf53 cJ9_max_7cf53 2 (some .int) :: ([])
def wsJ9_min_7cf53 : List Cond := .code yJ9_min_7cf53 cJ9_min_7cf53 2 (some .int) :: ([])
theorem dX0_init_0 : decode cX0_init 0 = .ok (.aload_n 0, 1) := by decide +kernel
theorem dX0_init_1 : decode cX0_init 1 = .ok (.invokespecial 5, 3) := by decide +kernel
theorem dX0_init_4 : decode cX0_init 4 = .ok (.aload_n 0, 1) := by decide +kernel
theorem dX0_init_5 : decode cX0_init 5 = .ok (.bipush 36, 2) := by decide +kernel
theorem dX0_init_7 : decode cX0_init 7 = .ok (.newarray .int, 2) := by decide +kernel
theorem dX0_init_9 : decode cX0_init 9 = .ok (.putfield 11, 3) := by decide +kernel
theorem dX0_init_12 : decode cX0_init 12 = .ok (.aload_n 0, 1) := by decide +kernel
theorem dX0_init_13 : decode cX0_init 13 = .ok (.bipush 64, 2) := by decide +kernel
theorem dX0_init_15 : decode cX0_init 15 = .ok (.newarray .int, 2) := by decide +kernel
theorem dX0_init_17 : decode cX0_init 17 = .ok (.putfield 17, 3) := by decide +kernel
theorem dX0_init_20 : decode cX0_init 20 = .ok (.aload_n 0, 1) := by decide +kernel
theorem dX0_init_21 : decode cX0_init 21 = .ok (.bipush 64, 2) := by decide +kernel
theorem dX0_init_23 : decode cX0_init 23 = .ok (.newarray .int, 2) := by decide +kernel
theorem dX0_init_25 : decode cX0_init 25 = .ok (.putfield 20, 3) := by decide +kernel
theorem dX0_init_28 : decode cX0_init 28 = .ok (.aload_n 0, 1) := by decide +kernel
theorem dX0_init_29 : decode cX0_init 29 = .ok (.bipush 64, 2) := by decide +kernel
theorem dX0_init_31 : decode cX0_init 31 = .ok (.newarray .int, 2) := by decide +kernel
theorem dX0_init_33 : decode cX0_init 33 = .ok (.putfield 23, 3) := by decide +kernel
theorem dX0_init_36 : decode cX0_init 36 = .ok (.return_, 1) := by decide +kernel
set_option maxRecDepth 20000 in
theorem ggX0_worstOf_X3_at : GoodIn wsX0_worstOf wsX3_at := goodIn_r _ [4] (by decide +kernel) (by decide +kernel)
set_option maxRecDepth 20000 in
theorem gX0_worstOf_X3_at_n26 : GoodIn wsX0_worstOf (wsX3_at) := ggX0_worstOf_X3_at
theorem dX0_worstOf_0 : decode cX0_worstOf 0 = .ok (.aload_n 0, 1) := by decide +kernel
theorem dX0_worstOf_1 : decode cX0_worstOf 1 = .ok (.getfield 17, 3) := by decide +kernel
theorem dX0_worstOf_4 : decode cX0_worstOf 4 = .ok (.iload_n 1, 1) := by decide +kernel
theorem dX0_worstOf_5 : decode cX0_worstOf 5 = .ok (.invokestatic 26, 3) := by decide +kernel
theorem dX0_worstOf_8 : decode cX0_worstOf 8 = .ok (.ireturn, 1) := by decide +kernel
set_option maxRecDepth 20000 in
theorem ggX0_askOf_X3_at : GoodIn wsX0_askOf wsX3_at := goodIn_r _ [4] (by decide +kernel) (by decide +kernel)
set_option maxRecDepth 20000 in
theorem gX0_askOf_X3_at_n26 : GoodIn wsX0_askOf (wsX3_at) := ggX0_askOf_X3_at
theorem dX0_askOf_0 : decode cX0_askOf 0 = .ok (.iload_n 1, 1) := by decide +kernel
theorem dX0_askOf_1 : decode cX0_askOf 1 = .ok (.ifCond .ne 8, 3) := by decide +kernel
theorem dX0_askOf_4 : decode cX0_askOf 4 = .ok (.bipush (-9), 2) := by decide +kernel
theorem dX0_askOf_6 : decode cX0_askOf 6 = .ok (.goto 11, 3) := by decide +kernel
theorem dX0_askOf_9 : decode cX0_askOf 9 = .ok (.aload_n 0, 1) := by decide +kernel
theorem dX0_askOf_10 : decode cX0_askOf 10 = .ok (.getfield 20, 3) := by decide +kernel
theorem dX0_askOf_13 : decode cX0_askOf 13 = .ok (.iload_n 1, 1) := by decide +kernel
theorem dX0_askOf_14 : decode cX0_askOf 14 = .ok (.invokestatic 26, 3) := by decide +kernel
theorem dX0_askOf_17 : decode cX0_askOf 17 = .ok (.ireturn, 1) := by decide +kernel
set_option maxRecDepth 20000 in
theorem ggX0_nightsOf_X3_at : GoodIn wsX0_nightsOf wsX3_at := goodIn_r _ [4] (by decide +kernel) (by decide +kernel)
set_option maxRecDepth 20000 in
theorem gX0_nightsOf_X3_at_n26 : GoodIn wsX0_nightsOf (wsX3_at) := ggX0_nightsOf_X3_at
theorem dX0_nightsOf_0 : decode cX0_nightsOf 0 = .ok (.aload_n 0, 1) := by decide +kernel
theorem dX0_nightsOf_1 : decode cX0_nightsOf 1 = .ok (.getfield 23, 3) := by decide +kernel
theorem dX0_nightsOf_4 : decode cX0_nightsOf 4 = .ok (.iload_n 1, 1) := by decide +kernel
theorem dX0_nightsOf_5 : decode cX0_nightsOf 5 = .ok (.invokestatic 26, 3) := by decide +kernel
theorem dX0_nightsOf_8 : decode cX0_nightsOf 8 = .ok (.ireturn, 1) := by decide +kernel
set_option maxRecDepth 20000 in
theorem ggX0_make_X1_answers : GoodIn wsX0_make wsX1_answers := goodIn_r _ [9, 10, 68, 69, 70, 71, 72, 73] (by decide +kernel) (by decide +kernel)
set_option maxRecDepth 20000 in
theorem gX0_make_X1_answers : GoodIn wsX0_make (wsV RX0 30 RX1 yX1_answers wsX1_answers) := goodIn_app (goodIn_of _ (by decide +kernel)) ggX0_make_X1_answers
set_option maxRecDepth 20000 in
theorem ggX0_make_X1_alike : GoodIn wsX0_make wsX1_alike := goodIn_r _ [14, 10, 15, 16, 17, 8, 18, 19, 20, 21, 22, 23, 24, 25, 26, 27, 68, 69, 70, 71, 72, 73] (by decide +kernel) (by decide +kernel)
set_option maxRecDepth 20000 in
theorem gX0_make_X1_alike : GoodIn wsX0_make (wsV RX0 37 RX1 yX1_alike wsX1_alike) := goodIn_app (goodIn_of _ (by decide +kernel)) ggX0_make_X1_alike
set_option maxRecDepth 20000 in
theorem ggX0_make_X3_write : GoodIn wsX0_make wsX3_write := goodIn_r _ [29] (by decide +kernel) (by decide +kernel)
set_option maxRecDepth 20000 in
theorem gX0_make_X3_write_n40 : GoodIn wsX0_make (wsX3_write) := ggX0_make_X3_write
set_option maxRecDepth 20000 in
theorem ggX0_make_X1_all : GoodIn wsX0_make wsX1_all := goodIn_r _ [33, 10, 68, 69, 70, 71, 72, 73] (by decide +kernel) (by decide +kernel)
set_option maxRecDepth 20000 in
theorem gX0_make_X1_all : GoodIn wsX0_make (wsV RX0 44 RX1 yX1_all wsX1_all) := goodIn_app (goodIn_of _ (by decide +kernel)) ggX0_make_X1_all
set_option maxRecDepth 20000 in
theorem ggX0_make_X0_tryAsking : GoodIn wsX0_make wsX0_tryAsking := goodIn_r _ [38, 1, 2, 39, 40, 22, 41, 3, 42, 4, 43, 44, 45, 46, 47, 48, 49, 50, 51, 52, 53, 26, 54, 25, 27, 55, 56, 57, 37, 58, 59, 60, 61, 62, 28, 29, 63, 64, 65, 66, 67] (by decide +kernel) (by decide +kernel)
set_option maxRecDepth 20000 in
theorem gX0_make_X0_tryAsking : GoodIn wsX0_make (wsV RX0 47 RX0 yX0_tryAsking wsX0_tryAsking) := goodIn_app (goodIn_of _ (by decide +kernel)) ggX0_make_X0_tryAsking
theorem dX0_make_0 : decode cX0_make 0 = .ok (.aload_n 0, 1) := by decide +kernel
theorem dX0_make_1 : decode cX0_make 1 = .ok (.aload_n 1, 1) := by decide +kernel
theorem dX0_make_2 : decode cX0_make 2 = .ok (.invokevirtual 30, 3) := by decide +kernel
theorem dX0_make_5 : decode cX0_make 5 = .ok (.putfield 34, 3) := by decide +kernel
theorem dX0_make_8 : decode cX0_make 8 = .ok (.iconst 0, 1) := by decide +kernel
theorem dX0_make_9 : decode cX0_make 9 = .ok (.istore_n 2, 1) := by decide +kernel
theorem dX0_make_10 : decode cX0_make 10 = .ok (.iload_n 2, 1) := by decide +kernel
theorem dX0_make_11 : decode cX0_make 11 = .ok (.aload_n 0, 1) := by decide +kernel
theorem dX0_make_12 : decode cX0_make 12 = .ok (.getfield 34, 3) := by decide +kernel
theorem dX0_make_15 : decode cX0_make 15 = .ok (.if_icmp .ge 44, 3) := by decide +kernel
theorem dX0_make_18 : decode cX0_make 18 = .ok (.iconst 0, 1) := by decide +kernel
theorem dX0_make_19 : decode cX0_make 19 = .ok (.istore_n 3, 1) := by decide +kernel
theorem dX0_make_20 : decode cX0_make 20 = .ok (.iload_n 3, 1) := by decide +kernel
theorem dX0_make_21 : decode cX0_make 21 = .ok (.aload_n 0, 1) := by decide +kernel
theorem dX0_make_22 : decode cX0_make 22 = .ok (.getfield 34, 3) := by decide +kernel
theorem dX0_make_25 : decode cX0_make 25 = .ok (.if_icmp .ge 28, 3) := by decide +kernel
theorem dX0_make_28 : decode cX0_make 28 = .ok (.aload_n 0, 1) := by decide +kernel
theorem dX0_make_29 : decode cX0_make 29 = .ok (.getfield 11, 3) := by decide +kernel
theorem dX0_make_32 : decode cX0_make 32 = .ok (.iload_n 2, 1) := by decide +kernel
theorem dX0_make_33 : decode cX0_make 33 = .ok (.bipush 6, 2) := by decide +kernel
theorem dX0_make_35 : decode cX0_make 35 = .ok (.imul, 1) := by decide +kernel
theorem dX0_make_36 : decode cX0_make 36 = .ok (.iload_n 3, 1) := by decide +kernel
theorem dX0_make_37 : decode cX0_make 37 = .ok (.iadd, 1) := by decide +kernel
theorem dX0_make_38 : decode cX0_make 38 = .ok (.aload_n 1, 1) := by decide +kernel
theorem dX0_make_39 : decode cX0_make 39 = .ok (.iload_n 2, 1) := by decide +kernel
theorem dX0_make_40 : decode cX0_make 40 = .ok (.iload_n 3, 1) := by decide +kernel
theorem dX0_make_41 : decode cX0_make 41 = .ok (.invokevirtual 37, 3) := by decide +kernel
theorem dX0_make_44 : decode cX0_make 44 = .ok (.invokestatic 40, 3) := by decide +kernel
theorem dX0_make_47 : decode cX0_make 47 = .ok (.iinc 3 1, 3) := by decide +kernel
theorem dX0_make_50 : decode cX0_make 50 = .ok (.goto (-30), 3) := by decide +kernel
theorem dX0_make_53 : decode cX0_make 53 = .ok (.iinc 2 1, 3) := by decide +kernel
theorem dX0_make_56 : decode cX0_make 56 = .ok (.goto (-46), 3) := by decide +kernel
theorem dX0_make_59 : decode cX0_make 59 = .ok (.iconst 1, 1) := by decide +kernel
theorem dX0_make_60 : decode cX0_make 60 = .ok (.istore_n 2, 1) := by decide +kernel
theorem dX0_make_61 : decode cX0_make 61 = .ok (.iload_n 2, 1) := by decide +kernel
theorem dX0_make_62 : decode cX0_make 62 = .ok (.aload_n 1, 1) := by decide +kernel
theorem dX0_make_63 : decode cX0_make 63 = .ok (.invokevirtual 44, 3) := by decide +kernel
theorem dX0_make_66 : decode cX0_make 66 = .ok (.if_icmp .gt 53, 3) := by decide +kernel
theorem dX0_make_69 : decode cX0_make 69 = .ok (.aload_n 0, 1) := by decide +kernel
theorem dX0_make_70 : decode cX0_make 70 = .ok (.getfield 17, 3) := by decide +kernel
theorem dX0_make_73 : decode cX0_make 73 = .ok (.iload_n 2, 1) := by decide +kernel
theorem dX0_make_74 : decode cX0_make 74 = .ok (.sipush 1000, 3) := by decide +kernel
theorem dX0_make_77 : decode cX0_make 77 = .ok (.invokestatic 40, 3) := by decide +kernel
theorem dX0_make_80 : decode cX0_make 80 = .ok (.aload_n 0, 1) := by decide +kernel
theorem dX0_make_81 : decode cX0_make 81 = .ok (.getfield 23, 3) := by decide +kernel
theorem dX0_make_84 : decode cX0_make 84 = .ok (.iload_n 2, 1) := by decide +kernel
theorem dX0_make_85 : decode cX0_make 85 = .ok (.sipush 1000, 3) := by decide +kernel
theorem dX0_make_88 : decode cX0_make 88 = .ok (.invokestatic 40, 3) := by decide +kernel
theorem dX0_make_91 : decode cX0_make 91 = .ok (.iconst 0, 1) := by decide +kernel
theorem dX0_make_92 : decode cX0_make 92 = .ok (.istore_n 3, 1) := by decide +kernel
theorem dX0_make_93 : decode cX0_make 93 = .ok (.iload_n 3, 1) := by decide +kernel
theorem dX0_make_94 : decode cX0_make 94 = .ok (.aload_n 0, 1) := by decide +kernel
theorem dX0_make_95 : decode cX0_make 95 = .ok (.getfield 34, 3) := by decide +kernel
theorem dX0_make_98 : decode cX0_make 98 = .ok (.if_icmp .ge 15, 3) := by decide +kernel
theorem dX0_make_101 : decode cX0_make 101 = .ok (.aload_n 0, 1) := by decide +kernel
theorem dX0_make_102 : decode cX0_make 102 = .ok (.iload_n 2, 1) := by decide +kernel
theorem dX0_make_103 : decode cX0_make 103 = .ok (.iload_n 3, 1) := by decide +kernel
theorem dX0_make_104 : decode cX0_make 104 = .ok (.invokevirtual 47, 3) := by decide +kernel
theorem dX0_make_107 : decode cX0_make 107 = .ok (.iinc 3 1, 3) := by decide +kernel
theorem dX0_make_110 : decode cX0_make 110 = .ok (.goto (-17), 3) := by decide +kernel
theorem dX0_make_113 : decode cX0_make 113 = .ok (.iinc 2 1, 3) := by decide +kernel
theorem dX0_make_116 : decode cX0_make 116 = .ok (.goto (-55), 3) := by decide +kernel
theorem dX0_make_119 : decode cX0_make 119 = .ok (.return_, 1) := by decide +kernel
set_option maxRecDepth 20000 in
theorem ggX0_tryAsking_J6_bitCount_0f7a4 : GoodIn wsX0_tryAsking wsJ6_bitCount_0f7a4 := goodIn_r _ [16, 17, 18, 19] (by decide +kernel) (by decide +kernel)
set_option maxRecDepth 20000 in
theorem gX0_tryAsking_J6_bitCount_0f7a4 : GoodIn wsX0_tryAsking (va_wsS RX0 51 yJ6_bitCount_0f7a4 wsJ6_bitCount_0f7a4) := goodIn_app (goodIn_of _ (by decide +kernel)) ggX0_tryAsking_J6_bitCount_0f7a4
set_option maxRecDepth 20000 in
theorem ggX0_tryAsking_X3_has : GoodIn wsX0_tryAsking wsX3_has := goodIn_r _ [22] (by decide +kernel) (by decide +kernel)
set_option maxRecDepth 20000 in
theorem gX0_tryAsking_X3_has_n57 : GoodIn wsX0_tryAsking (wsX3_has) := ggX0_tryAsking_X3_has
set_option maxRecDepth 20000 in
theorem ggX0_tryAsking_X3_at : GoodIn wsX0_tryAsking wsX3_at := goodIn_r _ [24] (by decide +kernel) (by decide +kernel)
set_option maxRecDepth 20000 in
theorem gX0_tryAsking_X3_at_n26 : GoodIn wsX0_tryAsking (wsX3_at) := ggX0_tryAsking_X3_at
set_option maxRecDepth 20000 in
theorem ggX0_tryAsking_X0_worstOf : GoodIn wsX0_tryAsking wsX0_worstOf := goodIn_r _ [29, 7, 23, 21, 24, 36, 37, 38, 39, 40] (by decide +kernel) (by decide +kernel)
set_option maxRecDepth 20000 in
theorem gX0_tryAsking_X0_worstOf : GoodIn wsX0_tryAsking (wsV RX0 61 RX0 yX0_worstOf wsX0_worstOf) := goodIn_app (goodIn_of _ (by decide +kernel)) ggX0_tryAsking_X0_worstOf
set_option maxRecDepth 20000 in
theorem ggX0_tryAsking_X0_nightsOf : GoodIn wsX0_tryAsking wsX0_nightsOf := goodIn_r _ [33, 9, 23, 21, 24, 36, 37, 38, 39, 40] (by decide +kernel) (by decide +kernel)
set_option maxRecDepth 20000 in
theorem gX0_tryAsking_X0_nightsOf : GoodIn wsX0_tryAsking (wsV RX0 69 RX0 yX0_nightsOf wsX0_nightsOf) := goodIn_app (goodIn_of _ (by decide +kernel)) ggX0_tryAsking_X0_nightsOf
set_option maxRecDepth 20000 in
theorem ggX0_tryAsking_X3_write : GoodIn wsX0_tryAsking wsX3_write := goodIn_r _ [35] (by decide +kernel) (by decide +kernel)
set_option maxRecDepth 20000 in
theorem gX0_tryAsking_X3_write_n40 : GoodIn wsX0_tryAsking (wsX3_write) := ggX0_tryAsking_X3_write
theorem dX0_tryAsking_0 : decode cX0_tryAsking 0 = .ok (.iconst 0, 1) := by decide +kernel
theorem dX0_tryAsking_1 : decode cX0_tryAsking 1 = .ok (.istore_n 3, 1) := by decide +kernel
theorem dX0_tryAsking_2 : decode cX0_tryAsking 2 = .ok (.iload_n 1, 1) := by decide +kernel
theorem dX0_tryAsking_3 : decode cX0_tryAsking 3 = .ok (.invokestatic 51, 3) := by decide +kernel
theorem dX0_tryAsking_6 : decode cX0_tryAsking 6 = .ok (.istore 4, 2) := by decide +kernel
theorem dX0_tryAsking_8 : decode cX0_tryAsking 8 = .ok (.iload_n 1, 1) := by decide +kernel
theorem dX0_tryAsking_9 : decode cX0_tryAsking 9 = .ok (.iconst 1, 1) := by decide +kernel
theorem dX0_tryAsking_10 : decode cX0_tryAsking 10 = .ok (.iload_n 2, 1) := by decide +kernel
theorem dX0_tryAsking_11 : decode cX0_tryAsking 11 = .ok (.ishl, 1) := by decide +kernel
theorem dX0_tryAsking_12 : decode cX0_tryAsking 12 = .ok (.iconst (-1), 1) := by decide +kernel
theorem dX0_tryAsking_13 : decode cX0_tryAsking 13 = .ok (.ixor, 1) := by decide +kernel
theorem dX0_tryAsking_14 : decode cX0_tryAsking 14 = .ok (.iand, 1) := by decide +kernel
theorem dX0_tryAsking_15 : decode cX0_tryAsking 15 = .ok (.istore 5, 2) := by decide +kernel
theorem dX0_tryAsking_17 : decode cX0_tryAsking 17 = .ok (.iconst 0, 1) := by decide +kernel
theorem dX0_tryAsking_18 : decode cX0_tryAsking 18 = .ok (.istore 6, 2) := by decide +kernel
theorem dX0_tryAsking_20 : decode cX0_tryAsking 20 = .ok (.iload 6, 2) := by decide +kernel
theorem dX0_tryAsking_22 : decode cX0_tryAsking 22 = .ok (.aload_n 0, 1) := by decide +kernel
theorem dX0_tryAsking_23 : decode cX0_tryAsking 23 = .ok (.getfield 34, 3) := by decide +kernel
theorem dX0_tryAsking_26 : decode cX0_tryAsking 26 = .ok (.if_icmp .ge 79, 3) := by decide +kernel
theorem dX0_tryAsking_29 : decode cX0_tryAsking 29 = .ok (.iload 5, 2) := by decide +kernel
theorem dX0_tryAsking_31 : decode cX0_tryAsking 31 = .ok (.iload 6, 2) := by decide +kernel
theorem dX0_tryAsking_33 : decode cX0_tryAsking 33 = .ok (.invokestatic 57, 3) := by decide +kernel
theorem dX0_tryAsking_36 : decode cX0_tryAsking 36 = .ok (.ifCond .ne 6, 3) := by decide +kernel
theorem dX0_tryAsking_39 : decode cX0_tryAsking 39 = .ok (.goto 60, 3) := by decide +kernel
theorem dX0_tryAsking_42 : decode cX0_tryAsking 42 = .ok (.iload 5, 2) := by decide +kernel
theorem dX0_tryAsking_44 : decode cX0_tryAsking 44 = .ok (.aload_n 0, 1) := by decide +kernel
theorem dX0_tryAsking_45 : decode cX0_tryAsking 45 = .ok (.getfield 11, 3) := by decide +kernel
theorem dX0_tryAsking_48 : decode cX0_tryAsking 48 = .ok (.iload_n 2, 1) := by decide +kernel
theorem dX0_tryAsking_49 : decode cX0_tryAsking 49 = .ok (.bipush 6, 2) := by decide +kernel
theorem dX0_tryAsking_51 : decode cX0_tryAsking 51 = .ok (.imul, 1) := by decide +kernel
theorem dX0_tryAsking_52 : decode cX0_tryAsking 52 = .ok (.iload 6, 2) := by decide +kernel
theorem dX0_tryAsking_54 : decode cX0_tryAsking 54 = .ok (.iadd, 1) := by decide +kernel
theorem dX0_tryAsking_55 : decode cX0_tryAsking 55 = .ok (.invokestatic 26, 3) := by decide +kernel
theorem dX0_tryAsking_58 : decode cX0_tryAsking 58 = .ok (.iand, 1) := by decide +kernel
theorem dX0_tryAsking_59 : decode cX0_tryAsking 59 = .ok (.istore 7, 2) := by decide +kernel
theorem dX0_tryAsking_61 : decode cX0_tryAsking 61 = .ok (.iload 7, 2) := by decide +kernel
theorem dX0_tryAsking_63 : decode cX0_tryAsking 63 = .ok (.iload_n 1, 1) := by decide +kernel
theorem dX0_tryAsking_64 : decode cX0_tryAsking 64 = .ok (.if_icmp .ne 4, 3) := by decide +kernel
theorem dX0_tryAsking_67 : decode cX0_tryAsking 67 = .ok (.return_, 1) := by decide +kernel
theorem dX0_tryAsking_68 : decode cX0_tryAsking 68 = .ok (.iload 5, 2) := by decide +kernel
theorem dX0_tryAsking_70 : decode cX0_tryAsking 70 = .ok (.iload 7, 2) := by decide +kernel
theorem dX0_tryAsking_72 : decode cX0_tryAsking 72 = .ok (.iconst (-1), 1) := by decide +kernel
theorem dX0_tryAsking_73 : decode cX0_tryAsking 73 = .ok (.ixor, 1) := by decide +kernel
theorem dX0_tryAsking_74 : decode cX0_tryAsking 74 = .ok (.iand, 1) := by decide +kernel
theorem dX0_tryAsking_75 : decode cX0_tryAsking 75 = .ok (.istore 5, 2) := by decide +kernel
theorem dX0_tryAsking_77 : decode cX0_tryAsking 77 = .ok (.iload_n 3, 1) := by decide +kernel
theorem dX0_tryAsking_78 : decode cX0_tryAsking 78 = .ok (.aload_n 0, 1) := by decide +kernel
theorem dX0_tryAsking_79 : decode cX0_tryAsking 79 = .ok (.iload 7, 2) := by decide +kernel
theorem dX0_tryAsking_81 : decode cX0_tryAsking 81 = .ok (.invokevirtual 61, 3) := by decide +kernel
theorem dX0_tryAsking_84 : decode cX0_tryAsking 84 = .ok (.invokestatic 64, 3) := by decide +kernel
theorem dX0_tryAsking_87 : decode cX0_tryAsking 87 = .ok (.istore_n 3, 1) := by decide +kernel
theorem dX0_tryAsking_88 : decode cX0_tryAsking 88 = .ok (.iload 4, 2) := by decide +kernel
theorem dX0_tryAsking_90 : decode cX0_tryAsking 90 = .ok (.aload_n 0, 1) := by decide +kernel
theorem dX0_tryAsking_91 : decode cX0_tryAsking 91 = .ok (.iload 7, 2) := by decide +kernel
theorem dX0_tryAsking_93 : decode cX0_tryAsking 93 = .ok (.invokevirtual 69, 3) := by decide +kernel
theorem dX0_tryAsking_96 : decode cX0_tryAsking 96 = .ok (.iadd, 1) := by decide +kernel
theorem dX0_tryAsking_97 : decode cX0_tryAsking 97 = .ok (.istore 4, 2) := by decide +kernel
theorem dX0_tryAsking_99 : decode cX0_tryAsking 99 = .ok (.iinc 6 1, 3) := by decide +kernel
theorem dX0_tryAsking_102 : decode cX0_tryAsking 102 = .ok (.goto (-82), 3) := by decide +kernel
theorem dX0_tryAsking_105 : decode cX0_tryAsking 105 = .ok (.iload_n 3, 1) := by decide +kernel
theorem dX0_tryAsking_106 : decode cX0_tryAsking 106 = .ok (.iconst 1, 1) := by decide +kernel
theorem dX0_tryAsking_107 : decode cX0_tryAsking 107 = .ok (.iadd, 1) := by decide +kernel
theorem dX0_tryAsking_108 : decode cX0_tryAsking 108 = .ok (.aload_n 0, 1) := by decide +kernel
theorem dX0_tryAsking_109 : decode cX0_tryAsking 109 = .ok (.iload_n 1, 1) := by decide +kernel
theorem dX0_tryAsking_110 : decode cX0_tryAsking 110 = .ok (.invokevirtual 61, 3) := by decide +kernel
theorem dX0_tryAsking_113 : decode cX0_tryAsking 113 = .ok (.if_icmp .ge 23, 3) := by decide +kernel
theorem dX0_tryAsking_116 : decode cX0_tryAsking 116 = .ok (.aload_n 0, 1) := by decide +kernel
theorem dX0_tryAsking_117 : decode cX0_tryAsking 117 = .ok (.getfield 17, 3) := by decide +kernel
theorem dX0_tryAsking_120 : decode cX0_tryAsking 120 = .ok (.iload_n 1, 1) := by decide +kernel
theorem dX0_tryAsking_121 : decode cX0_tryAsking 121 = .ok (.iload_n 3, 1) := by decide +kernel
theorem dX0_tryAsking_122 : decode cX0_tryAsking 122 = .ok (.iconst 1, 1) := by decide +kernel
theorem dX0_tryAsking_123 : decode cX0_tryAsking 123 = .ok (.iadd, 1) := by decide +kernel
theorem dX0_tryAsking_124 : decode cX0_tryAsking 124 = .ok (.invokestatic 40, 3) := by decide +kernel
theorem dX0_tryAsking_127 : decode cX0_tryAsking 127 = .ok (.aload_n 0, 1) := by decide +kernel
theorem dX0_tryAsking_128 : decode cX0_tryAsking 128 = .ok (.getfield 20, 3) := by decide +kernel
theorem dX0_tryAsking_131 : decode cX0_tryAsking 131 = .ok (.iload_n 1, 1) := by decide +kernel
theorem dX0_tryAsking_132 : decode cX0_tryAsking 132 = .ok (.iload_n 2, 1) := by decide +kernel
theorem dX0_tryAsking_133 : decode cX0_tryAsking 133 = .ok (.invokestatic 40, 3) := by decide +kernel
theorem dX0_tryAsking_136 : decode cX0_tryAsking 136 = .ok (.aload_n 0, 1) := by decide +kernel
theorem dX0_tryAsking_137 : decode cX0_tryAsking 137 = .ok (.getfield 23, 3) := by decide +kernel
theorem dX0_tryAsking_140 : decode cX0_tryAsking 140 = .ok (.iload_n 1, 1) := by decide +kernel
theorem dX0_tryAsking_141 : decode cX0_tryAsking 141 = .ok (.aload_n 0, 1) := by decide +kernel
theorem dX0_tryAsking_142 : decode cX0_tryAsking 142 = .ok (.iload_n 1, 1) := by decide +kernel
theorem dX0_tryAsking_143 : decode cX0_tryAsking 143 = .ok (.invokevirtual 69, 3) := by decide +kernel
theorem dX0_tryAsking_146 : decode cX0_tryAsking 146 = .ok (.iload 4, 2) := by decide +kernel
theorem dX0_tryAsking_148 : decode cX0_tryAsking 148 = .ok (.invokestatic 72, 3) := by decide +kernel
theorem dX0_tryAsking_151 : decode cX0_tryAsking 151 = .ok (.invokestatic 40, 3) := by decide +kernel
theorem dX0_tryAsking_154 : decode cX0_tryAsking 154 = .ok (.return_, 1) := by decide +kernel
theorem dX1_init_0 : decode cX1_init 0 = .ok (.aload_n 0, 1) := by decide +kernel
theorem dX1_init_1 : decode cX1_init 1 = .ok (.invokespecial 3, 3) := by decide +kernel
theorem dX1_init_4 : decode cX1_init 4 = .ok (.aload_n 0, 1) := by decide +kernel
theorem dX1_init_5 : decode cX1_init 5 = .ok (.bipush 6, 2) := by decide +kernel
theorem dX1_init_7 : decode cX1_init 7 = .ok (.newarray .int, 2) := by decide +kernel
theorem dX1_init_9 : decode cX1_init 9 = .ok (.putfield 11, 3) := by decide +kernel
theorem dX1_init_12 : decode cX1_init 12 = .ok (.aload_n 0, 1) := by decide +kernel
theorem dX1_init_13 : decode cX1_init 13 = .ok (.bipush 6, 2) := by decide +kernel
theorem dX1_init_15 : decode cX1_init 15 = .ok (.newarray .int, 2) := by decide +kernel
theorem dX1_init_17 : decode cX1_init 17 = .ok (.putfield 15, 3) := by decide +kernel
theorem dX1_init_20 : decode cX1_init 20 = .ok (.aload_n 0, 1) := by decide +kernel
theorem dX1_init_21 : decode cX1_init 21 = .ok (.iconst 5, 1) := by decide +kernel
theorem dX1_init_22 : decode cX1_init 22 = .ok (.newarray .int, 2) := by decide +kernel
theorem dX1_init_24 : decode cX1_init 24 = .ok (.putfield 18, 3) := by decide +kernel
theorem dX1_init_27 : decode cX1_init 27 = .ok (.return_, 1) := by decide +kernel
theorem dX1_answers_0 : decode cX1_answers 0 = .ok (.aload_n 0, 1) := by decide +kernel
theorem dX1_answers_1 : decode cX1_answers 1 = .ok (.getfield 21, 3) := by decide +kernel
theorem dX1_answers_4 : decode cX1_answers 4 = .ok (.ireturn, 1) := by decide +kernel
theorem dX1_pillars_0 : decode cX1_pillars 0 = .ok (.aload_n 0, 1) := by decide +kernel
theorem dX1_pillars_1 : decode cX1_pillars 1 = .ok (.getfield 25, 3) := by decide +kernel
theorem dX1_pillars_4 : decode cX1_pillars 4 = .ok (.ireturn, 1) := by decide +kernel
theorem dX1_growth_0 : decode cX1_growth 0 = .ok (.aload_n 0, 1) := by decide +kernel
theorem dX1_growth_1 : decode cX1_growth 1 = .ok (.getfield 28, 3) := by decide +kernel
theorem dX1_growth_4 : decode cX1_growth 4 = .ok (.ireturn, 1) := by decide +kernel
set_option maxRecDepth 20000 in
theorem ggX1_kindOf_X3_at : GoodIn wsX1_kindOf wsX3_at := goodIn_r _ [4] (by decide +kernel) (by decide +kernel)
set_option maxRecDepth 20000 in
theorem gX1_kindOf_X3_at_n31 : GoodIn wsX1_kindOf (wsX3_at) := ggX1_kindOf_X3_at
theorem dX1_kindOf_0 : decode cX1_kindOf 0 = .ok (.aload_n 0, 1) := by decide +kernel
theorem dX1_kindOf_1 : decode cX1_kindOf 1 = .ok (.getfield 11, 3) := by decide +kernel
theorem dX1_kindOf_4 : decode cX1_kindOf 4 = .ok (.iload_n 1, 1) := by decide +kernel
theorem dX1_kindOf_5 : decode cX1_kindOf 5 = .ok (.invokestatic 31, 3) := by decide +kernel
theorem dX1_kindOf_8 : decode cX1_kindOf 8 = .ok (.ireturn, 1) := by decide +kernel
set_option maxRecDepth 20000 in
theorem ggX1_placeOf_X3_at : GoodIn wsX1_placeOf wsX3_at := goodIn_r _ [4] (by decide +kernel) (by decide +kernel)
set_option maxRecDepth 20000 in
theorem gX1_placeOf_X3_at_n31 : GoodIn wsX1_placeOf (wsX3_at) := ggX1_placeOf_X3_at
theorem dX1_placeOf_0 : decode cX1_placeOf 0 = .ok (.aload_n 0, 1) := by decide +kernel
theorem dX1_placeOf_1 : decode cX1_placeOf 1 = .ok (.getfield 15, 3) := by decide +kernel
theorem dX1_placeOf_4 : decode cX1_placeOf 4 = .ok (.iload_n 1, 1) := by decide +kernel
theorem dX1_placeOf_5 : decode cX1_placeOf 5 = .ok (.invokestatic 31, 3) := by decide +kernel
theorem dX1_placeOf_8 : decode cX1_placeOf 8 = .ok (.ireturn, 1) := by decide +kernel
set_option maxRecDepth 20000 in
theorem ggX1_weightOf_X3_at : GoodIn wsX1_weightOf wsX3_at := goodIn_r _ [4] (by decide +kernel) (by decide +kernel)
set_option maxRecDepth 20000 in
theorem gX1_weightOf_X3_at_n31 : GoodIn wsX1_weightOf (wsX3_at) := ggX1_weightOf_X3_at
theorem dX1_weightOf_0 : decode cX1_weightOf 0 = .ok (.aload_n 0, 1) := by decide +kernel
theorem dX1_weightOf_1 : decode cX1_weightOf 1 = .ok (.getfield 18, 3) := by decide +kernel
theorem dX1_weightOf_4 : decode cX1_weightOf 4 = .ok (.iload_n 1, 1) := by decide +kernel
theorem dX1_weightOf_5 : decode cX1_weightOf 5 = .ok (.invokestatic 31, 3) := by decide +kernel
theorem dX1_weightOf_8 : decode cX1_weightOf 8 = .ok (.ireturn, 1) := by decide +kernel
theorem dX1_setGrowth_0 : decode cX1_setGrowth 0 = .ok (.aload_n 0, 1) := by decide +kernel
theorem dX1_setGrowth_1 : decode cX1_setGrowth 1 = .ok (.iload_n 1, 1) := by decide +kernel
theorem dX1_setGrowth_2 : decode cX1_setGrowth 2 = .ok (.putfield 28, 3) := by decide +kernel
theorem dX1_setGrowth_5 : decode cX1_setGrowth 5 = .ok (.return_, 1) := by decide +kernel
set_option maxRecDepth 20000 in
theorem ggX1_setKind_X3_write : GoodIn wsX1_setKind wsX3_write := goodIn_r _ [4] (by decide +kernel) (by decide +kernel)
set_option maxRecDepth 20000 in
theorem gX1_setKind_X3_write_n35 : GoodIn wsX1_setKind (wsX3_write) := ggX1_setKind_X3_write
theorem dX1_setKind_0 : decode cX1_setKind 0 = .ok (.aload_n 0, 1) := by decide +kernel
theorem dX1_setKind_1 : decode cX1_setKind 1 = .ok (.getfield 11, 3) := by decide +kernel
theorem dX1_setKind_4 : decode cX1_setKind 4 = .ok (.iload_n 1, 1) := by decide +kernel
theorem dX1_setKind_5 : decode cX1_setKind 5 = .ok (.iload_n 2, 1) := by decide +kernel
theorem dX1_setKind_6 : decode cX1_setKind 6 = .ok (.invokestatic 35, 3) := by decide +kernel
theorem dX1_setKind_9 : decode cX1_setKind 9 = .ok (.return_, 1) := by decide +kernel
set_option maxRecDepth 20000 in
theorem ggX1_setPlace_X3_write : GoodIn wsX1_setPlace wsX3_write := goodIn_r _ [4] (by decide +kernel) (by decide +kernel)
set_option maxRecDepth 20000 in
theorem gX1_setPlace_X3_write_n35 : GoodIn wsX1_setPlace (wsX3_write) := ggX1_setPlace_X3_write
theorem dX1_setPlace_0 : decode cX1_setPlace 0 = .ok (.aload_n 0, 1) := by decide +kernel
theorem dX1_setPlace_1 : decode cX1_setPlace 1 = .ok (.getfield 15, 3) := by decide +kernel
theorem dX1_setPlace_4 : decode cX1_setPlace 4 = .ok (.iload_n 1, 1) := by decide +kernel
theorem dX1_setPlace_5 : decode cX1_setPlace 5 = .ok (.iload_n 2, 1) := by decide +kernel
theorem dX1_setPlace_6 : decode cX1_setPlace 6 = .ok (.invokestatic 35, 3) := by decide +kernel
theorem dX1_setPlace_9 : decode cX1_setPlace 9 = .ok (.return_, 1) := by decide +kernel
theorem dX1_all_0 : decode cX1_all 0 = .ok (.iconst 1, 1) := by decide +kernel
theorem dX1_all_1 : decode cX1_all 1 = .ok (.aload_n 0, 1) := by decide +kernel
theorem dX1_all_2 : decode cX1_all 2 = .ok (.getfield 21, 3) := by decide +kernel
theorem dX1_all_5 : decode cX1_all 5 = .ok (.ishl, 1) := by decide +kernel
theorem dX1_all_6 : decode cX1_all 6 = .ok (.iconst 1, 1) := by decide +kernel
theorem dX1_all_7 : decode cX1_all 7 = .ok (.isub, 1) := by decide +kernel
theorem dX1_all_8 : decode cX1_all 8 = .ok (.ireturn, 1) := by decide +kernel
set_option maxRecDepth 20000 in
theorem ggX1_shownBy_X3_at : GoodIn wsX1_shownBy wsX3_at := goodIn_r _ [9] (by decide +kernel) (by decide +kernel)
set_option maxRecDepth 20000 in
theorem gX1_shownBy_X3_at_n31 : GoodIn wsX1_shownBy (wsX3_at) := ggX1_shownBy_X3_at
theorem dX1_shownBy_0 : decode cX1_shownBy 0 = .ok (.iload_n 1, 1) := by decide +kernel
theorem dX1_shownBy_1 : decode cX1_shownBy 1 = .ok (.iload_n 2, 1) := by decide +kernel
theorem dX1_shownBy_2 : decode cX1_shownBy 2 = .ok (.if_icmp .ne 6, 3) := by decide +kernel
theorem dX1_shownBy_5 : decode cX1_shownBy 5 = .ok (.bipush (-9), 2) := by decide +kernel
theorem dX1_shownBy_7 : decode cX1_shownBy 7 = .ok (.ireturn, 1) := by decide +kernel
theorem dX1_shownBy_8 : decode cX1_shownBy 8 = .ok (.aload_n 0, 1) := by decide +kernel
theorem dX1_shownBy_9 : decode cX1_shownBy 9 = .ok (.getfield 15, 3) := by decide +kernel
theorem dX1_shownBy_12 : decode cX1_shownBy 12 = .ok (.iload_n 1, 1) := by decide +kernel
theorem dX1_shownBy_13 : decode cX1_shownBy 13 = .ok (.invokestatic 31, 3) := by decide +kernel
theorem dX1_shownBy_16 : decode cX1_shownBy 16 = .ok (.aload_n 0, 1) := by decide +kernel
theorem dX1_shownBy_17 : decode cX1_shownBy 17 = .ok (.getfield 15, 3) := by decide +kernel
theorem dX1_shownBy_20 : decode cX1_shownBy 20 = .ok (.iload_n 2, 1) := by decide +kernel
theorem dX1_shownBy_21 : decode cX1_shownBy 21 = .ok (.invokestatic 31, 3) := by decide +kernel
theorem dX1_shownBy_24 : decode cX1_shownBy 24 = .ok (.isub, 1) := by decide +kernel
theorem dX1_shownBy_25 : decode cX1_shownBy 25 = .ok (.invokestatic 39, 3) := by decide +kernel
theorem dX1_shownBy_28 : decode cX1_shownBy 28 = .ok (.istore_n 3, 1) := by decide +kernel
theorem dX1_shownBy_29 : decode cX1_shownBy 29 = .ok (.aload_n 0, 1) := by decide +kernel
theorem dX1_shownBy_30 : decode cX1_shownBy 30 = .ok (.getfield 11, 3) := by decide +kernel
theorem dX1_shownBy_33 : decode cX1_shownBy 33 = .ok (.iload_n 1, 1) := by decide +kernel
theorem dX1_shownBy_34 : decode cX1_shownBy 34 = .ok (.invokestatic 31, 3) := by decide +kernel
theorem dX1_shownBy_37 : decode cX1_shownBy 37 = .ok (.lookupswitch 35 #[(1, 27), (2, 31)], 27) := by decide +kernel
theorem dX1_shownBy_64 : decode cX1_shownBy 64 = .ok (.iload_n 3, 1) := by decide +kernel
theorem dX1_shownBy_65 : decode cX1_shownBy 65 = .ok (.iconst 1, 1) := by decide +kernel
theorem dX1_shownBy_66 : decode cX1_shownBy 66 = .ok (.iadd, 1) := by decide +kernel
theorem dX1_shownBy_67 : decode cX1_shownBy 67 = .ok (.ireturn, 1) := by decide +kernel
theorem dX1_shownBy_68 : decode cX1_shownBy 68 = .ok (.iload_n 3, 1) := by decide +kernel
theorem dX1_shownBy_69 : decode cX1_shownBy 69 = .ok (.iconst 2, 1) := by decide +kernel
theorem dX1_shownBy_70 : decode cX1_shownBy 70 = .ok (.idiv, 1) := by decide +kernel
theorem dX1_shownBy_71 : decode cX1_shownBy 71 = .ok (.ireturn, 1) := by decide +kernel
theorem dX1_shownBy_72 : decode cX1_shownBy 72 = .ok (.iload_n 3, 1) := by decide +kernel
theorem dX1_shownBy_73 : decode cX1_shownBy 73 = .ok (.ireturn, 1) := by decide +kernel
set_option maxRecDepth 20000 in
theorem ggX1_alike_X1_shownBy : GoodIn wsX1_alike wsX1_shownBy := goodIn_r _ [6, 7, 8, 9, 10, 11, 12, 13, 14, 15, 16, 17, 18, 19, 20, 21] (by decide +kernel) (by decide +kernel)
set_option maxRecDepth 20000 in
theorem gX1_alike_X1_shownBy : GoodIn wsX1_alike (wsV RX1 45 RX1 yX1_shownBy wsX1_shownBy) := goodIn_app (goodIn_of _ (by decide +kernel)) ggX1_alike_X1_shownBy
theorem dX1_alike_0 : decode cX1_alike 0 = .ok (.aload_n 0, 1) := by decide +kernel
theorem dX1_alike_1 : decode cX1_alike 1 = .ok (.iload_n 1, 1) := by decide +kernel
theorem dX1_alike_2 : decode cX1_alike 2 = .ok (.iload_n 2, 1) := by decide +kernel
theorem dX1_alike_3 : decode cX1_alike 3 = .ok (.invokevirtual 45, 3) := by decide +kernel
theorem dX1_alike_6 : decode cX1_alike 6 = .ok (.istore_n 3, 1) := by decide +kernel
theorem dX1_alike_7 : decode cX1_alike 7 = .ok (.iconst 0, 1) := by decide +kernel
theorem dX1_alike_8 : decode cX1_alike 8 = .ok (.istore 4, 2) := by decide +kernel
theorem dX1_alike_10 : decode cX1_alike 10 = .ok (.iconst 0, 1) := by decide +kernel
theorem dX1_alike_11 : decode cX1_alike 11 = .ok (.istore 5, 2) := by decide +kernel
theorem dX1_alike_13 : decode cX1_alike 13 = .ok (.iload 5, 2) := by decide +kernel
theorem dX1_alike_15 : decode cX1_alike 15 = .ok (.aload_n 0, 1) := by decide +kernel
theorem dX1_alike_16 : decode cX1_alike 16 = .ok (.getfield 21, 3) := by decide +kernel
theorem dX1_alike_19 : decode cX1_alike 19 = .ok (.if_icmp .ge 29, 3) := by decide +kernel
theorem dX1_alike_22 : decode cX1_alike 22 = .ok (.aload_n 0, 1) := by decide +kernel
theorem dX1_alike_23 : decode cX1_alike 23 = .ok (.iload_n 1, 1) := by decide +kernel
theorem dX1_alike_24 : decode cX1_alike 24 = .ok (.iload 5, 2) := by decide +kernel
theorem dX1_alike_26 : decode cX1_alike 26 = .ok (.invokevirtual 45, 3) := by decide +kernel
theorem dX1_alike_29 : decode cX1_alike 29 = .ok (.iload_n 3, 1) := by decide +kernel
theorem dX1_alike_30 : decode cX1_alike 30 = .ok (.if_icmp .ne 12, 3) := by decide +kernel
theorem dX1_alike_33 : decode cX1_alike 33 = .ok (.iload 4, 2) := by decide +kernel
theorem dX1_alike_35 : decode cX1_alike 35 = .ok (.iconst 1, 1) := by decide +kernel
theorem dX1_alike_36 : decode cX1_alike 36 = .ok (.iload 5, 2) := by decide +kernel
theorem dX1_alike_38 : decode cX1_alike 38 = .ok (.ishl, 1) := by decide +kernel
theorem dX1_alike_39 : decode cX1_alike 39 = .ok (.ior, 1) := by decide +kernel
theorem dX1_alike_40 : decode cX1_alike 40 = .ok (.istore 4, 2) := by decide +kernel
theorem dX1_alike_42 : decode cX1_alike 42 = .ok (.iinc 5 1, 3) := by decide +kernel
theorem dX1_alike_45 : decode cX1_alike 45 = .ok (.goto (-32), 3) := by decide +kernel
theorem dX1_alike_48 : decode cX1_alike 48 = .ok (.iload 4, 2) := by decide +kernel
theorem dX1_alike_50 : decode cX1_alike 50 = .ok (.ireturn, 1) := by decide +kernel
set_option maxRecDepth 20000 in
theorem ggX1_readText_X2_get : GoodIn wsX1_readText wsX2_get := goodIn_r _ [7, 8, 9, 10, 11, 51, 52, 53] (by decide +kernel) (by decide +kernel)
set_option maxRecDepth 20000 in
theorem gX1_readText_X2_get : GoodIn wsX1_readText (wsV RX1 49 RX2 yX2_get wsX2_get) := goodIn_app (goodIn_of _ (by decide +kernel)) ggX1_readText_X2_get
set_option maxRecDepth 20000 in
theorem ggX1_readText_X1_takeCode : GoodIn wsX1_readText wsX1_takeCode := goodIn_r _ [16, 1, 2, 17, 18, 15, 19, 20, 21, 22, 23, 24, 25, 10, 26, 27, 28, 29, 30, 31, 32, 33, 34, 35, 36, 37, 38, 39, 40, 41, 42, 43, 44, 45, 46, 47, 48, 49, 50] (by decide +kernel) (by decide +kernel)
set_option maxRecDepth 20000 in
theorem gX1_readText_X1_takeCode : GoodIn wsX1_readText (wsV RX1 54 RX1 yX1_takeCode wsX1_takeCode) := goodIn_app (goodIn_of _ (by decide +kernel)) ggX1_readText_X1_takeCode
theorem dX1_readText_0 : decode cX1_readText 0 = .ok (.aload_n 0, 1) := by decide +kernel
theorem dX1_readText_1 : decode cX1_readText 1 = .ok (.iconst 0, 1) := by decide +kernel
theorem dX1_readText_2 : decode cX1_readText 2 = .ok (.putfield 21, 3) := by decide +kernel
theorem dX1_readText_5 : decode cX1_readText 5 = .ok (.aload_n 0, 1) := by decide +kernel
theorem dX1_readText_6 : decode cX1_readText 6 = .ok (.iconst 0, 1) := by decide +kernel
theorem dX1_readText_7 : decode cX1_readText 7 = .ok (.putfield 25, 3) := by decide +kernel
theorem dX1_readText_10 : decode cX1_readText 10 = .ok (.iconst 0, 1) := by decide +kernel
theorem dX1_readText_11 : decode cX1_readText 11 = .ok (.istore 4, 2) := by decide +kernel
theorem dX1_readText_13 : decode cX1_readText 13 = .ok (.iconst 0, 1) := by decide +kernel
theorem dX1_readText_14 : decode cX1_readText 14 = .ok (.istore 5, 2) := by decide +kernel
theorem dX1_readText_16 : decode cX1_readText 16 = .ok (.iload 5, 2) := by decide +kernel
theorem dX1_readText_18 : decode cX1_readText 18 = .ok (.iload_n 3, 1) := by decide +kernel
theorem dX1_readText_19 : decode cX1_readText 19 = .ok (.if_icmp .ge 34, 3) := by decide +kernel
theorem dX1_readText_22 : decode cX1_readText 22 = .ok (.aload_n 0, 1) := by decide +kernel
theorem dX1_readText_23 : decode cX1_readText 23 = .ok (.iload 4, 2) := by decide +kernel
theorem dX1_readText_25 : decode cX1_readText 25 = .ok (.aload_n 1, 1) := by decide +kernel
theorem dX1_readText_26 : decode cX1_readText 26 = .ok (.iload_n 2, 1) := by decide +kernel
theorem dX1_readText_27 : decode cX1_readText 27 = .ok (.iload 5, 2) := by decide +kernel
theorem dX1_readText_29 : decode cX1_readText 29 = .ok (.iadd, 1) := by decide +kernel
theorem dX1_readText_30 : decode cX1_readText 30 = .ok (.invokevirtual 49, 3) := by decide +kernel
theorem dX1_readText_33 : decode cX1_readText 33 = .ok (.invokevirtual 54, 3) := by decide +kernel
theorem dX1_readText_36 : decode cX1_readText 36 = .ok (.istore 4, 2) := by decide +kernel
theorem dX1_readText_38 : decode cX1_readText 38 = .ok (.iload 4, 2) := by decide +kernel
theorem dX1_readText_40 : decode cX1_readText 40 = .ok (.iconst (-1), 1) := by decide +kernel
theorem dX1_readText_41 : decode cX1_readText 41 = .ok (.if_icmp .ne 6, 3) := by decide +kernel
theorem dX1_readText_44 : decode cX1_readText 44 = .ok (.iload 5, 2) := by decide +kernel
theorem dX1_readText_46 : decode cX1_readText 46 = .ok (.ireturn, 1) := by decide +kernel
theorem dX1_readText_47 : decode cX1_readText 47 = .ok (.iinc 5 1, 3) := by decide +kernel
theorem dX1_readText_50 : decode cX1_readText 50 = .ok (.goto (-34), 3) := by decide +kernel
theorem dX1_readText_53 : decode cX1_readText 53 = .ok (.iload 4, 2) := by decide +kernel
theorem dX1_readText_55 : decode cX1_readText 55 = .ok (.iconst 5, 1) := by decide +kernel
theorem dX1_readText_56 : decode cX1_readText 56 = .ok (.if_icmp .ne 15, 3) := by decide +kernel
theorem dX1_readText_59 : decode cX1_readText 59 = .ok (.aload_n 0, 1) := by decide +kernel
theorem dX1_readText_60 : decode cX1_readText 60 = .ok (.getfield 25, 3) := by decide +kernel
theorem dX1_readText_63 : decode cX1_readText 63 = .ok (.iconst 1, 1) := by decide +kernel
theorem dX1_readText_64 : decode cX1_readText 64 = .ok (.if_icmp .lt 7, 3) := by decide +kernel
theorem dX1_readText_67 : decode cX1_readText 67 = .ok (.iconst (-1), 1) := by decide +kernel
theorem dX1_readText_68 : decode cX1_readText 68 = .ok (.goto 4, 3) := by decide +kernel
theorem dX1_readText_71 : decode cX1_readText 71 = .ok (.iload_n 3, 1) := by decide +kernel
theorem dX1_readText_72 : decode cX1_readText 72 = .ok (.ireturn, 1) := by decide +kernel
set_option maxRecDepth 20000 in
theorem ggX1_takeCode_X1_kindByLetter : GoodIn wsX1_takeCode wsX1_kindByLetter := goodIn_r _ [6] (by decide +kernel) (by decide +kernel)
set_option maxRecDepth 20000 in
theorem gX1_takeCode_X1_kindByLetter : GoodIn wsX1_takeCode (va_wsS RX1 57 yX1_kindByLetter wsX1_kindByLetter) := goodIn_app (goodIn_of _ (by decide +kernel)) ggX1_takeCode_X1_kindByLetter
set_option maxRecDepth 20000 in
theorem ggX1_takeCode_X1_takeKind : GoodIn wsX1_takeCode wsX1_takeKind := goodIn_r _ [10, 11, 1, 12, 13, 14, 33, 34, 35, 36, 37, 38] (by decide +kernel) (by decide +kernel)
set_option maxRecDepth 20000 in
theorem gX1_takeCode_X1_takeKind : GoodIn wsX1_takeCode (wsV RX1 60 RX1 yX1_takeKind wsX1_takeKind) := goodIn_app (goodIn_of _ (by decide +kernel)) ggX1_takeCode_X1_takeKind
set_option maxRecDepth 20000 in
theorem ggX1_takeCode_X1_takePlace : GoodIn wsX1_takeCode wsX1_takePlace := goodIn_r _ [18, 19, 1, 20, 21, 5, 22, 12, 13, 14, 33, 34, 35, 36, 37, 38] (by decide +kernel) (by decide +kernel)
set_option maxRecDepth 20000 in
theorem gX1_takeCode_X1_takePlace : GoodIn wsX1_takeCode (wsV RX1 63 RX1 yX1_takePlace wsX1_takePlace) := goodIn_app (goodIn_of _ (by decide +kernel)) ggX1_takeCode_X1_takePlace
set_option maxRecDepth 20000 in
theorem ggX1_takeCode_X1_takeGrowth : GoodIn wsX1_takeCode wsX1_takeGrowth := goodIn_r _ [26, 27, 20, 21, 5, 22, 33, 34, 35, 36, 37, 38] (by decide +kernel) (by decide +kernel)
set_option maxRecDepth 20000 in
theorem gX1_takeCode_X1_takeGrowth : GoodIn wsX1_takeCode (wsV RX1 66 RX1 yX1_takeGrowth wsX1_takeGrowth) := goodIn_app (goodIn_of _ (by decide +kernel)) ggX1_takeCode_X1_takeGrowth
set_option maxRecDepth 20000 in
theorem ggX1_takeCode_X1_takeWeight : GoodIn wsX1_takeCode wsX1_takeWeight := goodIn_r _ [31, 32, 2, 20, 21, 5, 22, 12, 13, 14, 33, 34, 35, 36, 37, 38] (by decide +kernel) (by decide +kernel)
set_option maxRecDepth 20000 in
theorem gX1_takeCode_X1_takeWeight : GoodIn wsX1_takeCode (wsV RX1 69 RX1 yX1_takeWeight wsX1_takeWeight) := goodIn_app (goodIn_of _ (by decide +kernel)) ggX1_takeCode_X1_takeWeight
theorem dX1_takeCode_0 : decode cX1_takeCode 0 = .ok (.iload_n 1, 1) := by decide +kernel
theorem dX1_takeCode_1 : decode cX1_takeCode 1 = .ok (.tableswitch 144 0 6 #[43, 55, 96, 105, 111, 117, 138], 43) := by decide +kernel
theorem dX1_takeCode_44 : decode cX1_takeCode 44 = .ok (.iload_n 2, 1) := by decide +kernel
theorem dX1_takeCode_45 : decode cX1_takeCode 45 = .ok (.bipush 97, 2) := by decide +kernel
theorem dX1_takeCode_47 : decode cX1_takeCode 47 = .ok (.if_icmp .ne 7, 3) := by decide +kernel
theorem dX1_takeCode_50 : decode cX1_takeCode 50 = .ok (.iconst 1, 1) := by decide +kernel
theorem dX1_takeCode_51 : decode cX1_takeCode 51 = .ok (.goto 4, 3) := by decide +kernel
theorem dX1_takeCode_54 : decode cX1_takeCode 54 = .ok (.iconst (-1), 1) := by decide +kernel
theorem dX1_takeCode_55 : decode cX1_takeCode 55 = .ok (.ireturn, 1) := by decide +kernel
theorem dX1_takeCode_56 : decode cX1_takeCode 56 = .ok (.iload_n 2, 1) := by decide +kernel
theorem dX1_takeCode_57 : decode cX1_takeCode 57 = .ok (.bipush 44, 2) := by decide +kernel
theorem dX1_takeCode_59 : decode cX1_takeCode 59 = .ok (.if_icmp .ne 18, 3) := by decide +kernel
theorem dX1_takeCode_62 : decode cX1_takeCode 62 = .ok (.aload_n 0, 1) := by decide +kernel
theorem dX1_takeCode_63 : decode cX1_takeCode 63 = .ok (.getfield 21, 3) := by decide +kernel
theorem dX1_takeCode_66 : decode cX1_takeCode 66 = .ok (.bipush 6, 2) := by decide +kernel
theorem dX1_takeCode_68 : decode cX1_takeCode 68 = .ok (.if_icmp .ge 7, 3) := by decide +kernel
theorem dX1_takeCode_71 : decode cX1_takeCode 71 = .ok (.iconst 2, 1) := by decide +kernel
theorem dX1_takeCode_72 : decode cX1_takeCode 72 = .ok (.goto 4, 3) := by decide +kernel
theorem dX1_takeCode_75 : decode cX1_takeCode 75 = .ok (.iconst (-1), 1) := by decide +kernel
theorem dX1_takeCode_76 : decode cX1_takeCode 76 = .ok (.ireturn, 1) := by decide +kernel
theorem dX1_takeCode_77 : decode cX1_takeCode 77 = .ok (.iload_n 2, 1) := by decide +kernel
theorem dX1_takeCode_78 : decode cX1_takeCode 78 = .ok (.bipush 59, 2) := by decide +kernel
theorem dX1_takeCode_80 : decode cX1_takeCode 80 = .ok (.if_icmp .ne 15, 3) := by decide +kernel
theorem dX1_takeCode_83 : decode cX1_takeCode 83 = .ok (.aload_n 0, 1) := by decide +kernel
theorem dX1_takeCode_84 : decode cX1_takeCode 84 = .ok (.getfield 21, 3) := by decide +kernel
theorem dX1_takeCode_87 : decode cX1_takeCode 87 = .ok (.iconst 2, 1) := by decide +kernel
theorem dX1_takeCode_88 : decode cX1_takeCode 88 = .ok (.if_icmp .lt 7, 3) := by decide +kernel
theorem dX1_takeCode_91 : decode cX1_takeCode 91 = .ok (.iconst 4, 1) := by decide +kernel
theorem dX1_takeCode_92 : decode cX1_takeCode 92 = .ok (.goto 4, 3) := by decide +kernel
theorem dX1_takeCode_95 : decode cX1_takeCode 95 = .ok (.iconst (-1), 1) := by decide +kernel
theorem dX1_takeCode_96 : decode cX1_takeCode 96 = .ok (.ireturn, 1) := by decide +kernel
theorem dX1_takeCode_97 : decode cX1_takeCode 97 = .ok (.aload_n 0, 1) := by decide +kernel
theorem dX1_takeCode_98 : decode cX1_takeCode 98 = .ok (.iload_n 2, 1) := by decide +kernel
theorem dX1_takeCode_99 : decode cX1_takeCode 99 = .ok (.invokestatic 57, 3) := by decide +kernel
theorem dX1_takeCode_102 : decode cX1_takeCode 102 = .ok (.invokevirtual 60, 3) := by decide +kernel
theorem dX1_takeCode_105 : decode cX1_takeCode 105 = .ok (.ireturn, 1) := by decide +kernel
theorem dX1_takeCode_106 : decode cX1_takeCode 106 = .ok (.aload_n 0, 1) := by decide +kernel
theorem dX1_takeCode_107 : decode cX1_takeCode 107 = .ok (.iload_n 2, 1) := by decide +kernel
theorem dX1_takeCode_108 : decode cX1_takeCode 108 = .ok (.invokevirtual 63, 3) := by decide +kernel
theorem dX1_takeCode_111 : decode cX1_takeCode 111 = .ok (.ireturn, 1) := by decide +kernel
theorem dX1_takeCode_112 : decode cX1_takeCode 112 = .ok (.aload_n 0, 1) := by decide +kernel
theorem dX1_takeCode_113 : decode cX1_takeCode 113 = .ok (.iload_n 2, 1) := by decide +kernel
theorem dX1_takeCode_114 : decode cX1_takeCode 114 = .ok (.invokevirtual 66, 3) := by decide +kernel
theorem dX1_takeCode_117 : decode cX1_takeCode 117 = .ok (.ireturn, 1) := by decide +kernel
theorem dX1_takeCode_118 : decode cX1_takeCode 118 = .ok (.iload_n 2, 1) := by decide +kernel
theorem dX1_takeCode_119 : decode cX1_takeCode 119 = .ok (.bipush 47, 2) := by decide +kernel
theorem dX1_takeCode_121 : decode cX1_takeCode 121 = .ok (.if_icmp .ne 16, 3) := by decide +kernel
theorem dX1_takeCode_124 : decode cX1_takeCode 124 = .ok (.aload_n 0, 1) := by decide +kernel
theorem dX1_takeCode_125 : decode cX1_takeCode 125 = .ok (.getfield 25, 3) := by decide +kernel
theorem dX1_takeCode_128 : decode cX1_takeCode 128 = .ok (.iconst 5, 1) := by decide +kernel
theorem dX1_takeCode_129 : decode cX1_takeCode 129 = .ok (.if_icmp .ge 8, 3) := by decide +kernel
theorem dX1_takeCode_132 : decode cX1_takeCode 132 = .ok (.bipush 6, 2) := by decide +kernel
theorem dX1_takeCode_134 : decode cX1_takeCode 134 = .ok (.goto 4, 3) := by decide +kernel
theorem dX1_takeCode_137 : decode cX1_takeCode 137 = .ok (.iconst (-1), 1) := by decide +kernel
theorem dX1_takeCode_138 : decode cX1_takeCode 138 = .ok (.ireturn, 1) := by decide +kernel
theorem dX1_takeCode_139 : decode cX1_takeCode 139 = .ok (.aload_n 0, 1) := by decide +kernel
theorem dX1_takeCode_140 : decode cX1_takeCode 140 = .ok (.iload_n 2, 1) := by decide +kernel
theorem dX1_takeCode_141 : decode cX1_takeCode 141 = .ok (.invokevirtual 69, 3) := by decide +kernel
theorem dX1_takeCode_144 : decode cX1_takeCode 144 = .ok (.ireturn, 1) := by decide +kernel
theorem dX1_takeCode_145 : decode cX1_takeCode 145 = .ok (.iconst (-1), 1) := by decide +kernel
theorem dX1_takeCode_146 : decode cX1_takeCode 146 = .ok (.ireturn, 1) := by decide +kernel
set_option maxRecDepth 20000 in
theorem ggX1_takeKind_X3_write : GoodIn wsX1_takeKind wsX3_write := goodIn_r _ [5] (by decide +kernel) (by decide +kernel)
set_option maxRecDepth 20000 in
theorem gX1_takeKind_X3_write_n35 : GoodIn wsX1_takeKind (wsX3_write) := ggX1_takeKind_X3_write
theorem dX1_takeKind_0 : decode cX1_takeKind 0 = .ok (.iload_n 1, 1) := by decide +kernel
theorem dX1_takeKind_1 : decode cX1_takeKind 1 = .ok (.bipush (-9), 2) := by decide +kernel
theorem dX1_takeKind_3 : decode cX1_takeKind 3 = .ok (.if_icmp .ne 5, 3) := by decide +kernel
theorem dX1_takeKind_6 : decode cX1_takeKind 6 = .ok (.iconst (-1), 1) := by decide +kernel
theorem dX1_takeKind_7 : decode cX1_takeKind 7 = .ok (.ireturn, 1) := by decide +kernel
theorem dX1_takeKind_8 : decode cX1_takeKind 8 = .ok (.aload_n 0, 1) := by decide +kernel
theorem dX1_takeKind_9 : decode cX1_takeKind 9 = .ok (.getfield 11, 3) := by decide +kernel
theorem dX1_takeKind_12 : decode cX1_takeKind 12 = .ok (.aload_n 0, 1) := by decide +kernel
theorem dX1_takeKind_13 : decode cX1_takeKind 13 = .ok (.getfield 21, 3) := by decide +kernel
theorem dX1_takeKind_16 : decode cX1_takeKind 16 = .ok (.iload_n 1, 1) := by decide +kernel
theorem dX1_takeKind_17 : decode cX1_takeKind 17 = .ok (.invokestatic 35, 3) := by decide +kernel
theorem dX1_takeKind_20 : decode cX1_takeKind 20 = .ok (.iconst 3, 1) := by decide +kernel
theorem dX1_takeKind_21 : decode cX1_takeKind 21 = .ok (.ireturn, 1) := by decide +kernel
set_option maxRecDepth 20000 in
theorem ggX1_takePlace_X1_isDigit : GoodIn wsX1_takePlace wsX1_isDigit := goodIn_r _ [6] (by decide +kernel) (by decide +kernel)
set_option maxRecDepth 20000 in
theorem gX1_takePlace_X1_isDigit : GoodIn wsX1_takePlace (va_wsS RX1 72 yX1_isDigit wsX1_isDigit) := goodIn_app (goodIn_of _ (by decide +kernel)) ggX1_takePlace_X1_isDigit
set_option maxRecDepth 20000 in
theorem ggX1_takePlace_X3_write : GoodIn wsX1_takePlace wsX3_write := goodIn_r _ [9] (by decide +kernel) (by decide +kernel)
set_option maxRecDepth 20000 in
theorem gX1_takePlace_X3_write_n35 : GoodIn wsX1_takePlace (wsX3_write) := ggX1_takePlace_X3_write
theorem dX1_takePlace_0 : decode cX1_takePlace 0 = .ok (.iload_n 1, 1) := by decide +kernel
theorem dX1_takePlace_1 : decode cX1_takePlace 1 = .ok (.invokestatic 72, 3) := by decide +kernel
theorem dX1_takePlace_4 : decode cX1_takePlace 4 = .ok (.ifCond .ne 5, 3) := by decide +kernel
theorem dX1_takePlace_7 : decode cX1_takePlace 7 = .ok (.iconst (-1), 1) := by decide +kernel
theorem dX1_takePlace_8 : decode cX1_takePlace 8 = .ok (.ireturn, 1) := by decide +kernel
theorem dX1_takePlace_9 : decode cX1_takePlace 9 = .ok (.aload_n 0, 1) := by decide +kernel
theorem dX1_takePlace_10 : decode cX1_takePlace 10 = .ok (.getfield 15, 3) := by decide +kernel
theorem dX1_takePlace_13 : decode cX1_takePlace 13 = .ok (.aload_n 0, 1) := by decide +kernel
theorem dX1_takePlace_14 : decode cX1_takePlace 14 = .ok (.getfield 21, 3) := by decide +kernel
theorem dX1_takePlace_17 : decode cX1_takePlace 17 = .ok (.iload_n 1, 1) := by decide +kernel
theorem dX1_takePlace_18 : decode cX1_takePlace 18 = .ok (.bipush 48, 2) := by decide +kernel
theorem dX1_takePlace_20 : decode cX1_takePlace 20 = .ok (.isub, 1) := by decide +kernel
theorem dX1_takePlace_21 : decode cX1_takePlace 21 = .ok (.invokestatic 35, 3) := by decide +kernel
theorem dX1_takePlace_24 : decode cX1_takePlace 24 = .ok (.aload_n 0, 1) := by decide +kernel
theorem dX1_takePlace_25 : decode cX1_takePlace 25 = .ok (.dup, 1) := by decide +kernel
theorem dX1_takePlace_26 : decode cX1_takePlace 26 = .ok (.getfield 21, 3) := by decide +kernel
theorem dX1_takePlace_29 : decode cX1_takePlace 29 = .ok (.iconst 1, 1) := by decide +kernel
theorem dX1_takePlace_30 : decode cX1_takePlace 30 = .ok (.iadd, 1) := by decide +kernel
theorem dX1_takePlace_31 : decode cX1_takePlace 31 = .ok (.putfield 21, 3) := by decide +kernel
theorem dX1_takePlace_34 : decode cX1_takePlace 34 = .ok (.iconst 1, 1) := by decide +kernel
theorem dX1_takePlace_35 : decode cX1_takePlace 35 = .ok (.ireturn, 1) := by decide +kernel
set_option maxRecDepth 20000 in
theorem ggX1_takeGrowth_X1_isDigit : GoodIn wsX1_takeGrowth wsX1_isDigit := goodIn_r _ [5] (by decide +kernel) (by decide +kernel)
set_option maxRecDepth 20000 in
theorem gX1_takeGrowth_X1_isDigit : GoodIn wsX1_takeGrowth (va_wsS RX1 72 yX1_isDigit wsX1_isDigit) := goodIn_app (goodIn_of _ (by decide +kernel)) ggX1_takeGrowth_X1_isDigit
theorem dX1_takeGrowth_0 : decode cX1_takeGrowth 0 = .ok (.iload_n 1, 1) := by decide +kernel
theorem dX1_takeGrowth_1 : decode cX1_takeGrowth 1 = .ok (.invokestatic 72, 3) := by decide +kernel
theorem dX1_takeGrowth_4 : decode cX1_takeGrowth 4 = .ok (.ifCond .ne 5, 3) := by decide +kernel
theorem dX1_takeGrowth_7 : decode cX1_takeGrowth 7 = .ok (.iconst (-1), 1) := by decide +kernel
theorem dX1_takeGrowth_8 : decode cX1_takeGrowth 8 = .ok (.ireturn, 1) := by decide +kernel
theorem dX1_takeGrowth_9 : decode cX1_takeGrowth 9 = .ok (.aload_n 0, 1) := by decide +kernel
theorem dX1_takeGrowth_10 : decode cX1_takeGrowth 10 = .ok (.iload_n 1, 1) := by decide +kernel
theorem dX1_takeGrowth_11 : decode cX1_takeGrowth 11 = .ok (.bipush 48, 2) := by decide +kernel
theorem dX1_takeGrowth_13 : decode cX1_takeGrowth 13 = .ok (.isub, 1) := by decide +kernel
theorem dX1_takeGrowth_14 : decode cX1_takeGrowth 14 = .ok (.putfield 28, 3) := by decide +kernel
theorem dX1_takeGrowth_17 : decode cX1_takeGrowth 17 = .ok (.iconst 5, 1) := by decide +kernel
theorem dX1_takeGrowth_18 : decode cX1_takeGrowth 18 = .ok (.ireturn, 1) := by decide +kernel
set_option maxRecDepth 20000 in
theorem ggX1_takeWeight_X1_isDigit : GoodIn wsX1_takeWeight wsX1_isDigit := goodIn_r _ [6] (by decide +kernel) (by decide +kernel)
set_option maxRecDepth 20000 in
theorem gX1_takeWeight_X1_isDigit : GoodIn wsX1_takeWeight (va_wsS RX1 72 yX1_isDigit wsX1_isDigit) := goodIn_app (goodIn_of _ (by decide +kernel)) ggX1_takeWeight_X1_isDigit
set_option maxRecDepth 20000 in
theorem ggX1_takeWeight_X3_write : GoodIn wsX1_takeWeight wsX3_write := goodIn_r _ [9] (by decide +kernel) (by decide +kernel)
set_option maxRecDepth 20000 in
theorem gX1_takeWeight_X3_write_n35 : GoodIn wsX1_takeWeight (wsX3_write) := ggX1_takeWeight_X3_write
theorem dX1_takeWeight_0 : decode cX1_takeWeight 0 = .ok (.iload_n 1, 1) := by decide +kernel
theorem dX1_takeWeight_1 : decode cX1_takeWeight 1 = .ok (.invokestatic 72, 3) := by decide +kernel
theorem dX1_takeWeight_4 : decode cX1_takeWeight 4 = .ok (.ifCond .eq 9, 3) := by decide +kernel
theorem dX1_takeWeight_7 : decode cX1_takeWeight 7 = .ok (.iload_n 1, 1) := by decide +kernel
theorem dX1_takeWeight_8 : decode cX1_takeWeight 8 = .ok (.bipush 48, 2) := by decide +kernel
theorem dX1_takeWeight_10 : decode cX1_takeWeight 10 = .ok (.if_icmp .ne 5, 3) := by decide +kernel
theorem dX1_takeWeight_13 : decode cX1_takeWeight 13 = .ok (.iconst (-1), 1) := by decide +kernel
theorem dX1_takeWeight_14 : decode cX1_takeWeight 14 = .ok (.ireturn, 1) := by decide +kernel
theorem dX1_takeWeight_15 : decode cX1_takeWeight 15 = .ok (.aload_n 0, 1) := by decide +kernel
theorem dX1_takeWeight_16 : decode cX1_takeWeight 16 = .ok (.getfield 18, 3) := by decide +kernel
theorem dX1_takeWeight_19 : decode cX1_takeWeight 19 = .ok (.aload_n 0, 1) := by decide +kernel
theorem dX1_takeWeight_20 : decode cX1_takeWeight 20 = .ok (.getfield 25, 3) := by decide +kernel
theorem dX1_takeWeight_23 : decode cX1_takeWeight 23 = .ok (.iload_n 1, 1) := by decide +kernel
theorem dX1_takeWeight_24 : decode cX1_takeWeight 24 = .ok (.bipush 48, 2) := by decide +kernel
theorem dX1_takeWeight_26 : decode cX1_takeWeight 26 = .ok (.isub, 1) := by decide +kernel
theorem dX1_takeWeight_27 : decode cX1_takeWeight 27 = .ok (.invokestatic 35, 3) := by decide +kernel
theorem dX1_takeWeight_30 : decode cX1_takeWeight 30 = .ok (.aload_n 0, 1) := by decide +kernel
theorem dX1_takeWeight_31 : decode cX1_takeWeight 31 = .ok (.dup, 1) := by decide +kernel
theorem dX1_takeWeight_32 : decode cX1_takeWeight 32 = .ok (.getfield 25, 3) := by decide +kernel
theorem dX1_takeWeight_35 : decode cX1_takeWeight 35 = .ok (.iconst 1, 1) := by decide +kernel
theorem dX1_takeWeight_36 : decode cX1_takeWeight 36 = .ok (.iadd, 1) := by decide +kernel
theorem dX1_takeWeight_37 : decode cX1_takeWeight 37 = .ok (.putfield 25, 3) := by decide +kernel
theorem dX1_takeWeight_40 : decode cX1_takeWeight 40 = .ok (.iconst 5, 1) := by decide +kernel
theorem dX1_takeWeight_41 : decode cX1_takeWeight 41 = .ok (.ireturn, 1) := by decide +kernel
theorem dX1_isDigit_0 : decode cX1_isDigit 0 = .ok (.iload_n 0, 1) := by decide +kernel
theorem dX1_isDigit_1 : decode cX1_isDigit 1 = .ok (.bipush 48, 2) := by decide +kernel
theorem dX1_isDigit_3 : decode cX1_isDigit 3 = .ok (.if_icmp .lt 13, 3) := by decide +kernel
theorem dX1_isDigit_6 : decode cX1_isDigit 6 = .ok (.iload_n 0, 1) := by decide +kernel
theorem dX1_isDigit_7 : decode cX1_isDigit 7 = .ok (.bipush 57, 2) := by decide +kernel
theorem dX1_isDigit_9 : decode cX1_isDigit 9 = .ok (.if_icmp .gt 7, 3) := by decide +kernel
theorem dX1_isDigit_12 : decode cX1_isDigit 12 = .ok (.iconst 1, 1) := by decide +kernel
theorem dX1_isDigit_13 : decode cX1_isDigit 13 = .ok (.goto 4, 3) := by decide +kernel
theorem dX1_isDigit_16 : decode cX1_isDigit 16 = .ok (.iconst 0, 1) := by decide +kernel
theorem dX1_isDigit_17 : decode cX1_isDigit 17 = .ok (.ireturn, 1) := by decide +kernel
theorem dX1_kindByLetter_0 : decode cX1_kindByLetter 0 = .ok (.iload_n 0, 1) := by decide +kernel
theorem dX1_kindByLetter_1 : decode cX1_kindByLetter 1 = .ok (.lookupswitch 41 #[(112, 35), (115, 37), (118, 39)], 35) := by decide +kernel
theorem dX1_kindByLetter_36 : decode cX1_kindByLetter 36 = .ok (.iconst 0, 1) := by decide +kernel
theorem dX1_kindByLetter_37 : decode cX1_kindByLetter 37 = .ok (.ireturn, 1) := by decide +kernel
theorem dX1_kindByLetter_38 : decode cX1_kindByLetter 38 = .ok (.iconst 1, 1) := by decide +kernel
theorem dX1_kindByLetter_39 : decode cX1_kindByLetter 39 = .ok (.ireturn, 1) := by decide +kernel
theorem dX1_kindByLetter_40 : decode cX1_kindByLetter 40 = .ok (.iconst 2, 1) := by decide +kernel
theorem dX1_kindByLetter_41 : decode cX1_kindByLetter 41 = .ok (.ireturn, 1) := by decide +kernel
theorem dX1_kindByLetter_42 : decode cX1_kindByLetter 42 = .ok (.bipush (-9), 2) := by decide +kernel
theorem dX1_kindByLetter_44 : decode cX1_kindByLetter 44 = .ok (.ireturn, 1) := by decide +kernel
theorem dX2_init_0 : decode cX2_init 0 = .ok (.aload_n 0, 1) := by decide +kernel
theorem dX2_init_1 : decode cX2_init 1 = .ok (.invokespecial 3, 3) := by decide +kernel
theorem dX2_init_4 : decode cX2_init 4 = .ok (.aload_n 0, 1) := by decide +kernel
theorem dX2_init_5 : decode cX2_init 5 = .ok (.bipush 60, 2) := by decide +kernel
theorem dX2_init_7 : decode cX2_init 7 = .ok (.newarray .int, 2) := by decide +kernel
theorem dX2_init_9 : decode cX2_init 9 = .ok (.putfield 9, 3) := by decide +kernel
theorem dX2_init_12 : decode cX2_init 12 = .ok (.aload_n 0, 1) := by decide +kernel
theorem dX2_init_13 : decode cX2_init 13 = .ok (.iconst (-1), 1) := by decide +kernel
theorem dX2_init_14 : decode cX2_init 14 = .ok (.putfield 15, 3) := by decide +kernel
theorem dX2_init_17 : decode cX2_init 17 = .ok (.return_, 1) := by decide +kernel
theorem dX2_isNothing_0 : decode cX2_isNothing 0 = .ok (.aload_n 0, 1) := by decide +kernel
theorem dX2_isNothing_1 : decode cX2_isNothing 1 = .ok (.getfield 15, 3) := by decide +kernel
theorem dX2_isNothing_4 : decode cX2_isNothing 4 = .ok (.iconst (-1), 1) := by decide +kernel
theorem dX2_isNothing_5 : decode cX2_isNothing 5 = .ok (.if_icmp .ne 7, 3) := by decide +kernel
theorem dX2_isNothing_8 : decode cX2_isNothing 8 = .ok (.iconst 1, 1) := by decide +kernel
theorem dX2_isNothing_9 : decode cX2_isNothing 9 = .ok (.goto 4, 3) := by decide +kernel
theorem dX2_isNothing_12 : decode cX2_isNothing 12 = .ok (.iconst 0, 1) := by decide +kernel
theorem dX2_isNothing_13 : decode cX2_isNothing 13 = .ok (.ireturn, 1) := by decide +kernel
theorem dX2_isLikeLane_0 : decode cX2_isLikeLane 0 = .ok (.aload_n 0, 1) := by decide +kernel
theorem dX2_isLikeLane_1 : decode cX2_isLikeLane 1 = .ok (.getfield 15, 3) := by decide +kernel
theorem dX2_isLikeLane_4 : decode cX2_isLikeLane 4 = .ok (.aload_n 1, 1) := by decide +kernel
theorem dX2_isLikeLane_5 : decode cX2_isLikeLane 5 = .ok (.getfield 15, 3) := by decide +kernel
theorem dX2_isLikeLane_8 : decode cX2_isLikeLane 8 = .ok (.if_icmp .ne 7, 3) := by decide +kernel
theorem dX2_isLikeLane_11 : decode cX2_isLikeLane 11 = .ok (.iconst 1, 1) := by decide +kernel
theorem dX2_isLikeLane_12 : decode cX2_isLikeLane 12 = .ok (.goto 4, 3) := by decide +kernel
theorem dX2_isLikeLane_15 : decode cX2_isLikeLane 15 = .ok (.iconst 0, 1) := by decide +kernel
theorem dX2_isLikeLane_16 : decode cX2_isLikeLane 16 = .ok (.ireturn, 1) := by decide +kernel
set_option maxRecDepth 20000 in
theorem ggX2_faultAs_X2_isNothing : GoodIn wsX2_faultAs wsX2_isNothing := goodIn_r _ [6, 1, 7, 8, 9] (by decide +kernel) (by decide +kernel)
set_option maxRecDepth 20000 in
theorem gX2_faultAs_X2_isNothing : GoodIn wsX2_faultAs (wsV RX2 19 RX2 yX2_isNothing wsX2_isNothing) := goodIn_app (goodIn_of _ (by decide +kernel)) ggX2_faultAs_X2_isNothing
theorem dX2_faultAs_0 : decode cX2_faultAs 0 = .ok (.aload_n 0, 1) := by decide +kernel
theorem dX2_faultAs_1 : decode cX2_faultAs 1 = .ok (.invokevirtual 19, 3) := by decide +kernel
theorem dX2_faultAs_4 : decode cX2_faultAs 4 = .ok (.ifCond .eq 5, 3) := by decide +kernel
theorem dX2_faultAs_7 : decode cX2_faultAs 7 = .ok (.iconst 1, 1) := by decide +kernel
theorem dX2_faultAs_8 : decode cX2_faultAs 8 = .ok (.ireturn, 1) := by decide +kernel
theorem dX2_faultAs_9 : decode cX2_faultAs 9 = .ok (.aload_n 0, 1) := by decide +kernel
theorem dX2_faultAs_10 : decode cX2_faultAs 10 = .ok (.getfield 15, 3) := by decide +kernel
theorem dX2_faultAs_13 : decode cX2_faultAs 13 = .ok (.iload_n 1, 1) := by decide +kernel
theorem dX2_faultAs_14 : decode cX2_faultAs 14 = .ok (.if_icmp .ne 7, 3) := by decide +kernel
theorem dX2_faultAs_17 : decode cX2_faultAs 17 = .ok (.iconst 0, 1) := by decide +kernel
theorem dX2_faultAs_18 : decode cX2_faultAs 18 = .ok (.goto 4, 3) := by decide +kernel
theorem dX2_faultAs_21 : decode cX2_faultAs 21 = .ok (.iconst 2, 1) := by decide +kernel
theorem dX2_faultAs_22 : decode cX2_faultAs 22 = .ok (.ireturn, 1) := by decide +kernel
set_option maxRecDepth 20000 in
theorem ggX2_hasCells_X3_within : GoodIn wsX2_hasCells wsX3_within := goodIn_r _ [4] (by decide +kernel) (by decide +kernel)
set_option maxRecDepth 20000 in
theorem gX2_hasCells_X3_within_n26 : GoodIn wsX2_hasCells (wsX3_within) := ggX2_hasCells_X3_within
theorem dX2_hasCells_0 : decode cX2_hasCells 0 = .ok (.iload_n 1, 1) := by decide +kernel
theorem dX2_hasCells_1 : decode cX2_hasCells 1 = .ok (.aload_n 0, 1) := by decide +kernel
theorem dX2_hasCells_2 : decode cX2_hasCells 2 = .ok (.getfield 23, 3) := by decide +kernel
theorem dX2_hasCells_5 : decode cX2_hasCells 5 = .ok (.invokestatic 26, 3) := by decide +kernel
theorem dX2_hasCells_8 : decode cX2_hasCells 8 = .ok (.ifCond .eq 20, 3) := by decide +kernel
theorem dX2_hasCells_11 : decode cX2_hasCells 11 = .ok (.iload_n 2, 1) := by decide +kernel
theorem dX2_hasCells_12 : decode cX2_hasCells 12 = .ok (.aload_n 0, 1) := by decide +kernel
theorem dX2_hasCells_13 : decode cX2_hasCells 13 = .ok (.getfield 23, 3) := by decide +kernel
theorem dX2_hasCells_16 : decode cX2_hasCells 16 = .ok (.iload_n 1, 1) := by decide +kernel
theorem dX2_hasCells_17 : decode cX2_hasCells 17 = .ok (.isub, 1) := by decide +kernel
theorem dX2_hasCells_18 : decode cX2_hasCells 18 = .ok (.invokestatic 26, 3) := by decide +kernel
theorem dX2_hasCells_21 : decode cX2_hasCells 21 = .ok (.ifCond .eq 7, 3) := by decide +kernel
theorem dX2_hasCells_24 : decode cX2_hasCells 24 = .ok (.iconst 1, 1) := by decide +kernel
theorem dX2_hasCells_25 : decode cX2_hasCells 25 = .ok (.goto 4, 3) := by decide +kernel
theorem dX2_hasCells_28 : decode cX2_hasCells 28 = .ok (.iconst 0, 1) := by decide +kernel
theorem dX2_hasCells_29 : decode cX2_hasCells 29 = .ok (.ireturn, 1) := by decide +kernel
set_option maxRecDepth 20000 in
theorem ggX2_renew_X3_write : GoodIn wsX2_renew wsX3_write := goodIn_r _ [6] (by decide +kernel) (by decide +kernel)
set_option maxRecDepth 20000 in
theorem gX2_renew_X3_write_n30 : GoodIn wsX2_renew (wsX3_write) := ggX2_renew_X3_write
theorem dX2_renew_0 : decode cX2_renew 0 = .ok (.aload_n 0, 1) := by decide +kernel
theorem dX2_renew_1 : decode cX2_renew 1 = .ok (.iload_n 1, 1) := by decide +kernel
theorem dX2_renew_2 : decode cX2_renew 2 = .ok (.putfield 15, 3) := by decide +kernel
theorem dX2_renew_5 : decode cX2_renew 5 = .ok (.aload_n 0, 1) := by decide +kernel
theorem dX2_renew_6 : decode cX2_renew 6 = .ok (.iload_n 2, 1) := by decide +kernel
theorem dX2_renew_7 : decode cX2_renew 7 = .ok (.putfield 23, 3) := by decide +kernel
theorem dX2_renew_10 : decode cX2_renew 10 = .ok (.iconst 0, 1) := by decide +kernel
theorem dX2_renew_11 : decode cX2_renew 11 = .ok (.istore_n 3, 1) := by decide +kernel
theorem dX2_renew_12 : decode cX2_renew 12 = .ok (.iload_n 3, 1) := by decide +kernel
theorem dX2_renew_13 : decode cX2_renew 13 = .ok (.iload_n 2, 1) := by decide +kernel
theorem dX2_renew_14 : decode cX2_renew 14 = .ok (.if_icmp .ge 18, 3) := by decide +kernel
theorem dX2_renew_17 : decode cX2_renew 17 = .ok (.aload_n 0, 1) := by decide +kernel
theorem dX2_renew_18 : decode cX2_renew 18 = .ok (.getfield 9, 3) := by decide +kernel
theorem dX2_renew_21 : decode cX2_renew 21 = .ok (.iload_n 3, 1) := by decide +kernel
theorem dX2_renew_22 : decode cX2_renew 22 = .ok (.iconst 0, 1) := by decide +kernel
theorem dX2_renew_23 : decode cX2_renew 23 = .ok (.invokestatic 30, 3) := by decide +kernel
theorem dX2_renew_26 : decode cX2_renew 26 = .ok (.iinc 3 1, 3) := by decide +kernel
theorem dX2_renew_29 : decode cX2_renew 29 = .ok (.goto (-17), 3) := by decide +kernel
theorem dX2_renew_32 : decode cX2_renew 32 = .ok (.return_, 1) := by decide +kernel
theorem dX2_clear_0 : decode cX2_clear 0 = .ok (.aload_n 0, 1) := by decide +kernel
theorem dX2_clear_1 : decode cX2_clear 1 = .ok (.iconst (-1), 1) := by decide +kernel
theorem dX2_clear_2 : decode cX2_clear 2 = .ok (.putfield 15, 3) := by decide +kernel
theorem dX2_clear_5 : decode cX2_clear 5 = .ok (.aload_n 0, 1) := by decide +kernel
theorem dX2_clear_6 : decode cX2_clear 6 = .ok (.iconst 0, 1) := by decide +kernel
theorem dX2_clear_7 : decode cX2_clear 7 = .ok (.putfield 23, 3) := by decide +kernel
theorem dX2_clear_10 : decode cX2_clear 10 = .ok (.return_, 1) := by decide +kernel
set_option maxRecDepth 20000 in
theorem ggX2_get_X3_at : GoodIn wsX2_get wsX3_at := goodIn_r _ [4] (by decide +kernel) (by decide +kernel)
set_option maxRecDepth 20000 in
theorem gX2_get_X3_at_n34 : GoodIn wsX2_get (wsX3_at) := ggX2_get_X3_at
theorem dX2_get_0 : decode cX2_get 0 = .ok (.aload_n 0, 1) := by decide +kernel
theorem dX2_get_1 : decode cX2_get 1 = .ok (.getfield 9, 3) := by decide +kernel
theorem dX2_get_4 : decode cX2_get 4 = .ok (.iload_n 1, 1) := by decide +kernel
theorem dX2_get_5 : decode cX2_get 5 = .ok (.invokestatic 34, 3) := by decide +kernel
theorem dX2_get_8 : decode cX2_get 8 = .ok (.ireturn, 1) := by decide +kernel
set_option maxRecDepth 20000 in
theorem ggX2_set_X2_cut : GoodIn wsX2_set wsX2_cut := goodIn_r _ [6, 7, 11, 12, 13] (by decide +kernel) (by decide +kernel)
set_option maxRecDepth 20000 in
theorem gX2_set_X2_cut : GoodIn wsX2_set (wsV RX2 38 RX2 yX2_cut wsX2_cut) := goodIn_app (goodIn_of _ (by decide +kernel)) ggX2_set_X2_cut
set_option maxRecDepth 20000 in
theorem ggX2_set_X3_write : GoodIn wsX2_set wsX3_write := goodIn_r _ [10] (by decide +kernel) (by decide +kernel)
set_option maxRecDepth 20000 in
theorem gX2_set_X3_write_n30 : GoodIn wsX2_set (wsX3_write) := ggX2_set_X3_write
theorem dX2_set_0 : decode cX2_set 0 = .ok (.aload_n 0, 1) := by decide +kernel
theorem dX2_set_1 : decode cX2_set 1 = .ok (.getfield 9, 3) := by decide +kernel
theorem dX2_set_4 : decode cX2_set 4 = .ok (.iload_n 1, 1) := by decide +kernel
theorem dX2_set_5 : decode cX2_set 5 = .ok (.aload_n 0, 1) := by decide +kernel
theorem dX2_set_6 : decode cX2_set 6 = .ok (.iload_n 2, 1) := by decide +kernel
theorem dX2_set_7 : decode cX2_set 7 = .ok (.invokevirtual 38, 3) := by decide +kernel
theorem dX2_set_10 : decode cX2_set 10 = .ok (.invokestatic 30, 3) := by decide +kernel
theorem dX2_set_13 : decode cX2_set 13 = .ok (.return_, 1) := by decide +kernel
theorem dX2_cut_0 : decode cX2_cut 0 = .ok (.aload_n 0, 1) := by decide +kernel
theorem dX2_cut_1 : decode cX2_cut 1 = .ok (.getfield 15, 3) := by decide +kernel
theorem dX2_cut_4 : decode cX2_cut 4 = .ok (.ifCond .ne 6, 3) := by decide +kernel
theorem dX2_cut_7 : decode cX2_cut 7 = .ok (.iload_n 1, 1) := by decide +kernel
theorem dX2_cut_8 : decode cX2_cut 8 = .ok (.i2b, 1) := by decide +kernel
theorem dX2_cut_9 : decode cX2_cut 9 = .ok (.ireturn, 1) := by decide +kernel
theorem dX2_cut_10 : decode cX2_cut 10 = .ok (.aload_n 0, 1) := by decide +kernel
theorem dX2_cut_11 : decode cX2_cut 11 = .ok (.getfield 15, 3) := by decide +kernel
theorem dX2_cut_14 : decode cX2_cut 14 = .ok (.iconst 1, 1) := by decide +kernel
theorem dX2_cut_15 : decode cX2_cut 15 = .ok (.if_icmp .ne 8, 3) := by decide +kernel
theorem dX2_cut_18 : decode cX2_cut 18 = .ok (.iload_n 1, 1) := by decide +kernel
theorem dX2_cut_19 : decode cX2_cut 19 = .ok (.i2s, 1) := by decide +kernel
theorem dX2_cut_20 : decode cX2_cut 20 = .ok (.goto 4, 3) := by decide +kernel
theorem dX2_cut_23 : decode cX2_cut 23 = .ok (.iload_n 1, 1) := by decide +kernel
theorem dX2_cut_24 : decode cX2_cut 24 = .ok (.ireturn, 1) := by decide +kernel
set_option maxRecDepth 20000 in
theorem ggX2_takeCells_X2_get : GoodIn wsX2_takeCells wsX2_get := goodIn_r _ [6, 1, 7, 8, 9, 12, 13, 14] (by decide +kernel) (by decide +kernel)
set_option maxRecDepth 20000 in
theorem gX2_takeCells_X2_get : GoodIn wsX2_takeCells (wsV RX2 42 RX2 yX2_get wsX2_get) := goodIn_app (goodIn_of _ (by decide +kernel)) ggX2_takeCells_X2_get
set_option maxRecDepth 20000 in
theorem ggX2_takeCells_X3_write : GoodIn wsX2_takeCells wsX3_write := goodIn_r _ [11] (by decide +kernel) (by decide +kernel)
set_option maxRecDepth 20000 in
theorem gX2_takeCells_X3_write_n30 : GoodIn wsX2_takeCells (wsX3_write) := ggX2_takeCells_X3_write
theorem dX2_takeCells_0 : decode cX2_takeCells 0 = .ok (.iload_n 1, 1) := by decide +kernel
theorem dX2_takeCells_1 : decode cX2_takeCells 1 = .ok (.iload_n 3, 1) := by decide +kernel
theorem dX2_takeCells_2 : decode cX2_takeCells 2 = .ok (.if_icmp .le 42, 3) := by decide +kernel
theorem dX2_takeCells_5 : decode cX2_takeCells 5 = .ok (.iload 4, 2) := by decide +kernel
theorem dX2_takeCells_7 : decode cX2_takeCells 7 = .ok (.iconst 1, 1) := by decide +kernel
theorem dX2_takeCells_8 : decode cX2_takeCells 8 = .ok (.isub, 1) := by decide +kernel
theorem dX2_takeCells_9 : decode cX2_takeCells 9 = .ok (.istore 5, 2) := by decide +kernel
theorem dX2_takeCells_11 : decode cX2_takeCells 11 = .ok (.iload 5, 2) := by decide +kernel
theorem dX2_takeCells_13 : decode cX2_takeCells 13 = .ok (.ifCond .lt 28, 3) := by decide +kernel
theorem dX2_takeCells_16 : decode cX2_takeCells 16 = .ok (.aload_n 0, 1) := by decide +kernel
theorem dX2_takeCells_17 : decode cX2_takeCells 17 = .ok (.getfield 9, 3) := by decide +kernel
theorem dX2_takeCells_20 : decode cX2_takeCells 20 = .ok (.iload_n 1, 1) := by decide +kernel
theorem dX2_takeCells_21 : decode cX2_takeCells 21 = .ok (.iload 5, 2) := by decide +kernel
theorem dX2_takeCells_23 : decode cX2_takeCells 23 = .ok (.iadd, 1) := by decide +kernel
theorem dX2_takeCells_24 : decode cX2_takeCells 24 = .ok (.aload_n 2, 1) := by decide +kernel
theorem dX2_takeCells_25 : decode cX2_takeCells 25 = .ok (.iload_n 3, 1) := by decide +kernel
theorem dX2_takeCells_26 : decode cX2_takeCells 26 = .ok (.iload 5, 2) := by decide +kernel
theorem dX2_takeCells_28 : decode cX2_takeCells 28 = .ok (.iadd, 1) := by decide +kernel
theorem dX2_takeCells_29 : decode cX2_takeCells 29 = .ok (.invokevirtual 42, 3) := by decide +kernel
theorem dX2_takeCells_32 : decode cX2_takeCells 32 = .ok (.invokestatic 30, 3) := by decide +kernel
theorem dX2_takeCells_35 : decode cX2_takeCells 35 = .ok (.iinc 5 (-1), 3) := by decide +kernel
theorem dX2_takeCells_38 : decode cX2_takeCells 38 = .ok (.goto (-27), 3) := by decide +kernel
theorem dX2_takeCells_41 : decode cX2_takeCells 41 = .ok (.goto 38, 3) := by decide +kernel
theorem dX2_takeCells_44 : decode cX2_takeCells 44 = .ok (.iconst 0, 1) := by decide +kernel
theorem dX2_takeCells_45 : decode cX2_takeCells 45 = .ok (.istore 5, 2) := by decide +kernel
theorem dX2_takeCells_47 : decode cX2_takeCells 47 = .ok (.iload 5, 2) := by decide +kernel
theorem dX2_takeCells_49 : decode cX2_takeCells 49 = .ok (.iload 4, 2) := by decide +kernel
theorem dX2_takeCells_51 : decode cX2_takeCells 51 = .ok (.if_icmp .ge 28, 3) := by decide +kernel
theorem dX2_takeCells_54 : decode cX2_takeCells 54 = .ok (.aload_n 0, 1) := by decide +kernel
theorem dX2_takeCells_55 : decode cX2_takeCells 55 = .ok (.getfield 9, 3) := by decide +kernel
theorem dX2_takeCells_58 : decode cX2_takeCells 58 = .ok (.iload_n 1, 1) := by decide +kernel
theorem dX2_takeCells_59 : decode cX2_takeCells 59 = .ok (.iload 5, 2) := by decide +kernel
theorem dX2_takeCells_61 : decode cX2_takeCells 61 = .ok (.iadd, 1) := by decide +kernel
theorem dX2_takeCells_62 : decode cX2_takeCells 62 = .ok (.aload_n 2, 1) := by decide +kernel
theorem dX2_takeCells_63 : decode cX2_takeCells 63 = .ok (.iload_n 3, 1) := by decide +kernel
theorem dX2_takeCells_64 : decode cX2_takeCells 64 = .ok (.iload 5, 2) := by decide +kernel
theorem dX2_takeCells_66 : decode cX2_takeCells 66 = .ok (.iadd, 1) := by decide +kernel
theorem dX2_takeCells_67 : decode cX2_takeCells 67 = .ok (.invokevirtual 42, 3) := by decide +kernel
theorem dX2_takeCells_70 : decode cX2_takeCells 70 = .ok (.invokestatic 30, 3) := by decide +kernel
theorem dX2_takeCells_73 : decode cX2_takeCells 73 = .ok (.iinc 5 1, 3) := by decide +kernel
theorem dX2_takeCells_76 : decode cX2_takeCells 76 = .ok (.goto (-29), 3) := by decide +kernel
theorem dX2_takeCells_79 : decode cX2_takeCells 79 = .ok (.return_, 1) := by decide +kernel
set_option maxRecDepth 20000 in
theorem ggX3_init_X0_init : GoodIn wsX3_init wsX0_init := goodIn_r _ [23, 24, 2, 3, 10, 25, 26, 27, 28, 50, 51, 52, 53, 54] (by decide +kernel) (by decide +kernel)
set_option maxRecDepth 20000 in
theorem gX3_init_X0_init_n19 : GoodIn wsX3_init (wsX0_init) := ggX3_init_X0_init
set_option maxRecDepth 20000 in
theorem ggX3_init_X1_init : GoodIn wsX3_init wsX1_init := goodIn_r _ [30, 31, 2, 3, 10, 32, 33, 34, 55, 56, 57, 58, 59, 60] (by decide +kernel) (by decide +kernel)
set_option maxRecDepth 20000 in
theorem gX3_init_X1_init_n33 : GoodIn wsX3_init (wsX1_init) := ggX3_init_X1_init
set_option maxRecDepth 20000 in
theorem ggX3_init_X2_init : GoodIn wsX3_init wsX2_init := goodIn_r _ [36, 37, 2, 3, 10, 38, 39, 61, 62, 63] (by decide +kernel) (by decide +kernel)
set_option maxRecDepth 20000 in
theorem gX3_init_X2_init_n49 : GoodIn wsX3_init (wsX2_init) := ggX3_init_X2_init
theorem dX3_init_0 : decode cX3_init 0 = .ok (.aload_n 0, 1) := by decide +kernel
theorem dX3_init_1 : decode cX3_init 1 = .ok (.invokespecial 3, 3) := by decide +kernel
theorem dX3_init_4 : decode cX3_init 4 = .ok (.aload_n 0, 1) := by decide +kernel
theorem dX3_init_5 : decode cX3_init 5 = .ok (.iconst 4, 1) := by decide +kernel
theorem dX3_init_6 : decode cX3_init 6 = .ok (.anewarray 11, 3) := by decide +kernel
theorem dX3_init_9 : decode cX3_init 9 = .ok (.putfield 13, 3) := by decide +kernel
theorem dX3_init_12 : decode cX3_init 12 = .ok (.aload_n 0, 1) := by decide +kernel
theorem dX3_init_13 : decode cX3_init 13 = .ok (.new 17, 3) := by decide +kernel
theorem dX3_init_16 : decode cX3_init 16 = .ok (.dup, 1) := by decide +kernel
theorem dX3_init_17 : decode cX3_init 17 = .ok (.invokespecial 19, 3) := by decide +kernel
theorem dX3_init_20 : decode cX3_init 20 = .ok (.putfield 20, 3) := by decide +kernel
theorem dX3_init_23 : decode cX3_init 23 = .ok (.aload_n 0, 1) := by decide +kernel
theorem dX3_init_24 : decode cX3_init 24 = .ok (.bipush 8, 2) := by decide +kernel
theorem dX3_init_26 : decode cX3_init 26 = .ok (.newarray .int, 2) := by decide +kernel
theorem dX3_init_28 : decode cX3_init 28 = .ok (.putfield 24, 3) := by decide +kernel
theorem dX3_init_31 : decode cX3_init 31 = .ok (.aload_n 0, 1) := by decide +kernel
theorem dX3_init_32 : decode cX3_init 32 = .ok (.bipush 8, 2) := by decide +kernel
theorem dX3_init_34 : decode cX3_init 34 = .ok (.newarray .int, 2) := by decide +kernel
theorem dX3_init_36 : decode cX3_init 36 = .ok (.putfield 28, 3) := by decide +kernel
theorem dX3_init_39 : decode cX3_init 39 = .ok (.aload_n 0, 1) := by decide +kernel
theorem dX3_init_40 : decode cX3_init 40 = .ok (.new 31, 3) := by decide +kernel
theorem dX3_init_43 : decode cX3_init 43 = .ok (.dup, 1) := by decide +kernel
theorem dX3_init_44 : decode cX3_init 44 = .ok (.invokespecial 33, 3) := by decide +kernel
theorem dX3_init_47 : decode cX3_init 47 = .ok (.putfield 34, 3) := by decide +kernel
theorem dX3_init_50 : decode cX3_init 50 = .ok (.aload_n 0, 1) := by decide +kernel
theorem dX3_init_51 : decode cX3_init 51 = .ok (.new 31, 3) := by decide +kernel
theorem dX3_init_54 : decode cX3_init 54 = .ok (.dup, 1) := by decide +kernel
theorem dX3_init_55 : decode cX3_init 55 = .ok (.invokespecial 33, 3) := by decide +kernel
theorem dX3_init_58 : decode cX3_init 58 = .ok (.putfield 38, 3) := by decide +kernel
theorem dX3_init_61 : decode cX3_init 61 = .ok (.aload_n 0, 1) := by decide +kernel
theorem dX3_init_62 : decode cX3_init 62 = .ok (.iconst 1, 1) := by decide +kernel
theorem dX3_init_63 : decode cX3_init 63 = .ok (.putfield 41, 3) := by decide +kernel
theorem dX3_init_66 : decode cX3_init 66 = .ok (.aload_n 0, 1) := by decide +kernel
theorem dX3_init_67 : decode cX3_init 67 = .ok (.iconst 0, 1) := by decide +kernel
theorem dX3_init_68 : decode cX3_init 68 = .ok (.putfield 45, 3) := by decide +kernel
theorem dX3_init_71 : decode cX3_init 71 = .ok (.iconst 0, 1) := by decide +kernel
theorem dX3_init_72 : decode cX3_init 72 = .ok (.istore_n 1, 1) := by decide +kernel
theorem dX3_init_73 : decode cX3_init 73 = .ok (.iload_n 1, 1) := by decide +kernel
theorem dX3_init_74 : decode cX3_init 74 = .ok (.aload_n 0, 1) := by decide +kernel
theorem dX3_init_75 : decode cX3_init 75 = .ok (.getfield 13, 3) := by decide +kernel
theorem dX3_init_78 : decode cX3_init 78 = .ok (.arraylength, 1) := by decide +kernel
theorem dX3_init_79 : decode cX3_init 79 = .ok (.if_icmp .ge 22, 3) := by decide +kernel
theorem dX3_init_82 : decode cX3_init 82 = .ok (.aload_n 0, 1) := by decide +kernel
theorem dX3_init_83 : decode cX3_init 83 = .ok (.getfield 13, 3) := by decide +kernel
theorem dX3_init_86 : decode cX3_init 86 = .ok (.iload_n 1, 1) := by decide +kernel
theorem dX3_init_87 : decode cX3_init 87 = .ok (.new 11, 3) := by decide +kernel
theorem dX3_init_90 : decode cX3_init 90 = .ok (.dup, 1) := by decide +kernel
theorem dX3_init_91 : decode cX3_init 91 = .ok (.invokespecial 49, 3) := by decide +kernel
theorem dX3_init_94 : decode cX3_init 94 = .ok (.aastore, 1) := by decide +kernel
theorem dX3_init_95 : decode cX3_init 95 = .ok (.iinc 1 1, 3) := by decide +kernel
theorem dX3_init_98 : decode cX3_init 98 = .ok (.goto (-25), 3) := by decide +kernel
theorem dX3_init_101 : decode cX3_init 101 = .ok (.return_, 1) := by decide +kernel
set_option maxRecDepth 20000 in
theorem ggX3_secret_X3_sheetOf : GoodIn wsX3_secret wsX3_sheetOf := goodIn_r _ [8, 9, 88, 89, 90, 91, 92, 93, 94, 95, 96, 97] (by decide +kernel) (by decide +kernel)
set_option maxRecDepth 20000 in
theorem gX3_secret_X3_sheetOf : GoodIn wsX3_secret (wsV RX3 50 RX3 yX3_sheetOf wsX3_sheetOf) := goodIn_app (goodIn_of _ (by decide +kernel)) ggX3_secret_X3_sheetOf
set_option maxRecDepth 20000 in
theorem ggX3_secret_X3_within : GoodIn wsX3_secret wsX3_within := goodIn_r _ [12] (by decide +kernel) (by decide +kernel)
set_option maxRecDepth 20000 in
theorem gX3_secret_X3_within : GoodIn wsX3_secret (va_wsS RX3 54 yX3_within wsX3_within) := goodIn_app (goodIn_of _ (by decide +kernel)) ggX3_secret_X3_within
set_option maxRecDepth 20000 in
theorem ggX3_secret_X2_faultAs : GoodIn wsX3_secret wsX2_faultAs := goodIn_r _ [17, 18, 19, 20, 21, 16, 22, 98, 99, 100] (by decide +kernel) (by decide +kernel)
set_option maxRecDepth 20000 in
theorem gX3_secret_X2_faultAs : GoodIn wsX3_secret (wsV RX3 58 RX2 yX2_faultAs wsX2_faultAs) := goodIn_app (goodIn_of _ (by decide +kernel)) ggX3_secret_X2_faultAs
set_option maxRecDepth 20000 in
theorem ggX3_secret_X2_hasCells : GoodIn wsX3_secret wsX2_hasCells := goodIn_r _ [26, 27, 11, 7, 12, 98, 99, 100] (by decide +kernel) (by decide +kernel)
set_option maxRecDepth 20000 in
theorem gX3_secret_X2_hasCells : GoodIn wsX3_secret (wsV RX3 62 RX2 yX2_hasCells wsX2_hasCells) := goodIn_app (goodIn_of _ (by decide +kernel)) ggX3_secret_X2_hasCells
set_option maxRecDepth 20000 in
theorem ggX3_secret_X3_faulted : GoodIn wsX3_secret wsX3_faulted := goodIn_r _ [31, 1, 88, 89, 90, 91, 92, 93, 94, 95, 96, 97] (by decide +kernel) (by decide +kernel)
set_option maxRecDepth 20000 in
theorem gX3_secret_X3_faulted : GoodIn wsX3_secret (wsV RX3 65 RX3 yX3_faulted wsX3_faulted) := goodIn_app (goodIn_of _ (by decide +kernel)) ggX3_secret_X3_faulted
set_option maxRecDepth 20000 in
theorem ggX3_secret_X1_readText : GoodIn wsX3_secret wsX1_readText := goodIn_r _ [36, 37, 38, 39, 40, 41, 16, 42, 43, 44, 7, 45, 46, 47, 48, 35, 49, 50, 51, 52, 53, 54, 55, 56, 57, 58, 59, 60, 61, 62, 63, 64, 65, 66, 67, 68, 69, 70, 71, 72, 73, 74, 75, 76, 77, 101, 102, 103, 104, 105, 106, 98, 99, 100] (by decide +kernel) (by decide +kernel)
set_option maxRecDepth 20000 in
theorem gX3_secret_X1_readText : GoodIn wsX3_secret (wsV RX3 68 RX1 yX1_readText wsX1_readText) := goodIn_app (goodIn_of _ (by decide +kernel)) ggX3_secret_X1_readText
set_option maxRecDepth 20000 in
theorem ggX3_secret_X3_takeSpare : GoodIn wsX3_secret wsX3_takeSpare := goodIn_r _ [81, 3, 2, 82, 83, 88, 89, 90, 91, 92, 93, 94, 95, 96, 97] (by decide +kernel) (by decide +kernel)
set_option maxRecDepth 20000 in
theorem gX3_secret_X3_takeSpare : GoodIn wsX3_secret (wsV RX3 72 RX3 yX3_takeSpare wsX3_takeSpare) := goodIn_app (goodIn_of _ (by decide +kernel)) ggX3_secret_X3_takeSpare
set_option maxRecDepth 20000 in
theorem ggX3_secret_X1_answers : GoodIn wsX3_secret wsX1_answers := goodIn_r _ [87, 37, 101, 102, 103, 104, 105, 106] (by decide +kernel) (by decide +kernel)
set_option maxRecDepth 20000 in
theorem gX3_secret_X1_answers : GoodIn wsX3_secret (wsV RX3 75 RX1 yX1_answers wsX1_answers) := goodIn_app (goodIn_of _ (by decide +kernel)) ggX3_secret_X1_answers
theorem dX3_secret_0 : decode cX3_secret 0 = .ok (.aload_n 0, 1) := by decide +kernel
theorem dX3_secret_1 : decode cX3_secret 1 = .ok (.iconst 0, 1) := by decide +kernel
theorem dX3_secret_2 : decode cX3_secret 2 = .ok (.putfield 45, 3) := by decide +kernel
theorem dX3_secret_5 : decode cX3_secret 5 = .ok (.aload_n 0, 1) := by decide +kernel
theorem dX3_secret_6 : decode cX3_secret 6 = .ok (.iload_n 1, 1) := by decide +kernel
theorem dX3_secret_7 : decode cX3_secret 7 = .ok (.invokevirtual 50, 3) := by decide +kernel
theorem dX3_secret_10 : decode cX3_secret 10 = .ok (.astore 5, 2) := by decide +kernel
theorem dX3_secret_12 : decode cX3_secret 12 = .ok (.aload 5, 2) := by decide +kernel
theorem dX3_secret_14 : decode cX3_secret 14 = .ok (.ifnonnull 5, 3) := by decide +kernel
theorem dX3_secret_17 : decode cX3_secret 17 = .ok (.iconst (-1), 1) := by decide +kernel
theorem dX3_secret_18 : decode cX3_secret 18 = .ok (.ireturn, 1) := by decide +kernel
theorem dX3_secret_19 : decode cX3_secret 19 = .ok (.iload_n 2, 1) := by decide +kernel
theorem dX3_secret_20 : decode cX3_secret 20 = .ok (.iconst 2, 1) := by decide +kernel
theorem dX3_secret_21 : decode cX3_secret 21 = .ok (.invokestatic 54, 3) := by decide +kernel
theorem dX3_secret_24 : decode cX3_secret 24 = .ok (.ifCond .ne 6, 3) := by decide +kernel
theorem dX3_secret_27 : decode cX3_secret 27 = .ok (.bipush (-2), 2) := by decide +kernel
theorem dX3_secret_29 : decode cX3_secret 29 = .ok (.ireturn, 1) := by decide +kernel
theorem dX3_secret_30 : decode cX3_secret 30 = .ok (.aload 5, 2) := by decide +kernel
theorem dX3_secret_32 : decode cX3_secret 32 = .ok (.iload_n 2, 1) := by decide +kernel
theorem dX3_secret_33 : decode cX3_secret 33 = .ok (.invokevirtual 58, 3) := by decide +kernel
theorem dX3_secret_36 : decode cX3_secret 36 = .ok (.istore 6, 2) := by decide +kernel
theorem dX3_secret_38 : decode cX3_secret 38 = .ok (.iload 6, 2) := by decide +kernel
theorem dX3_secret_40 : decode cX3_secret 40 = .ok (.ifCond .ne 11, 3) := by decide +kernel
theorem dX3_secret_43 : decode cX3_secret 43 = .ok (.iload 4, 2) := by decide +kernel
theorem dX3_secret_45 : decode cX3_secret 45 = .ok (.ifCond .ge 6, 3) := by decide +kernel
theorem dX3_secret_48 : decode cX3_secret 48 = .ok (.iconst 4, 1) := by decide +kernel
theorem dX3_secret_49 : decode cX3_secret 49 = .ok (.istore 6, 2) := by decide +kernel
theorem dX3_secret_51 : decode cX3_secret 51 = .ok (.iload 6, 2) := by decide +kernel
theorem dX3_secret_53 : decode cX3_secret 53 = .ok (.ifCond .ne 17, 3) := by decide +kernel
theorem dX3_secret_56 : decode cX3_secret 56 = .ok (.aload 5, 2) := by decide +kernel
theorem dX3_secret_58 : decode cX3_secret 58 = .ok (.iload_n 3, 1) := by decide +kernel
theorem dX3_secret_59 : decode cX3_secret 59 = .ok (.iload 4, 2) := by decide +kernel
theorem dX3_secret_61 : decode cX3_secret 61 = .ok (.invokevirtual 62, 3) := by decide +kernel
theorem dX3_secret_64 : decode cX3_secret 64 = .ok (.ifCond .ne 6, 3) := by decide +kernel
theorem dX3_secret_67 : decode cX3_secret 67 = .ok (.iconst 3, 1) := by decide +kernel
theorem dX3_secret_68 : decode cX3_secret 68 = .ok (.istore 6, 2) := by decide +kernel
theorem dX3_secret_70 : decode cX3_secret 70 = .ok (.iload 6, 2) := by decide +kernel
theorem dX3_secret_72 : decode cX3_secret 72 = .ok (.ifCond .eq 10, 3) := by decide +kernel
theorem dX3_secret_75 : decode cX3_secret 75 = .ok (.aload_n 0, 1) := by decide +kernel
theorem dX3_secret_76 : decode cX3_secret 76 = .ok (.iload 6, 2) := by decide +kernel
theorem dX3_secret_78 : decode cX3_secret 78 = .ok (.invokevirtual 65, 3) := by decide +kernel
theorem dX3_secret_81 : decode cX3_secret 81 = .ok (.ireturn, 1) := by decide +kernel
theorem dX3_secret_82 : decode cX3_secret 82 = .ok (.aload_n 0, 1) := by decide +kernel
theorem dX3_secret_83 : decode cX3_secret 83 = .ok (.getfield 38, 3) := by decide +kernel
theorem dX3_secret_86 : decode cX3_secret 86 = .ok (.aload 5, 2) := by decide +kernel
theorem dX3_secret_88 : decode cX3_secret 88 = .ok (.iload_n 3, 1) := by decide +kernel
theorem dX3_secret_89 : decode cX3_secret 89 = .ok (.iload 4, 2) := by decide +kernel
theorem dX3_secret_91 : decode cX3_secret 91 = .ok (.invokevirtual 68, 3) := by decide +kernel
theorem dX3_secret_94 : decode cX3_secret 94 = .ok (.istore 7, 2) := by decide +kernel
theorem dX3_secret_96 : decode cX3_secret 96 = .ok (.iload 7, 2) := by decide +kernel
theorem dX3_secret_98 : decode cX3_secret 98 = .ok (.iconst (-1), 1) := by decide +kernel
theorem dX3_secret_99 : decode cX3_secret 99 = .ok (.if_icmp .eq 9, 3) := by decide +kernel
theorem dX3_secret_102 : decode cX3_secret 102 = .ok (.bipush (-100), 2) := by decide +kernel
theorem dX3_secret_104 : decode cX3_secret 104 = .ok (.iload 7, 2) := by decide +kernel
theorem dX3_secret_106 : decode cX3_secret 106 = .ok (.isub, 1) := by decide +kernel
theorem dX3_secret_107 : decode cX3_secret 107 = .ok (.ireturn, 1) := by decide +kernel
theorem dX3_secret_108 : decode cX3_secret 108 = .ok (.aload_n 0, 1) := by decide +kernel
theorem dX3_secret_109 : decode cX3_secret 109 = .ok (.invokevirtual 72, 3) := by decide +kernel
theorem dX3_secret_112 : decode cX3_secret 112 = .ok (.aload_n 0, 1) := by decide +kernel
theorem dX3_secret_113 : decode cX3_secret 113 = .ok (.getfield 34, 3) := by decide +kernel
theorem dX3_secret_116 : decode cX3_secret 116 = .ok (.invokevirtual 75, 3) := by decide +kernel
theorem dX3_secret_119 : decode cX3_secret 119 = .ok (.ireturn, 1) := by decide +kernel
set_option maxRecDepth 20000 in
theorem ggX3_ofAnswer_X3_isAnswer : GoodIn wsX3_ofAnswer wsX3_isAnswer := goodIn_r _ [6, 1, 7, 8, 9, 10, 11, 12, 28, 29, 30, 31, 32, 33, 34, 35, 36, 37, 38, 39, 40, 41, 42, 43] (by decide +kernel) (by decide +kernel)
set_option maxRecDepth 20000 in
theorem gX3_ofAnswer_X3_isAnswer : GoodIn wsX3_ofAnswer (wsV RX3 79 RX3 yX3_isAnswer wsX3_isAnswer) := goodIn_app (goodIn_of _ (by decide +kernel)) ggX3_ofAnswer_X3_isAnswer
set_option maxRecDepth 20000 in
theorem ggX3_ofAnswer_X3_within : GoodIn wsX3_ofAnswer wsX3_within := goodIn_r _ [15] (by decide +kernel) (by decide +kernel)
set_option maxRecDepth 20000 in
theorem gX3_ofAnswer_X3_within : GoodIn wsX3_ofAnswer (va_wsS RX3 54 yX3_within wsX3_within) := goodIn_app (goodIn_of _ (by decide +kernel)) ggX3_ofAnswer_X3_within
set_option maxRecDepth 20000 in
theorem ggX3_ofAnswer_X1_kindOf : GoodIn wsX3_ofAnswer wsX1_kindOf := goodIn_r _ [19, 20, 21, 5, 22, 38, 39, 40, 41, 42, 43] (by decide +kernel) (by decide +kernel)
set_option maxRecDepth 20000 in
theorem gX3_ofAnswer_X1_kindOf : GoodIn wsX3_ofAnswer (wsV RX3 83 RX1 yX1_kindOf wsX1_kindOf) := goodIn_app (goodIn_of _ (by decide +kernel)) ggX3_ofAnswer_X1_kindOf
set_option maxRecDepth 20000 in
theorem ggX3_ofAnswer_X1_placeOf : GoodIn wsX3_ofAnswer wsX1_placeOf := goodIn_r _ [26, 27, 21, 5, 22, 38, 39, 40, 41, 42, 43] (by decide +kernel) (by decide +kernel)
set_option maxRecDepth 20000 in
theorem gX3_ofAnswer_X1_placeOf : GoodIn wsX3_ofAnswer (wsV RX3 86 RX1 yX1_placeOf wsX1_placeOf) := goodIn_app (goodIn_of _ (by decide +kernel)) ggX3_ofAnswer_X1_placeOf
theorem dX3_ofAnswer_0 : decode cX3_ofAnswer 0 = .ok (.aload_n 0, 1) := by decide +kernel
theorem dX3_ofAnswer_1 : decode cX3_ofAnswer 1 = .ok (.iload_n 1, 1) := by decide +kernel
theorem dX3_ofAnswer_2 : decode cX3_ofAnswer 2 = .ok (.invokevirtual 79, 3) := by decide +kernel
theorem dX3_ofAnswer_5 : decode cX3_ofAnswer 5 = .ok (.ifCond .ne 5, 3) := by decide +kernel
theorem dX3_ofAnswer_8 : decode cX3_ofAnswer 8 = .ok (.iconst (-1), 1) := by decide +kernel
theorem dX3_ofAnswer_9 : decode cX3_ofAnswer 9 = .ok (.ireturn, 1) := by decide +kernel
theorem dX3_ofAnswer_10 : decode cX3_ofAnswer 10 = .ok (.iload_n 2, 1) := by decide +kernel
theorem dX3_ofAnswer_11 : decode cX3_ofAnswer 11 = .ok (.iconst 1, 1) := by decide +kernel
theorem dX3_ofAnswer_12 : decode cX3_ofAnswer 12 = .ok (.invokestatic 54, 3) := by decide +kernel
theorem dX3_ofAnswer_15 : decode cX3_ofAnswer 15 = .ok (.ifCond .ne 6, 3) := by decide +kernel
theorem dX3_ofAnswer_18 : decode cX3_ofAnswer 18 = .ok (.bipush (-2), 2) := by decide +kernel
theorem dX3_ofAnswer_20 : decode cX3_ofAnswer 20 = .ok (.ireturn, 1) := by decide +kernel
theorem dX3_ofAnswer_21 : decode cX3_ofAnswer 21 = .ok (.iload_n 2, 1) := by decide +kernel
theorem dX3_ofAnswer_22 : decode cX3_ofAnswer 22 = .ok (.ifCond .ne 14, 3) := by decide +kernel
theorem dX3_ofAnswer_25 : decode cX3_ofAnswer 25 = .ok (.aload_n 0, 1) := by decide +kernel
theorem dX3_ofAnswer_26 : decode cX3_ofAnswer 26 = .ok (.getfield 34, 3) := by decide +kernel
theorem dX3_ofAnswer_29 : decode cX3_ofAnswer 29 = .ok (.iload_n 1, 1) := by decide +kernel
theorem dX3_ofAnswer_30 : decode cX3_ofAnswer 30 = .ok (.invokevirtual 83, 3) := by decide +kernel
theorem dX3_ofAnswer_33 : decode cX3_ofAnswer 33 = .ok (.goto 11, 3) := by decide +kernel
theorem dX3_ofAnswer_36 : decode cX3_ofAnswer 36 = .ok (.aload_n 0, 1) := by decide +kernel
theorem dX3_ofAnswer_37 : decode cX3_ofAnswer 37 = .ok (.getfield 34, 3) := by decide +kernel
theorem dX3_ofAnswer_40 : decode cX3_ofAnswer 40 = .ok (.iload_n 1, 1) := by decide +kernel
theorem dX3_ofAnswer_41 : decode cX3_ofAnswer 41 = .ok (.invokevirtual 86, 3) := by decide +kernel
theorem dX3_ofAnswer_44 : decode cX3_ofAnswer 44 = .ok (.ireturn, 1) := by decide +kernel
set_option maxRecDepth 20000 in
theorem ggX3_move_X3_isAnswer : GoodIn wsX3_move wsX3_isAnswer := goodIn_r _ [7, 1, 8, 9, 10, 11, 12, 13, 30, 31, 32, 33, 34, 35, 36, 37, 38, 39, 40, 41, 42, 43, 44, 45] (by decide +kernel) (by decide +kernel)
set_option maxRecDepth 20000 in
theorem gX3_move_X3_isAnswer : GoodIn wsX3_move (wsV RX3 79 RX3 yX3_isAnswer wsX3_isAnswer) := goodIn_app (goodIn_of _ (by decide +kernel)) ggX3_move_X3_isAnswer
set_option maxRecDepth 20000 in
theorem ggX3_move_X3_within : GoodIn wsX3_move wsX3_within := goodIn_r _ [16] (by decide +kernel) (by decide +kernel)
set_option maxRecDepth 20000 in
theorem gX3_move_X3_within : GoodIn wsX3_move (va_wsS RX3 54 yX3_within wsX3_within) := goodIn_app (goodIn_of _ (by decide +kernel)) ggX3_move_X3_within
set_option maxRecDepth 20000 in
theorem ggX3_move_X1_placeOf : GoodIn wsX3_move wsX1_placeOf := goodIn_r _ [20, 21, 22, 6, 23, 40, 41, 42, 43, 44, 45] (by decide +kernel) (by decide +kernel)
set_option maxRecDepth 20000 in
theorem gX3_move_X1_placeOf : GoodIn wsX3_move (wsV RX3 86 RX1 yX1_placeOf wsX1_placeOf) := goodIn_app (goodIn_of _ (by decide +kernel)) ggX3_move_X1_placeOf
set_option maxRecDepth 20000 in
theorem ggX3_move_X1_setPlace : GoodIn wsX3_move wsX1_setPlace := goodIn_r _ [27, 21, 28, 6, 29, 40, 41, 42, 43, 44, 45] (by decide +kernel) (by decide +kernel)
set_option maxRecDepth 20000 in
theorem gX3_move_X1_setPlace : GoodIn wsX3_move (wsV RX3 89 RX1 yX1_setPlace wsX1_setPlace) := goodIn_app (goodIn_of _ (by decide +kernel)) ggX3_move_X1_setPlace
theorem dX3_move_0 : decode cX3_move 0 = .ok (.aload_n 0, 1) := by decide +kernel
theorem dX3_move_1 : decode cX3_move 1 = .ok (.iload_n 1, 1) := by decide +kernel
theorem dX3_move_2 : decode cX3_move 2 = .ok (.invokevirtual 79, 3) := by decide +kernel
theorem dX3_move_5 : decode cX3_move 5 = .ok (.ifCond .ne 5, 3) := by decide +kernel
theorem dX3_move_8 : decode cX3_move 8 = .ok (.iconst (-1), 1) := by decide +kernel
theorem dX3_move_9 : decode cX3_move 9 = .ok (.ireturn, 1) := by decide +kernel
theorem dX3_move_10 : decode cX3_move 10 = .ok (.iload_n 2, 1) := by decide +kernel
theorem dX3_move_11 : decode cX3_move 11 = .ok (.bipush 9, 2) := by decide +kernel
theorem dX3_move_13 : decode cX3_move 13 = .ok (.invokestatic 54, 3) := by decide +kernel
theorem dX3_move_16 : decode cX3_move 16 = .ok (.ifCond .ne 6, 3) := by decide +kernel
theorem dX3_move_19 : decode cX3_move 19 = .ok (.bipush (-2), 2) := by decide +kernel
theorem dX3_move_21 : decode cX3_move 21 = .ok (.ireturn, 1) := by decide +kernel
theorem dX3_move_22 : decode cX3_move 22 = .ok (.aload_n 0, 1) := by decide +kernel
theorem dX3_move_23 : decode cX3_move 23 = .ok (.getfield 34, 3) := by decide +kernel
theorem dX3_move_26 : decode cX3_move 26 = .ok (.iload_n 1, 1) := by decide +kernel
theorem dX3_move_27 : decode cX3_move 27 = .ok (.invokevirtual 86, 3) := by decide +kernel
theorem dX3_move_30 : decode cX3_move 30 = .ok (.istore_n 3, 1) := by decide +kernel
theorem dX3_move_31 : decode cX3_move 31 = .ok (.aload_n 0, 1) := by decide +kernel
theorem dX3_move_32 : decode cX3_move 32 = .ok (.getfield 34, 3) := by decide +kernel
theorem dX3_move_35 : decode cX3_move 35 = .ok (.iload_n 1, 1) := by decide +kernel
theorem dX3_move_36 : decode cX3_move 36 = .ok (.iload_n 2, 1) := by decide +kernel
theorem dX3_move_37 : decode cX3_move 37 = .ok (.invokevirtual 89, 3) := by decide +kernel
theorem dX3_move_40 : decode cX3_move 40 = .ok (.aload_n 0, 1) := by decide +kernel
theorem dX3_move_41 : decode cX3_move 41 = .ok (.iconst 1, 1) := by decide +kernel
theorem dX3_move_42 : decode cX3_move 42 = .ok (.putfield 41, 3) := by decide +kernel
theorem dX3_move_45 : decode cX3_move 45 = .ok (.iload_n 3, 1) := by decide +kernel
theorem dX3_move_46 : decode cX3_move 46 = .ok (.ireturn, 1) := by decide +kernel
set_option maxRecDepth 20000 in
theorem ggX3_grow_X3_within : GoodIn wsX3_grow wsX3_within := goodIn_r _ [5] (by decide +kernel) (by decide +kernel)
set_option maxRecDepth 20000 in
theorem gX3_grow_X3_within : GoodIn wsX3_grow (va_wsS RX3 54 yX3_within wsX3_within) := goodIn_app (goodIn_of _ (by decide +kernel)) ggX3_grow_X3_within
set_option maxRecDepth 20000 in
theorem ggX3_grow_X3_noSecret : GoodIn wsX3_grow wsX3_noSecret := goodIn_r _ [9, 1, 10, 11, 12, 13, 14, 15, 25, 26, 27, 28, 29, 30, 31, 32, 33, 34, 35, 36, 37, 38, 39, 40] (by decide +kernel) (by decide +kernel)
set_option maxRecDepth 20000 in
theorem gX3_grow_X3_noSecret : GoodIn wsX3_grow (wsV RX3 93 RX3 yX3_noSecret wsX3_noSecret) := goodIn_app (goodIn_of _ (by decide +kernel)) ggX3_grow_X3_noSecret
set_option maxRecDepth 20000 in
theorem ggX3_grow_X1_growth : GoodIn wsX3_grow wsX1_growth := goodIn_r _ [19, 20, 35, 36, 37, 38, 39, 40] (by decide +kernel) (by decide +kernel)
set_option maxRecDepth 20000 in
theorem gX3_grow_X1_growth : GoodIn wsX3_grow (wsV RX3 97 RX1 yX1_growth wsX1_growth) := goodIn_app (goodIn_of _ (by decide +kernel)) ggX3_grow_X1_growth
set_option maxRecDepth 20000 in
theorem ggX3_grow_X1_setGrowth : GoodIn wsX3_grow wsX1_setGrowth := goodIn_r _ [24, 20, 35, 36, 37, 38, 39, 40] (by decide +kernel) (by decide +kernel)
set_option maxRecDepth 20000 in
theorem gX3_grow_X1_setGrowth : GoodIn wsX3_grow (wsV RX3 100 RX1 yX1_setGrowth wsX1_setGrowth) := goodIn_app (goodIn_of _ (by decide +kernel)) ggX3_grow_X1_setGrowth
theorem dX3_grow_0 : decode cX3_grow 0 = .ok (.iload_n 1, 1) := by decide +kernel
theorem dX3_grow_1 : decode cX3_grow 1 = .ok (.bipush 9, 2) := by decide +kernel
theorem dX3_grow_3 : decode cX3_grow 3 = .ok (.invokestatic 54, 3) := by decide +kernel
theorem dX3_grow_6 : decode cX3_grow 6 = .ok (.ifCond .ne 6, 3) := by decide +kernel
theorem dX3_grow_9 : decode cX3_grow 9 = .ok (.bipush (-2), 2) := by decide +kernel
theorem dX3_grow_11 : decode cX3_grow 11 = .ok (.ireturn, 1) := by decide +kernel
theorem dX3_grow_12 : decode cX3_grow 12 = .ok (.aload_n 0, 1) := by decide +kernel
theorem dX3_grow_13 : decode cX3_grow 13 = .ok (.invokevirtual 93, 3) := by decide +kernel
theorem dX3_grow_16 : decode cX3_grow 16 = .ok (.ifCond .eq 6, 3) := by decide +kernel
theorem dX3_grow_19 : decode cX3_grow 19 = .ok (.bipush (-3), 2) := by decide +kernel
theorem dX3_grow_21 : decode cX3_grow 21 = .ok (.ireturn, 1) := by decide +kernel
theorem dX3_grow_22 : decode cX3_grow 22 = .ok (.aload_n 0, 1) := by decide +kernel
theorem dX3_grow_23 : decode cX3_grow 23 = .ok (.getfield 34, 3) := by decide +kernel
theorem dX3_grow_26 : decode cX3_grow 26 = .ok (.invokevirtual 97, 3) := by decide +kernel
theorem dX3_grow_29 : decode cX3_grow 29 = .ok (.istore_n 2, 1) := by decide +kernel
theorem dX3_grow_30 : decode cX3_grow 30 = .ok (.aload_n 0, 1) := by decide +kernel
theorem dX3_grow_31 : decode cX3_grow 31 = .ok (.getfield 34, 3) := by decide +kernel
theorem dX3_grow_34 : decode cX3_grow 34 = .ok (.iload_n 1, 1) := by decide +kernel
theorem dX3_grow_35 : decode cX3_grow 35 = .ok (.invokevirtual 100, 3) := by decide +kernel
theorem dX3_grow_38 : decode cX3_grow 38 = .ok (.iload_n 2, 1) := by decide +kernel
theorem dX3_grow_39 : decode cX3_grow 39 = .ok (.ireturn, 1) := by decide +kernel
set_option maxRecDepth 20000 in
theorem ggX3_shown_X3_isAnswer : GoodIn wsX3_shown wsX3_isAnswer := goodIn_r _ [6, 1, 7, 8, 9, 10, 11, 12, 25, 26, 27, 28, 29, 30, 31, 32, 33, 34, 35, 36, 37, 38, 39, 40] (by decide +kernel) (by decide +kernel)
set_option maxRecDepth 20000 in
theorem gX3_shown_X3_isAnswer : GoodIn wsX3_shown (wsV RX3 79 RX3 yX3_isAnswer wsX3_isAnswer) := goodIn_app (goodIn_of _ (by decide +kernel)) ggX3_shown_X3_isAnswer
set_option maxRecDepth 20000 in
theorem ggX3_shown_X1_shownBy : GoodIn wsX3_shown wsX1_shownBy := goodIn_r _ [16, 17, 18, 19, 20, 21, 22, 23, 5, 24, 35, 36, 37, 38, 39, 40] (by decide +kernel) (by decide +kernel)
set_option maxRecDepth 20000 in
theorem gX3_shown_X1_shownBy : GoodIn wsX3_shown (wsV RX3 104 RX1 yX1_shownBy wsX1_shownBy) := goodIn_app (goodIn_of _ (by decide +kernel)) ggX3_shown_X1_shownBy
theorem dX3_shown_0 : decode cX3_shown 0 = .ok (.aload_n 0, 1) := by decide +kernel
theorem dX3_shown_1 : decode cX3_shown 1 = .ok (.iload_n 1, 1) := by decide +kernel
theorem dX3_shown_2 : decode cX3_shown 2 = .ok (.invokevirtual 79, 3) := by decide +kernel
theorem dX3_shown_5 : decode cX3_shown 5 = .ok (.ifCond .eq 11, 3) := by decide +kernel
theorem dX3_shown_8 : decode cX3_shown 8 = .ok (.aload_n 0, 1) := by decide +kernel
theorem dX3_shown_9 : decode cX3_shown 9 = .ok (.iload_n 2, 1) := by decide +kernel
theorem dX3_shown_10 : decode cX3_shown 10 = .ok (.invokevirtual 79, 3) := by decide +kernel
theorem dX3_shown_13 : decode cX3_shown 13 = .ok (.ifCond .ne 5, 3) := by decide +kernel
theorem dX3_shown_16 : decode cX3_shown 16 = .ok (.iconst (-1), 1) := by decide +kernel
theorem dX3_shown_17 : decode cX3_shown 17 = .ok (.ireturn, 1) := by decide +kernel
theorem dX3_shown_18 : decode cX3_shown 18 = .ok (.aload_n 0, 1) := by decide +kernel
theorem dX3_shown_19 : decode cX3_shown 19 = .ok (.getfield 34, 3) := by decide +kernel
theorem dX3_shown_22 : decode cX3_shown 22 = .ok (.iload_n 1, 1) := by decide +kernel
theorem dX3_shown_23 : decode cX3_shown 23 = .ok (.iload_n 2, 1) := by decide +kernel
theorem dX3_shown_24 : decode cX3_shown 24 = .ok (.invokevirtual 104, 3) := by decide +kernel
theorem dX3_shown_27 : decode cX3_shown 27 = .ok (.ireturn, 1) := by decide +kernel
set_option maxRecDepth 20000 in
theorem ggX3_nights_X3_sheetOf : GoodIn wsX3_nights wsX3_sheetOf := goodIn_r _ [7, 8, 79, 80, 81, 82, 83, 84, 85, 86, 87, 88] (by decide +kernel) (by decide +kernel)
set_option maxRecDepth 20000 in
theorem gX3_nights_X3_sheetOf : GoodIn wsX3_nights (wsV RX3 50 RX3 yX3_sheetOf wsX3_sheetOf) := goodIn_app (goodIn_of _ (by decide +kernel)) ggX3_nights_X3_sheetOf
set_option maxRecDepth 20000 in
theorem ggX3_nights_X3_isAnswer : GoodIn wsX3_nights wsX3_isAnswer := goodIn_r _ [12, 2, 13, 14, 15, 16, 17, 18, 79, 80, 81, 82, 83, 84, 85, 86, 87, 88, 89, 90, 91, 92, 93, 94] (by decide +kernel) (by decide +kernel)
set_option maxRecDepth 20000 in
theorem gX3_nights_X3_isAnswer : GoodIn wsX3_nights (wsV RX3 79 RX3 yX3_isAnswer wsX3_isAnswer) := goodIn_app (goodIn_of _ (by decide +kernel)) ggX3_nights_X3_isAnswer
set_option maxRecDepth 20000 in
theorem ggX3_nights_X3_within : GoodIn wsX3_nights wsX3_within := goodIn_r _ [21] (by decide +kernel) (by decide +kernel)
set_option maxRecDepth 20000 in
theorem gX3_nights_X3_within : GoodIn wsX3_nights (va_wsS RX3 54 yX3_within wsX3_within) := goodIn_app (goodIn_of _ (by decide +kernel)) ggX3_nights_X3_within
set_option maxRecDepth 20000 in
theorem ggX3_nights_X2_faultAs : GoodIn wsX3_nights wsX2_faultAs := goodIn_r _ [26, 27, 28, 29, 30, 25, 31, 95, 96, 97] (by decide +kernel) (by decide +kernel)
set_option maxRecDepth 20000 in
theorem gX3_nights_X2_faultAs : GoodIn wsX3_nights (wsV RX3 58 RX2 yX2_faultAs wsX2_faultAs) := goodIn_app (goodIn_of _ (by decide +kernel)) ggX3_nights_X2_faultAs
set_option maxRecDepth 20000 in
theorem ggX3_nights_X2_hasCells : GoodIn wsX3_nights wsX2_hasCells := goodIn_r _ [35, 36, 20, 6, 21, 95, 96, 97] (by decide +kernel) (by decide +kernel)
set_option maxRecDepth 20000 in
theorem gX3_nights_X2_hasCells : GoodIn wsX3_nights (wsV RX3 62 RX2 yX2_hasCells wsX2_hasCells) := goodIn_app (goodIn_of _ (by decide +kernel)) ggX3_nights_X2_hasCells
set_option maxRecDepth 20000 in
theorem ggX3_nights_X3_faulted : GoodIn wsX3_nights wsX3_faulted := goodIn_r _ [40, 1, 79, 80, 81, 82, 83, 84, 85, 86, 87, 88] (by decide +kernel) (by decide +kernel)
set_option maxRecDepth 20000 in
theorem gX3_nights_X3_faulted : GoodIn wsX3_nights (wsV RX3 65 RX3 yX3_faulted wsX3_faulted) := goodIn_app (goodIn_of _ (by decide +kernel)) ggX3_nights_X3_faulted
set_option maxRecDepth 20000 in
theorem ggX3_nights_X3_areAnswers : GoodIn wsX3_nights wsX3_areAnswers := goodIn_r _ [44, 45, 46, 47, 25, 48, 49, 50, 6, 51, 9, 10, 11, 12, 2, 13, 14, 15, 16, 17, 18, 95, 96, 97, 79, 80, 81, 82, 83, 84, 85, 86, 87, 88, 89, 90, 91, 92, 93, 94] (by decide +kernel) (by decide +kernel)
set_option maxRecDepth 20000 in
theorem gX3_nights_X3_areAnswers : GoodIn wsX3_nights (wsV RX3 108 RX3 yX3_areAnswers wsX3_areAnswers) := goodIn_app (goodIn_of _ (by decide +kernel)) ggX3_nights_X3_areAnswers
set_option maxRecDepth 20000 in
theorem ggX3_nights_X3_mayBe : GoodIn wsX3_nights wsX3_mayBe := goodIn_r _ [55, 2, 56, 57, 58, 16, 59, 18, 45, 46, 47, 25, 48, 49, 50, 6, 51, 60, 61, 62, 63, 64, 65, 66, 67, 68, 69, 70, 71, 72, 73, 79, 80, 81, 82, 83, 84, 85, 86, 87, 88, 89, 90, 91, 92, 93, 94, 95, 96, 97] (by decide +kernel) (by decide +kernel)
set_option maxRecDepth 20000 in
theorem gX3_nights_X3_mayBe : GoodIn wsX3_nights (wsV RX3 112 RX3 yX3_mayBe wsX3_mayBe) := goodIn_app (goodIn_of _ (by decide +kernel)) ggX3_nights_X3_mayBe
set_option maxRecDepth 20000 in
theorem ggX3_nights_X3_boundOn : GoodIn wsX3_nights wsX3_boundOn := goodIn_r _ [77, 45, 46, 47, 25, 48, 49, 50, 6, 51, 95, 96, 97] (by decide +kernel) (by decide +kernel)
set_option maxRecDepth 20000 in
theorem gX3_nights_X3_boundOn : GoodIn wsX3_nights (wsV RX3 116 RX3 yX3_boundOn wsX3_boundOn) := goodIn_app (goodIn_of _ (by decide +kernel)) ggX3_nights_X3_boundOn
set_option maxRecDepth 20000 in
theorem ggX3_nights_X2_get : GoodIn wsX3_nights wsX2_get := goodIn_r _ [48, 49, 50, 6, 51, 95, 96, 97] (by decide +kernel) (by decide +kernel)
set_option maxRecDepth 20000 in
theorem gX3_nights_X2_get : GoodIn wsX3_nights (wsV RX3 119 RX2 yX2_get wsX2_get) := goodIn_app (goodIn_of _ (by decide +kernel)) ggX3_nights_X2_get
set_option maxRecDepth 20000 in
theorem ggX3_nights_X1_shownBy : GoodIn wsX3_nights wsX1_shownBy := goodIn_r _ [67, 68, 69, 70, 71, 72, 73, 50, 6, 51, 89, 90, 91, 92, 93, 94] (by decide +kernel) (by decide +kernel)
set_option maxRecDepth 20000 in
theorem gX3_nights_X1_shownBy : GoodIn wsX3_nights (wsV RX3 104 RX1 yX1_shownBy wsX1_shownBy) := goodIn_app (goodIn_of _ (by decide +kernel)) ggX3_nights_X1_shownBy
theorem dX3_nights_0 : decode cX3_nights 0 = .ok (.aload_n 0, 1) := by decide +kernel
theorem dX3_nights_1 : decode cX3_nights 1 = .ok (.iconst 0, 1) := by decide +kernel
theorem dX3_nights_2 : decode cX3_nights 2 = .ok (.putfield 45, 3) := by decide +kernel
theorem dX3_nights_5 : decode cX3_nights 5 = .ok (.aload_n 0, 1) := by decide +kernel
theorem dX3_nights_6 : decode cX3_nights 6 = .ok (.iload_n 2, 1) := by decide +kernel
theorem dX3_nights_7 : decode cX3_nights 7 = .ok (.invokevirtual 50, 3) := by decide +kernel
theorem dX3_nights_10 : decode cX3_nights 10 = .ok (.astore 7, 2) := by decide +kernel
theorem dX3_nights_12 : decode cX3_nights 12 = .ok (.aload_n 0, 1) := by decide +kernel
theorem dX3_nights_13 : decode cX3_nights 13 = .ok (.iload_n 1, 1) := by decide +kernel
theorem dX3_nights_14 : decode cX3_nights 14 = .ok (.invokevirtual 79, 3) := by decide +kernel
theorem dX3_nights_17 : decode cX3_nights 17 = .ok (.ifCond .eq 8, 3) := by decide +kernel
theorem dX3_nights_20 : decode cX3_nights 20 = .ok (.aload 7, 2) := by decide +kernel
theorem dX3_nights_22 : decode cX3_nights 22 = .ok (.ifnonnull 5, 3) := by decide +kernel
theorem dX3_nights_25 : decode cX3_nights 25 = .ok (.iconst (-1), 1) := by decide +kernel
theorem dX3_nights_26 : decode cX3_nights 26 = .ok (.ireturn, 1) := by decide +kernel
theorem dX3_nights_27 : decode cX3_nights 27 = .ok (.iload_n 3, 1) := by decide +kernel
theorem dX3_nights_28 : decode cX3_nights 28 = .ok (.iconst 2, 1) := by decide +kernel
theorem dX3_nights_29 : decode cX3_nights 29 = .ok (.invokestatic 54, 3) := by decide +kernel
theorem dX3_nights_32 : decode cX3_nights 32 = .ok (.ifCond .eq 22, 3) := by decide +kernel
theorem dX3_nights_35 : decode cX3_nights 35 = .ok (.iload 5, 2) := by decide +kernel
theorem dX3_nights_37 : decode cX3_nights 37 = .ok (.bipush 20, 2) := by decide +kernel
theorem dX3_nights_39 : decode cX3_nights 39 = .ok (.invokestatic 54, 3) := by decide +kernel
theorem dX3_nights_42 : decode cX3_nights 42 = .ok (.ifCond .eq 12, 3) := by decide +kernel
theorem dX3_nights_45 : decode cX3_nights 45 = .ok (.iload 6, 2) := by decide +kernel
theorem dX3_nights_47 : decode cX3_nights 47 = .ok (.iconst 2, 1) := by decide +kernel
theorem dX3_nights_48 : decode cX3_nights 48 = .ok (.invokestatic 54, 3) := by decide +kernel
theorem dX3_nights_51 : decode cX3_nights 51 = .ok (.ifCond .ne 6, 3) := by decide +kernel
theorem dX3_nights_54 : decode cX3_nights 54 = .ok (.bipush (-2), 2) := by decide +kernel
theorem dX3_nights_56 : decode cX3_nights 56 = .ok (.ireturn, 1) := by decide +kernel
theorem dX3_nights_57 : decode cX3_nights 57 = .ok (.aload 7, 2) := by decide +kernel
theorem dX3_nights_59 : decode cX3_nights 59 = .ok (.iload_n 3, 1) := by decide +kernel
theorem dX3_nights_60 : decode cX3_nights 60 = .ok (.invokevirtual 58, 3) := by decide +kernel
theorem dX3_nights_63 : decode cX3_nights 63 = .ok (.istore 8, 2) := by decide +kernel
theorem dX3_nights_65 : decode cX3_nights 65 = .ok (.iload 8, 2) := by decide +kernel
theorem dX3_nights_67 : decode cX3_nights 67 = .ok (.ifCond .ne 18, 3) := by decide +kernel
theorem dX3_nights_70 : decode cX3_nights 70 = .ok (.aload 7, 2) := by decide +kernel
theorem dX3_nights_72 : decode cX3_nights 72 = .ok (.iload 4, 2) := by decide +kernel
theorem dX3_nights_74 : decode cX3_nights 74 = .ok (.iload 5, 2) := by decide +kernel
theorem dX3_nights_76 : decode cX3_nights 76 = .ok (.invokevirtual 62, 3) := by decide +kernel
theorem dX3_nights_79 : decode cX3_nights 79 = .ok (.ifCond .ne 6, 3) := by decide +kernel
theorem dX3_nights_82 : decode cX3_nights 82 = .ok (.iconst 3, 1) := by decide +kernel
theorem dX3_nights_83 : decode cX3_nights 83 = .ok (.istore 8, 2) := by decide +kernel
theorem dX3_nights_85 : decode cX3_nights 85 = .ok (.iload 8, 2) := by decide +kernel
theorem dX3_nights_87 : decode cX3_nights 87 = .ok (.ifCond .eq 10, 3) := by decide +kernel
theorem dX3_nights_90 : decode cX3_nights 90 = .ok (.aload_n 0, 1) := by decide +kernel
theorem dX3_nights_91 : decode cX3_nights 91 = .ok (.iload 8, 2) := by decide +kernel
theorem dX3_nights_93 : decode cX3_nights 93 = .ok (.invokevirtual 65, 3) := by decide +kernel
theorem dX3_nights_96 : decode cX3_nights 96 = .ok (.ireturn, 1) := by decide +kernel
theorem dX3_nights_97 : decode cX3_nights 97 = .ok (.aload_n 0, 1) := by decide +kernel
theorem dX3_nights_98 : decode cX3_nights 98 = .ok (.aload 7, 2) := by decide +kernel
theorem dX3_nights_100 : decode cX3_nights 100 = .ok (.iload 4, 2) := by decide +kernel
theorem dX3_nights_102 : decode cX3_nights 102 = .ok (.iload 5, 2) := by decide +kernel
theorem dX3_nights_104 : decode cX3_nights 104 = .ok (.invokevirtual 108, 3) := by decide +kernel
theorem dX3_nights_107 : decode cX3_nights 107 = .ok (.ifCond .ne 5, 3) := by decide +kernel
theorem dX3_nights_110 : decode cX3_nights 110 = .ok (.iconst (-1), 1) := by decide +kernel
theorem dX3_nights_111 : decode cX3_nights 111 = .ok (.ireturn, 1) := by decide +kernel
theorem dX3_nights_112 : decode cX3_nights 112 = .ok (.iload 6, 2) := by decide +kernel
theorem dX3_nights_114 : decode cX3_nights 114 = .ok (.ifCond .ne 15, 3) := by decide +kernel
theorem dX3_nights_117 : decode cX3_nights 117 = .ok (.aload_n 0, 1) := by decide +kernel
theorem dX3_nights_118 : decode cX3_nights 118 = .ok (.iload_n 1, 1) := by decide +kernel
theorem dX3_nights_119 : decode cX3_nights 119 = .ok (.aload 7, 2) := by decide +kernel
theorem dX3_nights_121 : decode cX3_nights 121 = .ok (.iload 4, 2) := by decide +kernel
theorem dX3_nights_123 : decode cX3_nights 123 = .ok (.iload 5, 2) := by decide +kernel
theorem dX3_nights_125 : decode cX3_nights 125 = .ok (.invokevirtual 112, 3) := by decide +kernel
theorem dX3_nights_128 : decode cX3_nights 128 = .ok (.ireturn, 1) := by decide +kernel
theorem dX3_nights_129 : decode cX3_nights 129 = .ok (.aload_n 0, 1) := by decide +kernel
theorem dX3_nights_130 : decode cX3_nights 130 = .ok (.iload_n 1, 1) := by decide +kernel
theorem dX3_nights_131 : decode cX3_nights 131 = .ok (.aload 7, 2) := by decide +kernel
theorem dX3_nights_133 : decode cX3_nights 133 = .ok (.iload 4, 2) := by decide +kernel
theorem dX3_nights_135 : decode cX3_nights 135 = .ok (.iload 5, 2) := by decide +kernel
theorem dX3_nights_137 : decode cX3_nights 137 = .ok (.invokevirtual 116, 3) := by decide +kernel
theorem dX3_nights_140 : decode cX3_nights 140 = .ok (.istore 9, 2) := by decide +kernel
theorem dX3_nights_142 : decode cX3_nights 142 = .ok (.iload 6, 2) := by decide +kernel
theorem dX3_nights_144 : decode cX3_nights 144 = .ok (.iconst 1, 1) := by decide +kernel
theorem dX3_nights_145 : decode cX3_nights 145 = .ok (.if_icmp .ne 6, 3) := by decide +kernel
theorem dX3_nights_148 : decode cX3_nights 148 = .ok (.iload 9, 2) := by decide +kernel
theorem dX3_nights_150 : decode cX3_nights 150 = .ok (.ireturn, 1) := by decide +kernel
theorem dX3_nights_151 : decode cX3_nights 151 = .ok (.iload 9, 2) := by decide +kernel
theorem dX3_nights_153 : decode cX3_nights 153 = .ok (.bipush (-9), 2) := by decide +kernel
theorem dX3_nights_155 : decode cX3_nights 155 = .ok (.if_icmp .ne 8, 3) := by decide +kernel
theorem dX3_nights_158 : decode cX3_nights 158 = .ok (.iload 5, 2) := by decide +kernel
theorem dX3_nights_160 : decode cX3_nights 160 = .ok (.ifCond .ne 8, 3) := by decide +kernel
theorem dX3_nights_163 : decode cX3_nights 163 = .ok (.bipush (-9), 2) := by decide +kernel
theorem dX3_nights_165 : decode cX3_nights 165 = .ok (.goto 23, 3) := by decide +kernel
theorem dX3_nights_168 : decode cX3_nights 168 = .ok (.aload_n 0, 1) := by decide +kernel
theorem dX3_nights_169 : decode cX3_nights 169 = .ok (.getfield 34, 3) := by decide +kernel
theorem dX3_nights_172 : decode cX3_nights 172 = .ok (.aload 7, 2) := by decide +kernel
theorem dX3_nights_174 : decode cX3_nights 174 = .ok (.iload 4, 2) := by decide +kernel
theorem dX3_nights_176 : decode cX3_nights 176 = .ok (.iload 5, 2) := by decide +kernel
theorem dX3_nights_178 : decode cX3_nights 178 = .ok (.iadd, 1) := by decide +kernel
theorem dX3_nights_179 : decode cX3_nights 179 = .ok (.iconst 1, 1) := by decide +kernel
theorem dX3_nights_180 : decode cX3_nights 180 = .ok (.isub, 1) := by decide +kernel
theorem dX3_nights_181 : decode cX3_nights 181 = .ok (.invokevirtual 119, 3) := by decide +kernel
theorem dX3_nights_184 : decode cX3_nights 184 = .ok (.iload_n 1, 1) := by decide +kernel
theorem dX3_nights_185 : decode cX3_nights 185 = .ok (.invokevirtual 104, 3) := by decide +kernel
theorem dX3_nights_188 : decode cX3_nights 188 = .ok (.ireturn, 1) := by decide +kernel
set_option maxRecDepth 20000 in
theorem ggX3_worst_X3_noSecret : GoodIn wsX3_worst wsX3_noSecret := goodIn_r _ [6, 1, 7, 8, 9, 10, 11, 12, 83, 84, 85, 86, 87, 88, 89, 90, 91, 92, 93, 94, 95, 96, 97, 98] (by decide +kernel) (by decide +kernel)
set_option maxRecDepth 20000 in
theorem gX3_worst_X3_noSecret : GoodIn wsX3_worst (wsV RX3 93 RX3 yX3_noSecret wsX3_noSecret) := goodIn_app (goodIn_of _ (by decide +kernel)) ggX3_worst_X3_noSecret
set_option maxRecDepth 20000 in
theorem ggX3_worst_X1_answers : GoodIn wsX3_worst wsX1_answers := goodIn_r _ [11, 12, 93, 94, 95, 96, 97, 98] (by decide +kernel) (by decide +kernel)
set_option maxRecDepth 20000 in
theorem gX3_worst_X1_answers : GoodIn wsX3_worst (wsV RX3 75 RX1 yX1_answers wsX1_answers) := goodIn_app (goodIn_of _ (by decide +kernel)) ggX3_worst_X1_answers
set_option maxRecDepth 20000 in
theorem ggX3_worst_X3_isSetOf : GoodIn wsX3_worst wsX3_isSetOf := goodIn_r _ [15] (by decide +kernel) (by decide +kernel)
set_option maxRecDepth 20000 in
theorem gX3_worst_X3_isSetOf : GoodIn wsX3_worst (va_wsS RX3 122 yX3_isSetOf wsX3_isSetOf) := goodIn_app (goodIn_of _ (by decide +kernel)) ggX3_worst_X3_isSetOf
set_option maxRecDepth 20000 in
theorem ggX3_worst_X3_planned : GoodIn wsX3_worst wsX3_planned := goodIn_r _ [19, 20, 21, 1, 22, 23, 24, 25, 26, 27, 28, 29, 30, 31, 8, 9, 10, 11, 12, 32, 33, 34, 35, 36, 37, 38, 39, 40, 41, 42, 43, 44, 45, 46, 5, 47, 48, 49, 50, 51, 52, 53, 54, 55, 56, 57, 58, 59, 60, 61, 62, 63, 64, 65, 66, 67, 68, 69, 70, 71, 72, 73, 74, 75, 76, 77, 78, 79, 80, 81, 83, 84, 85, 86, 87, 88, 89, 90, 91, 92, 99, 100, 101, 102, 103, 93, 94, 95, 96, 97, 98] (by decide +kernel) (by decide +kernel)
set_option maxRecDepth 20000 in
theorem gX3_worst_X3_planned : GoodIn wsX3_worst (wsV RX3 125 RX3 yX3_planned wsX3_planned) := goodIn_app (goodIn_of _ (by decide +kernel)) ggX3_worst_X3_planned
set_option maxRecDepth 20000 in
theorem ggX3_worst_X0_worstOf : GoodIn wsX3_worst wsX0_worstOf := goodIn_r _ [77, 29, 46, 5, 47, 99, 100, 101, 102, 103] (by decide +kernel) (by decide +kernel)
set_option maxRecDepth 20000 in
theorem gX3_worst_X0_worstOf : GoodIn wsX3_worst (wsV RX3 129 RX0 yX0_worstOf wsX0_worstOf) := goodIn_app (goodIn_of _ (by decide +kernel)) ggX3_worst_X0_worstOf
theorem dX3_worst_0 : decode cX3_worst 0 = .ok (.aload_n 0, 1) := by decide +kernel
theorem dX3_worst_1 : decode cX3_worst 1 = .ok (.invokevirtual 93, 3) := by decide +kernel
theorem dX3_worst_4 : decode cX3_worst 4 = .ok (.ifCond .eq 6, 3) := by decide +kernel
theorem dX3_worst_7 : decode cX3_worst 7 = .ok (.bipush (-3), 2) := by decide +kernel
theorem dX3_worst_9 : decode cX3_worst 9 = .ok (.ireturn, 1) := by decide +kernel
theorem dX3_worst_10 : decode cX3_worst 10 = .ok (.aload_n 0, 1) := by decide +kernel
theorem dX3_worst_11 : decode cX3_worst 11 = .ok (.getfield 34, 3) := by decide +kernel
theorem dX3_worst_14 : decode cX3_worst 14 = .ok (.invokevirtual 75, 3) := by decide +kernel
theorem dX3_worst_17 : decode cX3_worst 17 = .ok (.iload_n 1, 1) := by decide +kernel
theorem dX3_worst_18 : decode cX3_worst 18 = .ok (.invokestatic 122, 3) := by decide +kernel
theorem dX3_worst_21 : decode cX3_worst 21 = .ok (.ifCond .ne 6, 3) := by decide +kernel
theorem dX3_worst_24 : decode cX3_worst 24 = .ok (.bipush (-2), 2) := by decide +kernel
theorem dX3_worst_26 : decode cX3_worst 26 = .ok (.ireturn, 1) := by decide +kernel
theorem dX3_worst_27 : decode cX3_worst 27 = .ok (.aload_n 0, 1) := by decide +kernel
theorem dX3_worst_28 : decode cX3_worst 28 = .ok (.invokevirtual 125, 3) := by decide +kernel
theorem dX3_worst_31 : decode cX3_worst 31 = .ok (.iload_n 1, 1) := by decide +kernel
theorem dX3_worst_32 : decode cX3_worst 32 = .ok (.invokevirtual 129, 3) := by decide +kernel
theorem dX3_worst_35 : decode cX3_worst 35 = .ok (.ireturn, 1) := by decide +kernel
set_option maxRecDepth 20000 in
theorem ggX3_ask_X3_noSecret : GoodIn wsX3_ask wsX3_noSecret := goodIn_r _ [6, 1, 7, 8, 9, 10, 11, 12, 86, 87, 88, 89, 90, 91, 92, 93, 94, 95, 96, 97, 98, 99, 100, 101] (by decide +kernel) (by decide +kernel)
set_option maxRecDepth 20000 in
theorem gX3_ask_X3_noSecret : GoodIn wsX3_ask (wsV RX3 93 RX3 yX3_noSecret wsX3_noSecret) := goodIn_app (goodIn_of _ (by decide +kernel)) ggX3_ask_X3_noSecret
set_option maxRecDepth 20000 in
theorem ggX3_ask_X1_answers : GoodIn wsX3_ask wsX1_answers := goodIn_r _ [11, 12, 96, 97, 98, 99, 100, 101] (by decide +kernel) (by decide +kernel)
set_option maxRecDepth 20000 in
theorem gX3_ask_X1_answers : GoodIn wsX3_ask (wsV RX3 75 RX1 yX1_answers wsX1_answers) := goodIn_app (goodIn_of _ (by decide +kernel)) ggX3_ask_X1_answers
set_option maxRecDepth 20000 in
theorem ggX3_ask_X3_isSetOf : GoodIn wsX3_ask wsX3_isSetOf := goodIn_r _ [15] (by decide +kernel) (by decide +kernel)
set_option maxRecDepth 20000 in
theorem gX3_ask_X3_isSetOf : GoodIn wsX3_ask (va_wsS RX3 122 yX3_isSetOf wsX3_isSetOf) := goodIn_app (goodIn_of _ (by decide +kernel)) ggX3_ask_X3_isSetOf
set_option maxRecDepth 20000 in
theorem ggX3_ask_X3_planned : GoodIn wsX3_ask wsX3_planned := goodIn_r _ [19, 20, 21, 1, 22, 23, 24, 25, 26, 27, 28, 29, 30, 31, 8, 9, 10, 11, 12, 32, 33, 34, 35, 36, 37, 38, 39, 40, 41, 42, 43, 44, 45, 46, 5, 47, 48, 49, 50, 51, 52, 53, 54, 55, 56, 57, 58, 59, 60, 61, 62, 63, 64, 65, 66, 67, 68, 69, 70, 71, 72, 73, 74, 75, 76, 77, 78, 79, 80, 81, 86, 87, 88, 89, 90, 91, 92, 93, 94, 95, 102, 103, 104, 105, 106, 96, 97, 98, 99, 100, 101] (by decide +kernel) (by decide +kernel)
set_option maxRecDepth 20000 in
theorem gX3_ask_X3_planned : GoodIn wsX3_ask (wsV RX3 125 RX3 yX3_planned wsX3_planned) := goodIn_app (goodIn_of _ (by decide +kernel)) ggX3_ask_X3_planned
set_option maxRecDepth 20000 in
theorem ggX3_ask_X0_askOf : GoodIn wsX3_ask wsX0_askOf := goodIn_r _ [85, 61, 46, 5, 47, 102, 103, 104, 105, 106] (by decide +kernel) (by decide +kernel)
set_option maxRecDepth 20000 in
theorem gX3_ask_X0_askOf : GoodIn wsX3_ask (wsV RX3 132 RX0 yX0_askOf wsX0_askOf) := goodIn_app (goodIn_of _ (by decide +kernel)) ggX3_ask_X0_askOf
theorem dX3_ask_0 : decode cX3_ask 0 = .ok (.aload_n 0, 1) := by decide +kernel
theorem dX3_ask_1 : decode cX3_ask 1 = .ok (.invokevirtual 93, 3) := by decide +kernel
theorem dX3_ask_4 : decode cX3_ask 4 = .ok (.ifCond .eq 6, 3) := by decide +kernel
theorem dX3_ask_7 : decode cX3_ask 7 = .ok (.bipush (-3), 2) := by decide +kernel
theorem dX3_ask_9 : decode cX3_ask 9 = .ok (.ireturn, 1) := by decide +kernel
theorem dX3_ask_10 : decode cX3_ask 10 = .ok (.aload_n 0, 1) := by decide +kernel
theorem dX3_ask_11 : decode cX3_ask 11 = .ok (.getfield 34, 3) := by decide +kernel
theorem dX3_ask_14 : decode cX3_ask 14 = .ok (.invokevirtual 75, 3) := by decide +kernel
theorem dX3_ask_17 : decode cX3_ask 17 = .ok (.iload_n 1, 1) := by decide +kernel
theorem dX3_ask_18 : decode cX3_ask 18 = .ok (.invokestatic 122, 3) := by decide +kernel
theorem dX3_ask_21 : decode cX3_ask 21 = .ok (.ifCond .ne 6, 3) := by decide +kernel
theorem dX3_ask_24 : decode cX3_ask 24 = .ok (.bipush (-2), 2) := by decide +kernel
theorem dX3_ask_26 : decode cX3_ask 26 = .ok (.ireturn, 1) := by decide +kernel
theorem dX3_ask_27 : decode cX3_ask 27 = .ok (.aload_n 0, 1) := by decide +kernel
theorem dX3_ask_28 : decode cX3_ask 28 = .ok (.invokevirtual 125, 3) := by decide +kernel
theorem dX3_ask_31 : decode cX3_ask 31 = .ok (.iload_n 1, 1) := by decide +kernel
theorem dX3_ask_32 : decode cX3_ask 32 = .ok (.invokevirtual 132, 3) := by decide +kernel
theorem dX3_ask_35 : decode cX3_ask 35 = .ok (.ireturn, 1) := by decide +kernel
set_option maxRecDepth 20000 in
theorem ggX3_mean_X3_noSecret : GoodIn wsX3_mean wsX3_noSecret := goodIn_r _ [7, 1, 8, 9, 10, 11, 12, 13, 91, 92, 93, 94, 95, 96, 97, 98, 99, 100, 101, 102, 103, 104, 105, 106] (by decide +kernel) (by decide +kernel)
set_option maxRecDepth 20000 in
theorem gX3_mean_X3_noSecret : GoodIn wsX3_mean (wsV RX3 93 RX3 yX3_noSecret wsX3_noSecret) := goodIn_app (goodIn_of _ (by decide +kernel)) ggX3_mean_X3_noSecret
set_option maxRecDepth 20000 in
theorem ggX3_mean_X1_answers : GoodIn wsX3_mean wsX1_answers := goodIn_r _ [12, 13, 101, 102, 103, 104, 105, 106] (by decide +kernel) (by decide +kernel)
set_option maxRecDepth 20000 in
theorem gX3_mean_X1_answers : GoodIn wsX3_mean (wsV RX3 75 RX1 yX1_answers wsX1_answers) := goodIn_app (goodIn_of _ (by decide +kernel)) ggX3_mean_X1_answers
set_option maxRecDepth 20000 in
theorem ggX3_mean_X3_isSetOf : GoodIn wsX3_mean wsX3_isSetOf := goodIn_r _ [16] (by decide +kernel) (by decide +kernel)
set_option maxRecDepth 20000 in
theorem gX3_mean_X3_isSetOf : GoodIn wsX3_mean (va_wsS RX3 122 yX3_isSetOf wsX3_isSetOf) := goodIn_app (goodIn_of _ (by decide +kernel)) ggX3_mean_X3_isSetOf
set_option maxRecDepth 20000 in
theorem ggX3_mean_X3_within : GoodIn wsX3_mean wsX3_within := goodIn_r _ [19] (by decide +kernel) (by decide +kernel)
set_option maxRecDepth 20000 in
theorem gX3_mean_X3_within : GoodIn wsX3_mean (va_wsS RX3 54 yX3_within wsX3_within) := goodIn_app (goodIn_of _ (by decide +kernel)) ggX3_mean_X3_within
set_option maxRecDepth 20000 in
theorem ggX3_mean_X3_planned : GoodIn wsX3_mean wsX3_planned := goodIn_r _ [23, 24, 25, 1, 26, 27, 28, 29, 30, 31, 32, 33, 34, 35, 9, 10, 11, 12, 13, 36, 37, 38, 39, 40, 41, 42, 43, 44, 45, 46, 47, 48, 49, 50, 6, 51, 52, 53, 54, 55, 56, 57, 58, 59, 60, 61, 62, 63, 64, 65, 66, 67, 68, 69, 70, 71, 72, 73, 74, 75, 76, 77, 78, 79, 80, 81, 82, 83, 84, 85, 91, 92, 93, 94, 95, 96, 97, 98, 99, 100, 107, 108, 109, 110, 111, 101, 102, 103, 104, 105, 106] (by decide +kernel) (by decide +kernel)
set_option maxRecDepth 20000 in
theorem gX3_mean_X3_planned : GoodIn wsX3_mean (wsV RX3 125 RX3 yX3_planned wsX3_planned) := goodIn_app (goodIn_of _ (by decide +kernel)) ggX3_mean_X3_planned
set_option maxRecDepth 20000 in
theorem ggX3_mean_X0_nightsOf : GoodIn wsX3_mean wsX0_nightsOf := goodIn_r _ [85, 34, 50, 6, 51, 107, 108, 109, 110, 111] (by decide +kernel) (by decide +kernel)
set_option maxRecDepth 20000 in
theorem gX3_mean_X0_nightsOf : GoodIn wsX3_mean (wsV RX3 137 RX0 yX0_nightsOf wsX0_nightsOf) := goodIn_app (goodIn_of _ (by decide +kernel)) ggX3_mean_X0_nightsOf
set_option maxRecDepth 20000 in
theorem ggX3_mean_J6_bitCount_0f7a4 : GoodIn wsX3_mean wsJ6_bitCount_0f7a4 := goodIn_r _ [72, 73, 74, 75] (by decide +kernel) (by decide +kernel)
set_option maxRecDepth 20000 in
theorem gX3_mean_J6_bitCount_0f7a4 : GoodIn wsX3_mean (va_wsS RX3 140 yJ6_bitCount_0f7a4 wsJ6_bitCount_0f7a4) := goodIn_app (goodIn_of _ (by decide +kernel)) ggX3_mean_J6_bitCount_0f7a4
set_option maxRecDepth 20000 in
theorem ggX3_mean_X3_shareNumber : GoodIn wsX3_mean wsX3_shareNumber := goodIn_r _ [90] (by decide +kernel) (by decide +kernel)
set_option maxRecDepth 20000 in
theorem gX3_mean_X3_shareNumber : GoodIn wsX3_mean (va_wsS RX3 145 yX3_shareNumber wsX3_shareNumber) := goodIn_app (goodIn_of _ (by decide +kernel)) ggX3_mean_X3_shareNumber
theorem dX3_mean_0 : decode cX3_mean 0 = .ok (.aload_n 0, 1) := by decide +kernel
theorem dX3_mean_1 : decode cX3_mean 1 = .ok (.invokevirtual 93, 3) := by decide +kernel
theorem dX3_mean_4 : decode cX3_mean 4 = .ok (.ifCond .ne 29, 3) := by decide +kernel
theorem dX3_mean_7 : decode cX3_mean 7 = .ok (.aload_n 0, 1) := by decide +kernel
theorem dX3_mean_8 : decode cX3_mean 8 = .ok (.getfield 34, 3) := by decide +kernel
theorem dX3_mean_11 : decode cX3_mean 11 = .ok (.invokevirtual 75, 3) := by decide +kernel
theorem dX3_mean_14 : decode cX3_mean 14 = .ok (.iload_n 1, 1) := by decide +kernel
theorem dX3_mean_15 : decode cX3_mean 15 = .ok (.invokestatic 122, 3) := by decide +kernel
theorem dX3_mean_18 : decode cX3_mean 18 = .ok (.ifCond .eq 15, 3) := by decide +kernel
theorem dX3_mean_21 : decode cX3_mean 21 = .ok (.iload_n 1, 1) := by decide +kernel
theorem dX3_mean_22 : decode cX3_mean 22 = .ok (.ifCond .eq 11, 3) := by decide +kernel
theorem dX3_mean_25 : decode cX3_mean 25 = .ok (.iload_n 2, 1) := by decide +kernel
theorem dX3_mean_26 : decode cX3_mean 26 = .ok (.iconst 1, 1) := by decide +kernel
theorem dX3_mean_27 : decode cX3_mean 27 = .ok (.invokestatic 54, 3) := by decide +kernel
theorem dX3_mean_30 : decode cX3_mean 30 = .ok (.ifCond .ne 7, 3) := by decide +kernel
theorem dX3_mean_33 : decode cX3_mean 33 = .ok (.ldc2_w 135, 3) := by decide +kernel
theorem dX3_mean_36 : decode cX3_mean 36 = .ok (.lreturn, 1) := by decide +kernel
theorem dX3_mean_37 : decode cX3_mean 37 = .ok (.aload_n 0, 1) := by decide +kernel
theorem dX3_mean_38 : decode cX3_mean 38 = .ok (.invokevirtual 125, 3) := by decide +kernel
theorem dX3_mean_41 : decode cX3_mean 41 = .ok (.iload_n 1, 1) := by decide +kernel
theorem dX3_mean_42 : decode cX3_mean 42 = .ok (.invokevirtual 137, 3) := by decide +kernel
theorem dX3_mean_45 : decode cX3_mean 45 = .ok (.iload_n 1, 1) := by decide +kernel
theorem dX3_mean_46 : decode cX3_mean 46 = .ok (.invokestatic 140, 3) := by decide +kernel
theorem dX3_mean_49 : decode cX3_mean 49 = .ok (.iload_n 2, 1) := by decide +kernel
theorem dX3_mean_50 : decode cX3_mean 50 = .ok (.invokestatic 145, 3) := by decide +kernel
theorem dX3_mean_53 : decode cX3_mean 53 = .ok (.lreturn, 1) := by decide +kernel
set_option maxRecDepth 20000 in
theorem ggX3_parts_X3_isAnswer : GoodIn wsX3_parts wsX3_isAnswer := goodIn_r _ [6, 1, 7, 8, 9, 10, 11, 12, 35, 36, 37, 38, 39, 40, 41, 42, 43, 44, 45, 46, 47, 48, 49, 50] (by decide +kernel) (by decide +kernel)
set_option maxRecDepth 20000 in
theorem gX3_parts_X3_isAnswer : GoodIn wsX3_parts (wsV RX3 79 RX3 yX3_isAnswer wsX3_isAnswer) := goodIn_app (goodIn_of _ (by decide +kernel)) ggX3_parts_X3_isAnswer
set_option maxRecDepth 20000 in
theorem ggX3_parts_X1_answers : GoodIn wsX3_parts wsX1_answers := goodIn_r _ [11, 12, 45, 46, 47, 48, 49, 50] (by decide +kernel) (by decide +kernel)
set_option maxRecDepth 20000 in
theorem gX3_parts_X1_answers : GoodIn wsX3_parts (wsV RX3 75 RX1 yX1_answers wsX1_answers) := goodIn_app (goodIn_of _ (by decide +kernel)) ggX3_parts_X1_answers
set_option maxRecDepth 20000 in
theorem ggX3_parts_X3_isSetOf : GoodIn wsX3_parts wsX3_isSetOf := goodIn_r _ [15] (by decide +kernel) (by decide +kernel)
set_option maxRecDepth 20000 in
theorem gX3_parts_X3_isSetOf : GoodIn wsX3_parts (va_wsS RX3 122 yX3_isSetOf wsX3_isSetOf) := goodIn_app (goodIn_of _ (by decide +kernel)) ggX3_parts_X3_isSetOf
set_option maxRecDepth 20000 in
theorem ggX3_parts_X3_has : GoodIn wsX3_parts wsX3_has := goodIn_r _ [18] (by decide +kernel) (by decide +kernel)
set_option maxRecDepth 20000 in
theorem gX3_parts_X3_has : GoodIn wsX3_parts (va_wsS RX3 149 yX3_has wsX3_has) := goodIn_app (goodIn_of _ (by decide +kernel)) ggX3_parts_X3_has
set_option maxRecDepth 20000 in
theorem ggX3_parts_X1_alike : GoodIn wsX3_parts wsX1_alike := goodIn_r _ [22, 12, 23, 24, 25, 10, 26, 27, 28, 29, 30, 31, 32, 33, 5, 34, 45, 46, 47, 48, 49, 50] (by decide +kernel) (by decide +kernel)
set_option maxRecDepth 20000 in
theorem gX3_parts_X1_alike : GoodIn wsX3_parts (wsV RX3 152 RX1 yX1_alike wsX1_alike) := goodIn_app (goodIn_of _ (by decide +kernel)) ggX3_parts_X1_alike
theorem dX3_parts_0 : decode cX3_parts 0 = .ok (.aload_n 0, 1) := by decide +kernel
theorem dX3_parts_1 : decode cX3_parts 1 = .ok (.iload_n 1, 1) := by decide +kernel
theorem dX3_parts_2 : decode cX3_parts 2 = .ok (.invokevirtual 79, 3) := by decide +kernel
theorem dX3_parts_5 : decode cX3_parts 5 = .ok (.ifCond .ne 5, 3) := by decide +kernel
theorem dX3_parts_8 : decode cX3_parts 8 = .ok (.iconst (-1), 1) := by decide +kernel
theorem dX3_parts_9 : decode cX3_parts 9 = .ok (.ireturn, 1) := by decide +kernel
theorem dX3_parts_10 : decode cX3_parts 10 = .ok (.aload_n 0, 1) := by decide +kernel
theorem dX3_parts_11 : decode cX3_parts 11 = .ok (.getfield 34, 3) := by decide +kernel
theorem dX3_parts_14 : decode cX3_parts 14 = .ok (.invokevirtual 75, 3) := by decide +kernel
theorem dX3_parts_17 : decode cX3_parts 17 = .ok (.iload_n 2, 1) := by decide +kernel
theorem dX3_parts_18 : decode cX3_parts 18 = .ok (.invokestatic 122, 3) := by decide +kernel
theorem dX3_parts_21 : decode cX3_parts 21 = .ok (.ifCond .ne 6, 3) := by decide +kernel
theorem dX3_parts_24 : decode cX3_parts 24 = .ok (.bipush (-2), 2) := by decide +kernel
theorem dX3_parts_26 : decode cX3_parts 26 = .ok (.ireturn, 1) := by decide +kernel
theorem dX3_parts_27 : decode cX3_parts 27 = .ok (.iconst 0, 1) := by decide +kernel
theorem dX3_parts_28 : decode cX3_parts 28 = .ok (.istore_n 3, 1) := by decide +kernel
theorem dX3_parts_29 : decode cX3_parts 29 = .ok (.iload_n 2, 1) := by decide +kernel
theorem dX3_parts_30 : decode cX3_parts 30 = .ok (.istore 4, 2) := by decide +kernel
theorem dX3_parts_32 : decode cX3_parts 32 = .ok (.iconst 0, 1) := by decide +kernel
theorem dX3_parts_33 : decode cX3_parts 33 = .ok (.istore 5, 2) := by decide +kernel
theorem dX3_parts_35 : decode cX3_parts 35 = .ok (.iload 5, 2) := by decide +kernel
theorem dX3_parts_37 : decode cX3_parts 37 = .ok (.aload_n 0, 1) := by decide +kernel
theorem dX3_parts_38 : decode cX3_parts 38 = .ok (.getfield 34, 3) := by decide +kernel
theorem dX3_parts_41 : decode cX3_parts 41 = .ok (.invokevirtual 75, 3) := by decide +kernel
theorem dX3_parts_44 : decode cX3_parts 44 = .ok (.if_icmp .ge 39, 3) := by decide +kernel
theorem dX3_parts_47 : decode cX3_parts 47 = .ok (.iload 4, 2) := by decide +kernel
theorem dX3_parts_49 : decode cX3_parts 49 = .ok (.iload 5, 2) := by decide +kernel
theorem dX3_parts_51 : decode cX3_parts 51 = .ok (.invokestatic 149, 3) := by decide +kernel
theorem dX3_parts_54 : decode cX3_parts 54 = .ok (.ifCond .eq 23, 3) := by decide +kernel
theorem dX3_parts_57 : decode cX3_parts 57 = .ok (.iload 4, 2) := by decide +kernel
theorem dX3_parts_59 : decode cX3_parts 59 = .ok (.aload_n 0, 1) := by decide +kernel
theorem dX3_parts_60 : decode cX3_parts 60 = .ok (.getfield 34, 3) := by decide +kernel
theorem dX3_parts_63 : decode cX3_parts 63 = .ok (.iload_n 1, 1) := by decide +kernel
theorem dX3_parts_64 : decode cX3_parts 64 = .ok (.iload 5, 2) := by decide +kernel
theorem dX3_parts_66 : decode cX3_parts 66 = .ok (.invokevirtual 152, 3) := by decide +kernel
theorem dX3_parts_69 : decode cX3_parts 69 = .ok (.iconst (-1), 1) := by decide +kernel
theorem dX3_parts_70 : decode cX3_parts 70 = .ok (.ixor, 1) := by decide +kernel
theorem dX3_parts_71 : decode cX3_parts 71 = .ok (.iand, 1) := by decide +kernel
theorem dX3_parts_72 : decode cX3_parts 72 = .ok (.istore 4, 2) := by decide +kernel
theorem dX3_parts_74 : decode cX3_parts 74 = .ok (.iinc 3 1, 3) := by decide +kernel
theorem dX3_parts_77 : decode cX3_parts 77 = .ok (.iinc 5 1, 3) := by decide +kernel
theorem dX3_parts_80 : decode cX3_parts 80 = .ok (.goto (-45), 3) := by decide +kernel
theorem dX3_parts_83 : decode cX3_parts 83 = .ok (.iload_n 3, 1) := by decide +kernel
theorem dX3_parts_84 : decode cX3_parts 84 = .ok (.ireturn, 1) := by decide +kernel
set_option maxRecDepth 20000 in
theorem ggX3_months_X3_noSecret : GoodIn wsX3_months wsX3_noSecret := goodIn_r _ [6, 1, 7, 8, 9, 10, 11, 12, 36, 37, 38, 39, 40, 41, 42, 43, 44, 45, 46, 47, 48, 49, 50, 51] (by decide +kernel) (by decide +kernel)
set_option maxRecDepth 20000 in
theorem gX3_months_X3_noSecret : GoodIn wsX3_months (wsV RX3 93 RX3 yX3_noSecret wsX3_noSecret) := goodIn_app (goodIn_of _ (by decide +kernel)) ggX3_months_X3_noSecret
set_option maxRecDepth 20000 in
theorem ggX3_months_X1_pillars : GoodIn wsX3_months wsX1_pillars := goodIn_r _ [16, 17, 46, 47, 48, 49, 50, 51] (by decide +kernel) (by decide +kernel)
set_option maxRecDepth 20000 in
theorem gX3_months_X1_pillars : GoodIn wsX3_months (wsV RX3 155 RX1 yX1_pillars wsX1_pillars) := goodIn_app (goodIn_of _ (by decide +kernel)) ggX3_months_X1_pillars
set_option maxRecDepth 20000 in
theorem ggX3_months_X3_isSetOf : GoodIn wsX3_months wsX3_isSetOf := goodIn_r _ [20] (by decide +kernel) (by decide +kernel)
set_option maxRecDepth 20000 in
theorem gX3_months_X3_isSetOf : GoodIn wsX3_months (va_wsS RX3 122 yX3_isSetOf wsX3_isSetOf) := goodIn_app (goodIn_of _ (by decide +kernel)) ggX3_months_X3_isSetOf
set_option maxRecDepth 20000 in
theorem ggX3_months_X3_has : GoodIn wsX3_months wsX3_has := goodIn_r _ [23] (by decide +kernel) (by decide +kernel)
set_option maxRecDepth 20000 in
theorem gX3_months_X3_has : GoodIn wsX3_months (va_wsS RX3 149 yX3_has wsX3_has) := goodIn_app (goodIn_of _ (by decide +kernel)) ggX3_months_X3_has
set_option maxRecDepth 20000 in
theorem ggX3_months_X1_weightOf : GoodIn wsX3_months wsX1_weightOf := goodIn_r _ [27, 28, 29, 5, 30, 46, 47, 48, 49, 50, 51] (by decide +kernel) (by decide +kernel)
set_option maxRecDepth 20000 in
theorem gX3_months_X1_weightOf : GoodIn wsX3_months (wsV RX3 158 RX1 yX1_weightOf wsX1_weightOf) := goodIn_app (goodIn_of _ (by decide +kernel)) ggX3_months_X1_weightOf
set_option maxRecDepth 20000 in
theorem ggX3_months_X1_growth : GoodIn wsX3_months wsX1_growth := goodIn_r _ [34, 35, 46, 47, 48, 49, 50, 51] (by decide +kernel) (by decide +kernel)
set_option maxRecDepth 20000 in
theorem gX3_months_X1_growth : GoodIn wsX3_months (wsV RX3 97 RX1 yX1_growth wsX1_growth) := goodIn_app (goodIn_of _ (by decide +kernel)) ggX3_months_X1_growth
theorem dX3_months_0 : decode cX3_months 0 = .ok (.aload_n 0, 1) := by decide +kernel
theorem dX3_months_1 : decode cX3_months 1 = .ok (.invokevirtual 93, 3) := by decide +kernel
theorem dX3_months_4 : decode cX3_months 4 = .ok (.ifCond .eq 6, 3) := by decide +kernel
theorem dX3_months_7 : decode cX3_months 7 = .ok (.bipush (-3), 2) := by decide +kernel
theorem dX3_months_9 : decode cX3_months 9 = .ok (.ireturn, 1) := by decide +kernel
theorem dX3_months_10 : decode cX3_months 10 = .ok (.aload_n 0, 1) := by decide +kernel
theorem dX3_months_11 : decode cX3_months 11 = .ok (.getfield 34, 3) := by decide +kernel
theorem dX3_months_14 : decode cX3_months 14 = .ok (.invokevirtual 155, 3) := by decide +kernel
theorem dX3_months_17 : decode cX3_months 17 = .ok (.iload_n 1, 1) := by decide +kernel
theorem dX3_months_18 : decode cX3_months 18 = .ok (.invokestatic 122, 3) := by decide +kernel
theorem dX3_months_21 : decode cX3_months 21 = .ok (.ifCond .ne 6, 3) := by decide +kernel
theorem dX3_months_24 : decode cX3_months 24 = .ok (.bipush (-2), 2) := by decide +kernel
theorem dX3_months_26 : decode cX3_months 26 = .ok (.ireturn, 1) := by decide +kernel
theorem dX3_months_27 : decode cX3_months 27 = .ok (.iconst 0, 1) := by decide +kernel
theorem dX3_months_28 : decode cX3_months 28 = .ok (.istore_n 2, 1) := by decide +kernel
theorem dX3_months_29 : decode cX3_months 29 = .ok (.iconst 0, 1) := by decide +kernel
theorem dX3_months_30 : decode cX3_months 30 = .ok (.istore_n 3, 1) := by decide +kernel
theorem dX3_months_31 : decode cX3_months 31 = .ok (.iload_n 3, 1) := by decide +kernel
theorem dX3_months_32 : decode cX3_months 32 = .ok (.aload_n 0, 1) := by decide +kernel
theorem dX3_months_33 : decode cX3_months 33 = .ok (.getfield 34, 3) := by decide +kernel
theorem dX3_months_36 : decode cX3_months 36 = .ok (.invokevirtual 155, 3) := by decide +kernel
theorem dX3_months_39 : decode cX3_months 39 = .ok (.if_icmp .ge 28, 3) := by decide +kernel
theorem dX3_months_42 : decode cX3_months 42 = .ok (.iload_n 1, 1) := by decide +kernel
theorem dX3_months_43 : decode cX3_months 43 = .ok (.iload_n 3, 1) := by decide +kernel
theorem dX3_months_44 : decode cX3_months 44 = .ok (.invokestatic 149, 3) := by decide +kernel
theorem dX3_months_47 : decode cX3_months 47 = .ok (.ifCond .eq 14, 3) := by decide +kernel
theorem dX3_months_50 : decode cX3_months 50 = .ok (.iload_n 2, 1) := by decide +kernel
theorem dX3_months_51 : decode cX3_months 51 = .ok (.aload_n 0, 1) := by decide +kernel
theorem dX3_months_52 : decode cX3_months 52 = .ok (.getfield 34, 3) := by decide +kernel
theorem dX3_months_55 : decode cX3_months 55 = .ok (.iload_n 3, 1) := by decide +kernel
theorem dX3_months_56 : decode cX3_months 56 = .ok (.invokevirtual 158, 3) := by decide +kernel
theorem dX3_months_59 : decode cX3_months 59 = .ok (.iadd, 1) := by decide +kernel
theorem dX3_months_60 : decode cX3_months 60 = .ok (.istore_n 2, 1) := by decide +kernel
theorem dX3_months_61 : decode cX3_months 61 = .ok (.iinc 3 1, 3) := by decide +kernel
theorem dX3_months_64 : decode cX3_months 64 = .ok (.goto (-33), 3) := by decide +kernel
theorem dX3_months_67 : decode cX3_months 67 = .ok (.iconst 0, 1) := by decide +kernel
theorem dX3_months_68 : decode cX3_months 68 = .ok (.istore_n 3, 1) := by decide +kernel
theorem dX3_months_69 : decode cX3_months 69 = .ok (.iload_n 3, 1) := by decide +kernel
theorem dX3_months_70 : decode cX3_months 70 = .ok (.bipush 99, 2) := by decide +kernel
theorem dX3_months_72 : decode cX3_months 72 = .ok (.if_icmp .gt 24, 3) := by decide +kernel
theorem dX3_months_75 : decode cX3_months 75 = .ok (.aload_n 0, 1) := by decide +kernel
theorem dX3_months_76 : decode cX3_months 76 = .ok (.getfield 34, 3) := by decide +kernel
theorem dX3_months_79 : decode cX3_months 79 = .ok (.invokevirtual 97, 3) := by decide +kernel
theorem dX3_months_82 : decode cX3_months 82 = .ok (.iload_n 3, 1) := by decide +kernel
theorem dX3_months_83 : decode cX3_months 83 = .ok (.imul, 1) := by decide +kernel
theorem dX3_months_84 : decode cX3_months 84 = .ok (.iload_n 2, 1) := by decide +kernel
theorem dX3_months_85 : decode cX3_months 85 = .ok (.if_icmp .lt 5, 3) := by decide +kernel
theorem dX3_months_88 : decode cX3_months 88 = .ok (.iload_n 3, 1) := by decide +kernel
theorem dX3_months_89 : decode cX3_months 89 = .ok (.ireturn, 1) := by decide +kernel
theorem dX3_months_90 : decode cX3_months 90 = .ok (.iinc 3 1, 3) := by decide +kernel
theorem dX3_months_93 : decode cX3_months 93 = .ok (.goto (-24), 3) := by decide +kernel
theorem dX3_months_96 : decode cX3_months 96 = .ok (.bipush (-9), 2) := by decide +kernel
theorem dX3_months_98 : decode cX3_months 98 = .ok (.ireturn, 1) := by decide +kernel
set_option maxRecDepth 20000 in
theorem ggX3_down_X3_noSecret : GoodIn wsX3_down wsX3_noSecret := goodIn_r _ [6, 1, 7, 8, 9, 10, 11, 12, 33, 34, 35, 36, 37, 38, 39, 40, 41, 42, 43, 44, 45, 46, 47, 48] (by decide +kernel) (by decide +kernel)
set_option maxRecDepth 20000 in
theorem gX3_down_X3_noSecret : GoodIn wsX3_down (wsV RX3 93 RX3 yX3_noSecret wsX3_noSecret) := goodIn_app (goodIn_of _ (by decide +kernel)) ggX3_down_X3_noSecret
set_option maxRecDepth 20000 in
theorem ggX3_down_X3_within : GoodIn wsX3_down wsX3_within := goodIn_r _ [15] (by decide +kernel) (by decide +kernel)
set_option maxRecDepth 20000 in
theorem gX3_down_X3_within : GoodIn wsX3_down (va_wsS RX3 54 yX3_within wsX3_within) := goodIn_app (goodIn_of _ (by decide +kernel)) ggX3_down_X3_within
set_option maxRecDepth 20000 in
theorem ggX3_down_X1_growth : GoodIn wsX3_down wsX1_growth := goodIn_r _ [19, 20, 43, 44, 45, 46, 47, 48] (by decide +kernel) (by decide +kernel)
set_option maxRecDepth 20000 in
theorem gX3_down_X1_growth : GoodIn wsX3_down (wsV RX3 97 RX1 yX1_growth wsX1_growth) := goodIn_app (goodIn_of _ (by decide +kernel)) ggX3_down_X1_growth
set_option maxRecDepth 20000 in
theorem ggX3_down_X1_pillars : GoodIn wsX3_down wsX1_pillars := goodIn_r _ [24, 25, 43, 44, 45, 46, 47, 48] (by decide +kernel) (by decide +kernel)
set_option maxRecDepth 20000 in
theorem gX3_down_X1_pillars : GoodIn wsX3_down (wsV RX3 155 RX1 yX1_pillars wsX1_pillars) := goodIn_app (goodIn_of _ (by decide +kernel)) ggX3_down_X1_pillars
set_option maxRecDepth 20000 in
theorem ggX3_down_X1_weightOf : GoodIn wsX3_down wsX1_weightOf := goodIn_r _ [29, 30, 31, 5, 32, 43, 44, 45, 46, 47, 48] (by decide +kernel) (by decide +kernel)
set_option maxRecDepth 20000 in
theorem gX3_down_X1_weightOf : GoodIn wsX3_down (wsV RX3 158 RX1 yX1_weightOf wsX1_weightOf) := goodIn_app (goodIn_of _ (by decide +kernel)) ggX3_down_X1_weightOf
theorem dX3_down_0 : decode cX3_down 0 = .ok (.aload_n 0, 1) := by decide +kernel
theorem dX3_down_1 : decode cX3_down 1 = .ok (.invokevirtual 93, 3) := by decide +kernel
theorem dX3_down_4 : decode cX3_down 4 = .ok (.ifCond .eq 6, 3) := by decide +kernel
theorem dX3_down_7 : decode cX3_down 7 = .ok (.bipush (-3), 2) := by decide +kernel
theorem dX3_down_9 : decode cX3_down 9 = .ok (.ireturn, 1) := by decide +kernel
theorem dX3_down_10 : decode cX3_down 10 = .ok (.iload_n 1, 1) := by decide +kernel
theorem dX3_down_11 : decode cX3_down 11 = .ok (.bipush 99, 2) := by decide +kernel
theorem dX3_down_13 : decode cX3_down 13 = .ok (.invokestatic 54, 3) := by decide +kernel
theorem dX3_down_16 : decode cX3_down 16 = .ok (.ifCond .ne 6, 3) := by decide +kernel
theorem dX3_down_19 : decode cX3_down 19 = .ok (.bipush (-2), 2) := by decide +kernel
theorem dX3_down_21 : decode cX3_down 21 = .ok (.ireturn, 1) := by decide +kernel
theorem dX3_down_22 : decode cX3_down 22 = .ok (.aload_n 0, 1) := by decide +kernel
theorem dX3_down_23 : decode cX3_down 23 = .ok (.getfield 34, 3) := by decide +kernel
theorem dX3_down_26 : decode cX3_down 26 = .ok (.invokevirtual 97, 3) := by decide +kernel
theorem dX3_down_29 : decode cX3_down 29 = .ok (.iload_n 1, 1) := by decide +kernel
theorem dX3_down_30 : decode cX3_down 30 = .ok (.imul, 1) := by decide +kernel
theorem dX3_down_31 : decode cX3_down 31 = .ok (.istore_n 2, 1) := by decide +kernel
theorem dX3_down_32 : decode cX3_down 32 = .ok (.iconst 0, 1) := by decide +kernel
theorem dX3_down_33 : decode cX3_down 33 = .ok (.istore_n 3, 1) := by decide +kernel
theorem dX3_down_34 : decode cX3_down 34 = .ok (.bipush (-9), 2) := by decide +kernel
theorem dX3_down_36 : decode cX3_down 36 = .ok (.istore 4, 2) := by decide +kernel
theorem dX3_down_38 : decode cX3_down 38 = .ok (.iconst 0, 1) := by decide +kernel
theorem dX3_down_39 : decode cX3_down 39 = .ok (.istore 5, 2) := by decide +kernel
theorem dX3_down_41 : decode cX3_down 41 = .ok (.iload 5, 2) := by decide +kernel
theorem dX3_down_43 : decode cX3_down 43 = .ok (.aload_n 0, 1) := by decide +kernel
theorem dX3_down_44 : decode cX3_down 44 = .ok (.getfield 34, 3) := by decide +kernel
theorem dX3_down_47 : decode cX3_down 47 = .ok (.invokevirtual 155, 3) := by decide +kernel
theorem dX3_down_50 : decode cX3_down 50 = .ok (.if_icmp .ge 79, 3) := by decide +kernel
theorem dX3_down_53 : decode cX3_down 53 = .ok (.iload 5, 2) := by decide +kernel
theorem dX3_down_55 : decode cX3_down 55 = .ok (.iconst 1, 1) := by decide +kernel
theorem dX3_down_56 : decode cX3_down 56 = .ok (.iadd, 1) := by decide +kernel
theorem dX3_down_57 : decode cX3_down 57 = .ok (.istore 6, 2) := by decide +kernel
theorem dX3_down_59 : decode cX3_down 59 = .ok (.iload 6, 2) := by decide +kernel
theorem dX3_down_61 : decode cX3_down 61 = .ok (.aload_n 0, 1) := by decide +kernel
theorem dX3_down_62 : decode cX3_down 62 = .ok (.getfield 34, 3) := by decide +kernel
theorem dX3_down_65 : decode cX3_down 65 = .ok (.invokevirtual 155, 3) := by decide +kernel
theorem dX3_down_68 : decode cX3_down 68 = .ok (.if_icmp .ge 55, 3) := by decide +kernel
theorem dX3_down_71 : decode cX3_down 71 = .ok (.aload_n 0, 1) := by decide +kernel
theorem dX3_down_72 : decode cX3_down 72 = .ok (.getfield 34, 3) := by decide +kernel
theorem dX3_down_75 : decode cX3_down 75 = .ok (.iload 5, 2) := by decide +kernel
theorem dX3_down_77 : decode cX3_down 77 = .ok (.invokevirtual 158, 3) := by decide +kernel
theorem dX3_down_80 : decode cX3_down 80 = .ok (.aload_n 0, 1) := by decide +kernel
theorem dX3_down_81 : decode cX3_down 81 = .ok (.getfield 34, 3) := by decide +kernel
theorem dX3_down_84 : decode cX3_down 84 = .ok (.iload 6, 2) := by decide +kernel
theorem dX3_down_86 : decode cX3_down 86 = .ok (.invokevirtual 158, 3) := by decide +kernel
theorem dX3_down_89 : decode cX3_down 89 = .ok (.iadd, 1) := by decide +kernel
theorem dX3_down_90 : decode cX3_down 90 = .ok (.istore 7, 2) := by decide +kernel
theorem dX3_down_92 : decode cX3_down 92 = .ok (.iload 7, 2) := by decide +kernel
theorem dX3_down_94 : decode cX3_down 94 = .ok (.iload_n 2, 1) := by decide +kernel
theorem dX3_down_95 : decode cX3_down 95 = .ok (.if_icmp .gt 22, 3) := by decide +kernel
theorem dX3_down_98 : decode cX3_down 98 = .ok (.iload 7, 2) := by decide +kernel
theorem dX3_down_100 : decode cX3_down 100 = .ok (.iload_n 3, 1) := by decide +kernel
theorem dX3_down_101 : decode cX3_down 101 = .ok (.if_icmp .le 16, 3) := by decide +kernel
theorem dX3_down_104 : decode cX3_down 104 = .ok (.iload 7, 2) := by decide +kernel
theorem dX3_down_106 : decode cX3_down 106 = .ok (.istore_n 3, 1) := by decide +kernel
theorem dX3_down_107 : decode cX3_down 107 = .ok (.bipush 10, 2) := by decide +kernel
theorem dX3_down_109 : decode cX3_down 109 = .ok (.iload 5, 2) := by decide +kernel
theorem dX3_down_111 : decode cX3_down 111 = .ok (.imul, 1) := by decide +kernel
theorem dX3_down_112 : decode cX3_down 112 = .ok (.iload 6, 2) := by decide +kernel
theorem dX3_down_114 : decode cX3_down 114 = .ok (.iadd, 1) := by decide +kernel
theorem dX3_down_115 : decode cX3_down 115 = .ok (.istore 4, 2) := by decide +kernel
theorem dX3_down_117 : decode cX3_down 117 = .ok (.iinc 6 1, 3) := by decide +kernel
theorem dX3_down_120 : decode cX3_down 120 = .ok (.goto (-61), 3) := by decide +kernel
theorem dX3_down_123 : decode cX3_down 123 = .ok (.iinc 5 1, 3) := by decide +kernel
theorem dX3_down_126 : decode cX3_down 126 = .ok (.goto (-85), 3) := by decide +kernel
theorem dX3_down_129 : decode cX3_down 129 = .ok (.iload 4, 2) := by decide +kernel
theorem dX3_down_131 : decode cX3_down 131 = .ok (.ireturn, 1) := by decide +kernel
set_option maxRecDepth 20000 in
theorem ggX3_reading_X3_isAnswer : GoodIn wsX3_reading wsX3_isAnswer := goodIn_r _ [8, 9, 10, 11, 12, 13, 14, 15, 22, 23, 24, 25, 26, 27, 28, 29, 30, 31, 32, 33, 34, 35, 36, 37] (by decide +kernel) (by decide +kernel)
set_option maxRecDepth 20000 in
theorem gX3_reading_X3_isAnswer : GoodIn wsX3_reading (wsV RX3 79 RX3 yX3_isAnswer wsX3_isAnswer) := goodIn_app (goodIn_of _ (by decide +kernel)) ggX3_reading_X3_isAnswer
set_option maxRecDepth 20000 in
theorem ggX3_reading_X3_within : GoodIn wsX3_reading wsX3_within := goodIn_r _ [18] (by decide +kernel) (by decide +kernel)
set_option maxRecDepth 20000 in
theorem gX3_reading_X3_within : GoodIn wsX3_reading (va_wsS RX3 54 yX3_within wsX3_within) := goodIn_app (goodIn_of _ (by decide +kernel)) ggX3_reading_X3_within
set_option maxRecDepth 20000 in
theorem ggX3_reading_X3_write : GoodIn wsX3_reading wsX3_write := goodIn_r _ [21] (by decide +kernel) (by decide +kernel)
set_option maxRecDepth 20000 in
theorem gX3_reading_X3_write : GoodIn wsX3_reading (va_wsS RX3 164 yX3_write wsX3_write) := goodIn_app (goodIn_of _ (by decide +kernel)) ggX3_reading_X3_write
theorem dX3_reading_0 : decode cX3_reading 0 = .ok (.aload_n 0, 1) := by decide +kernel
theorem dX3_reading_1 : decode cX3_reading 1 = .ok (.iload_n 1, 1) := by decide +kernel
theorem dX3_reading_2 : decode cX3_reading 2 = .ok (.invokevirtual 79, 3) := by decide +kernel
theorem dX3_reading_5 : decode cX3_reading 5 = .ok (.ifCond .ne 5, 3) := by decide +kernel
theorem dX3_reading_8 : decode cX3_reading 8 = .ok (.iconst (-1), 1) := by decide +kernel
theorem dX3_reading_9 : decode cX3_reading 9 = .ok (.ireturn, 1) := by decide +kernel
theorem dX3_reading_10 : decode cX3_reading 10 = .ok (.iload_n 2, 1) := by decide +kernel
theorem dX3_reading_11 : decode cX3_reading 11 = .ok (.bipush (-9), 2) := by decide +kernel
theorem dX3_reading_13 : decode cX3_reading 13 = .ok (.if_icmp .eq 15, 3) := by decide +kernel
theorem dX3_reading_16 : decode cX3_reading 16 = .ok (.iload_n 2, 1) := by decide +kernel
theorem dX3_reading_17 : decode cX3_reading 17 = .ok (.bipush 10, 2) := by decide +kernel
theorem dX3_reading_19 : decode cX3_reading 19 = .ok (.invokestatic 54, 3) := by decide +kernel
theorem dX3_reading_22 : decode cX3_reading 22 = .ok (.ifCond .ne 6, 3) := by decide +kernel
theorem dX3_reading_25 : decode cX3_reading 25 = .ok (.bipush (-2), 2) := by decide +kernel
theorem dX3_reading_27 : decode cX3_reading 27 = .ok (.ireturn, 1) := by decide +kernel
theorem dX3_reading_28 : decode cX3_reading 28 = .ok (.aload_n 0, 1) := by decide +kernel
theorem dX3_reading_29 : decode cX3_reading 29 = .ok (.getfield 161, 3) := by decide +kernel
theorem dX3_reading_32 : decode cX3_reading 32 = .ok (.bipush 8, 2) := by decide +kernel
theorem dX3_reading_34 : decode cX3_reading 34 = .ok (.if_icmp .lt 6, 3) := by decide +kernel
theorem dX3_reading_37 : decode cX3_reading 37 = .ok (.bipush (-4), 2) := by decide +kernel
theorem dX3_reading_39 : decode cX3_reading 39 = .ok (.ireturn, 1) := by decide +kernel
theorem dX3_reading_40 : decode cX3_reading 40 = .ok (.aload_n 0, 1) := by decide +kernel
theorem dX3_reading_41 : decode cX3_reading 41 = .ok (.getfield 24, 3) := by decide +kernel
theorem dX3_reading_44 : decode cX3_reading 44 = .ok (.aload_n 0, 1) := by decide +kernel
theorem dX3_reading_45 : decode cX3_reading 45 = .ok (.getfield 161, 3) := by decide +kernel
theorem dX3_reading_48 : decode cX3_reading 48 = .ok (.iload_n 1, 1) := by decide +kernel
theorem dX3_reading_49 : decode cX3_reading 49 = .ok (.invokestatic 164, 3) := by decide +kernel
theorem dX3_reading_52 : decode cX3_reading 52 = .ok (.aload_n 0, 1) := by decide +kernel
theorem dX3_reading_53 : decode cX3_reading 53 = .ok (.getfield 28, 3) := by decide +kernel
theorem dX3_reading_56 : decode cX3_reading 56 = .ok (.aload_n 0, 1) := by decide +kernel
theorem dX3_reading_57 : decode cX3_reading 57 = .ok (.getfield 161, 3) := by decide +kernel
theorem dX3_reading_60 : decode cX3_reading 60 = .ok (.iload_n 2, 1) := by decide +kernel
theorem dX3_reading_61 : decode cX3_reading 61 = .ok (.invokestatic 164, 3) := by decide +kernel
theorem dX3_reading_64 : decode cX3_reading 64 = .ok (.aload_n 0, 1) := by decide +kernel
theorem dX3_reading_65 : decode cX3_reading 65 = .ok (.dup, 1) := by decide +kernel
theorem dX3_reading_66 : decode cX3_reading 66 = .ok (.getfield 161, 3) := by decide +kernel
theorem dX3_reading_69 : decode cX3_reading 69 = .ok (.dup_x1, 1) := by decide +kernel
theorem dX3_reading_70 : decode cX3_reading 70 = .ok (.iconst 1, 1) := by decide +kernel
theorem dX3_reading_71 : decode cX3_reading 71 = .ok (.iadd, 1) := by decide +kernel
theorem dX3_reading_72 : decode cX3_reading 72 = .ok (.putfield 161, 3) := by decide +kernel
theorem dX3_reading_75 : decode cX3_reading 75 = .ok (.ireturn, 1) := by decide +kernel
set_option maxRecDepth 20000 in
theorem ggX3_back_X3_within : GoodIn wsX3_back wsX3_within := goodIn_r _ [5] (by decide +kernel) (by decide +kernel)
set_option maxRecDepth 20000 in
theorem gX3_back_X3_within : GoodIn wsX3_back (va_wsS RX3 54 yX3_within wsX3_within) := goodIn_app (goodIn_of _ (by decide +kernel)) ggX3_back_X3_within
theorem dX3_back_0 : decode cX3_back 0 = .ok (.iload_n 1, 1) := by decide +kernel
theorem dX3_back_1 : decode cX3_back 1 = .ok (.aload_n 0, 1) := by decide +kernel
theorem dX3_back_2 : decode cX3_back 2 = .ok (.getfield 161, 3) := by decide +kernel
theorem dX3_back_5 : decode cX3_back 5 = .ok (.invokestatic 54, 3) := by decide +kernel
theorem dX3_back_8 : decode cX3_back 8 = .ok (.ifCond .ne 6, 3) := by decide +kernel
theorem dX3_back_11 : decode cX3_back 11 = .ok (.bipush (-2), 2) := by decide +kernel
theorem dX3_back_13 : decode cX3_back 13 = .ok (.ireturn, 1) := by decide +kernel
theorem dX3_back_14 : decode cX3_back 14 = .ok (.aload_n 0, 1) := by decide +kernel
theorem dX3_back_15 : decode cX3_back 15 = .ok (.dup, 1) := by decide +kernel
theorem dX3_back_16 : decode cX3_back 16 = .ok (.getfield 161, 3) := by decide +kernel
theorem dX3_back_19 : decode cX3_back 19 = .ok (.iload_n 1, 1) := by decide +kernel
theorem dX3_back_20 : decode cX3_back 20 = .ok (.isub, 1) := by decide +kernel
theorem dX3_back_21 : decode cX3_back 21 = .ok (.putfield 161, 3) := by decide +kernel
theorem dX3_back_24 : decode cX3_back 24 = .ok (.aload_n 0, 1) := by decide +kernel
theorem dX3_back_25 : decode cX3_back 25 = .ok (.getfield 161, 3) := by decide +kernel
theorem dX3_back_28 : decode cX3_back 28 = .ok (.ireturn, 1) := by decide +kernel
set_option maxRecDepth 20000 in
theorem ggX3_left_X3_noSecret : GoodIn wsX3_left wsX3_noSecret := goodIn_r _ [5, 6, 7, 8, 9, 10, 11, 12, 37, 38, 39, 40, 41, 42, 43, 44, 45, 46, 47, 48, 49, 50, 51, 52] (by decide +kernel) (by decide +kernel)
set_option maxRecDepth 20000 in
theorem gX3_left_X3_noSecret : GoodIn wsX3_left (wsV RX3 93 RX3 yX3_noSecret wsX3_noSecret) := goodIn_app (goodIn_of _ (by decide +kernel)) ggX3_left_X3_noSecret
set_option maxRecDepth 20000 in
theorem ggX3_left_X3_truths : GoodIn wsX3_left wsX3_truths := goodIn_r _ [16, 6, 7, 8, 9, 10, 11, 12, 17, 18, 19, 4, 20, 21, 22, 23, 24, 25, 26, 27, 28, 29, 30, 31, 32, 33, 34, 35, 36, 37, 38, 39, 40, 41, 42, 43, 44, 45, 46, 47, 48, 49, 50, 51, 52] (by decide +kernel) (by decide +kernel)
set_option maxRecDepth 20000 in
theorem gX3_left_X3_truths : GoodIn wsX3_left (wsV RX3 168 RX3 yX3_truths wsX3_truths) := goodIn_app (goodIn_of _ (by decide +kernel)) ggX3_left_X3_truths
theorem dX3_left_0 : decode cX3_left 0 = .ok (.aload_n 0, 1) := by decide +kernel
theorem dX3_left_1 : decode cX3_left 1 = .ok (.invokevirtual 93, 3) := by decide +kernel
theorem dX3_left_4 : decode cX3_left 4 = .ok (.ifCond .eq 8, 3) := by decide +kernel
theorem dX3_left_7 : decode cX3_left 7 = .ok (.bipush (-3), 2) := by decide +kernel
theorem dX3_left_9 : decode cX3_left 9 = .ok (.goto 7, 3) := by decide +kernel
theorem dX3_left_12 : decode cX3_left 12 = .ok (.aload_n 0, 1) := by decide +kernel
theorem dX3_left_13 : decode cX3_left 13 = .ok (.invokevirtual 168, 3) := by decide +kernel
theorem dX3_left_16 : decode cX3_left 16 = .ok (.ireturn, 1) := by decide +kernel
set_option maxRecDepth 20000 in
theorem ggX3_kinds_X3_isAnswer : GoodIn wsX3_kinds wsX3_isAnswer := goodIn_r _ [6, 1, 7, 8, 9, 10, 11, 12, 47, 48, 49, 50, 51, 52, 53, 54, 55, 56, 57, 58, 59, 60, 61, 62] (by decide +kernel) (by decide +kernel)
set_option maxRecDepth 20000 in
theorem gX3_kinds_X3_isAnswer : GoodIn wsX3_kinds (wsV RX3 79 RX3 yX3_isAnswer wsX3_isAnswer) := goodIn_app (goodIn_of _ (by decide +kernel)) ggX3_kinds_X3_isAnswer
set_option maxRecDepth 20000 in
theorem ggX3_kinds_X1_kindOf : GoodIn wsX3_kinds wsX1_kindOf := goodIn_r _ [16, 17, 18, 5, 19, 57, 58, 59, 60, 61, 62] (by decide +kernel) (by decide +kernel)
set_option maxRecDepth 20000 in
theorem gX3_kinds_X1_kindOf : GoodIn wsX3_kinds (wsV RX3 83 RX1 yX1_kindOf wsX1_kindOf) := goodIn_app (goodIn_of _ (by decide +kernel)) ggX3_kinds_X1_kindOf
set_option maxRecDepth 20000 in
theorem ggX3_kinds_X1_setKind : GoodIn wsX3_kinds wsX1_setKind := goodIn_r _ [23, 17, 24, 5, 25, 57, 58, 59, 60, 61, 62] (by decide +kernel) (by decide +kernel)
set_option maxRecDepth 20000 in
theorem gX3_kinds_X1_setKind : GoodIn wsX3_kinds (wsV RX3 171 RX1 yX1_setKind wsX1_setKind) := goodIn_app (goodIn_of _ (by decide +kernel)) ggX3_kinds_X1_setKind
set_option maxRecDepth 20000 in
theorem ggX3_kinds_X3_truths : GoodIn wsX3_kinds wsX3_truths := goodIn_r _ [29, 1, 7, 8, 9, 10, 11, 12, 30, 31, 32, 5, 33, 34, 35, 36, 37, 18, 19, 38, 39, 40, 41, 42, 43, 44, 45, 46, 17, 47, 48, 49, 50, 51, 52, 53, 54, 55, 56, 57, 58, 59, 60, 61, 62] (by decide +kernel) (by decide +kernel)
set_option maxRecDepth 20000 in
theorem gX3_kinds_X3_truths : GoodIn wsX3_kinds (wsV RX3 168 RX3 yX3_truths wsX3_truths) := goodIn_app (goodIn_of _ (by decide +kernel)) ggX3_kinds_X3_truths
theorem dX3_kinds_0 : decode cX3_kinds 0 = .ok (.aload_n 0, 1) := by decide +kernel
theorem dX3_kinds_1 : decode cX3_kinds 1 = .ok (.iload_n 1, 1) := by decide +kernel
theorem dX3_kinds_2 : decode cX3_kinds 2 = .ok (.invokevirtual 79, 3) := by decide +kernel
theorem dX3_kinds_5 : decode cX3_kinds 5 = .ok (.ifCond .ne 5, 3) := by decide +kernel
theorem dX3_kinds_8 : decode cX3_kinds 8 = .ok (.iconst (-1), 1) := by decide +kernel
theorem dX3_kinds_9 : decode cX3_kinds 9 = .ok (.ireturn, 1) := by decide +kernel
theorem dX3_kinds_10 : decode cX3_kinds 10 = .ok (.aload_n 0, 1) := by decide +kernel
theorem dX3_kinds_11 : decode cX3_kinds 11 = .ok (.getfield 34, 3) := by decide +kernel
theorem dX3_kinds_14 : decode cX3_kinds 14 = .ok (.iload_n 1, 1) := by decide +kernel
theorem dX3_kinds_15 : decode cX3_kinds 15 = .ok (.invokevirtual 83, 3) := by decide +kernel
theorem dX3_kinds_18 : decode cX3_kinds 18 = .ok (.istore_n 2, 1) := by decide +kernel
theorem dX3_kinds_19 : decode cX3_kinds 19 = .ok (.iconst 0, 1) := by decide +kernel
theorem dX3_kinds_20 : decode cX3_kinds 20 = .ok (.istore_n 3, 1) := by decide +kernel
theorem dX3_kinds_21 : decode cX3_kinds 21 = .ok (.iconst 0, 1) := by decide +kernel
theorem dX3_kinds_22 : decode cX3_kinds 22 = .ok (.istore 4, 2) := by decide +kernel
theorem dX3_kinds_24 : decode cX3_kinds 24 = .ok (.iload 4, 2) := by decide +kernel
theorem dX3_kinds_26 : decode cX3_kinds 26 = .ok (.iconst 2, 1) := by decide +kernel
theorem dX3_kinds_27 : decode cX3_kinds 27 = .ok (.if_icmp .gt 33, 3) := by decide +kernel
theorem dX3_kinds_30 : decode cX3_kinds 30 = .ok (.aload_n 0, 1) := by decide +kernel
theorem dX3_kinds_31 : decode cX3_kinds 31 = .ok (.getfield 34, 3) := by decide +kernel
theorem dX3_kinds_34 : decode cX3_kinds 34 = .ok (.iload_n 1, 1) := by decide +kernel
theorem dX3_kinds_35 : decode cX3_kinds 35 = .ok (.iload 4, 2) := by decide +kernel
theorem dX3_kinds_37 : decode cX3_kinds 37 = .ok (.invokevirtual 171, 3) := by decide +kernel
theorem dX3_kinds_40 : decode cX3_kinds 40 = .ok (.aload_n 0, 1) := by decide +kernel
theorem dX3_kinds_41 : decode cX3_kinds 41 = .ok (.invokevirtual 168, 3) := by decide +kernel
theorem dX3_kinds_44 : decode cX3_kinds 44 = .ok (.ifCond .eq 10, 3) := by decide +kernel
theorem dX3_kinds_47 : decode cX3_kinds 47 = .ok (.iload_n 3, 1) := by decide +kernel
theorem dX3_kinds_48 : decode cX3_kinds 48 = .ok (.iconst 1, 1) := by decide +kernel
theorem dX3_kinds_49 : decode cX3_kinds 49 = .ok (.iload 4, 2) := by decide +kernel
theorem dX3_kinds_51 : decode cX3_kinds 51 = .ok (.ishl, 1) := by decide +kernel
theorem dX3_kinds_52 : decode cX3_kinds 52 = .ok (.ior, 1) := by decide +kernel
theorem dX3_kinds_53 : decode cX3_kinds 53 = .ok (.istore_n 3, 1) := by decide +kernel
theorem dX3_kinds_54 : decode cX3_kinds 54 = .ok (.iinc 4 1, 3) := by decide +kernel
theorem dX3_kinds_57 : decode cX3_kinds 57 = .ok (.goto (-33), 3) := by decide +kernel
theorem dX3_kinds_60 : decode cX3_kinds 60 = .ok (.aload_n 0, 1) := by decide +kernel
theorem dX3_kinds_61 : decode cX3_kinds 61 = .ok (.getfield 34, 3) := by decide +kernel
theorem dX3_kinds_64 : decode cX3_kinds 64 = .ok (.iload_n 1, 1) := by decide +kernel
theorem dX3_kinds_65 : decode cX3_kinds 65 = .ok (.iload_n 2, 1) := by decide +kernel
theorem dX3_kinds_66 : decode cX3_kinds 66 = .ok (.invokevirtual 171, 3) := by decide +kernel
theorem dX3_kinds_69 : decode cX3_kinds 69 = .ok (.iload_n 3, 1) := by decide +kernel
theorem dX3_kinds_70 : decode cX3_kinds 70 = .ok (.ireturn, 1) := by decide +kernel
set_option maxRecDepth 20000 in
theorem ggX3_places_X3_isAnswer : GoodIn wsX3_places wsX3_isAnswer := goodIn_r _ [6, 1, 7, 8, 9, 10, 11, 12, 47, 48, 49, 50, 51, 52, 53, 54, 55, 56, 57, 58, 59, 60, 61, 62] (by decide +kernel) (by decide +kernel)
set_option maxRecDepth 20000 in
theorem gX3_places_X3_isAnswer : GoodIn wsX3_places (wsV RX3 79 RX3 yX3_isAnswer wsX3_isAnswer) := goodIn_app (goodIn_of _ (by decide +kernel)) ggX3_places_X3_isAnswer
set_option maxRecDepth 20000 in
theorem ggX3_places_X1_placeOf : GoodIn wsX3_places wsX1_placeOf := goodIn_r _ [16, 17, 18, 5, 19, 57, 58, 59, 60, 61, 62] (by decide +kernel) (by decide +kernel)
set_option maxRecDepth 20000 in
theorem gX3_places_X1_placeOf : GoodIn wsX3_places (wsV RX3 86 RX1 yX1_placeOf wsX1_placeOf) := goodIn_app (goodIn_of _ (by decide +kernel)) ggX3_places_X1_placeOf
set_option maxRecDepth 20000 in
theorem ggX3_places_X1_setPlace : GoodIn wsX3_places wsX1_setPlace := goodIn_r _ [23, 17, 24, 5, 25, 57, 58, 59, 60, 61, 62] (by decide +kernel) (by decide +kernel)
set_option maxRecDepth 20000 in
theorem gX3_places_X1_setPlace : GoodIn wsX3_places (wsV RX3 89 RX1 yX1_setPlace wsX1_setPlace) := goodIn_app (goodIn_of _ (by decide +kernel)) ggX3_places_X1_setPlace
set_option maxRecDepth 20000 in
theorem ggX3_places_X3_truths : GoodIn wsX3_places wsX3_truths := goodIn_r _ [29, 1, 7, 8, 9, 10, 11, 12, 30, 31, 32, 5, 33, 34, 35, 36, 37, 18, 19, 38, 39, 40, 41, 17, 42, 43, 44, 45, 46, 47, 48, 49, 50, 51, 52, 53, 54, 55, 56, 57, 58, 59, 60, 61, 62] (by decide +kernel) (by decide +kernel)
set_option maxRecDepth 20000 in
theorem gX3_places_X3_truths : GoodIn wsX3_places (wsV RX3 168 RX3 yX3_truths wsX3_truths) := goodIn_app (goodIn_of _ (by decide +kernel)) ggX3_places_X3_truths
theorem dX3_places_0 : decode cX3_places 0 = .ok (.aload_n 0, 1) := by decide +kernel
theorem dX3_places_1 : decode cX3_places 1 = .ok (.iload_n 1, 1) := by decide +kernel
theorem dX3_places_2 : decode cX3_places 2 = .ok (.invokevirtual 79, 3) := by decide +kernel
theorem dX3_places_5 : decode cX3_places 5 = .ok (.ifCond .ne 5, 3) := by decide +kernel
theorem dX3_places_8 : decode cX3_places 8 = .ok (.iconst (-1), 1) := by decide +kernel
theorem dX3_places_9 : decode cX3_places 9 = .ok (.ireturn, 1) := by decide +kernel
theorem dX3_places_10 : decode cX3_places 10 = .ok (.aload_n 0, 1) := by decide +kernel
theorem dX3_places_11 : decode cX3_places 11 = .ok (.getfield 34, 3) := by decide +kernel
theorem dX3_places_14 : decode cX3_places 14 = .ok (.iload_n 1, 1) := by decide +kernel
theorem dX3_places_15 : decode cX3_places 15 = .ok (.invokevirtual 86, 3) := by decide +kernel
theorem dX3_places_18 : decode cX3_places 18 = .ok (.istore_n 2, 1) := by decide +kernel
theorem dX3_places_19 : decode cX3_places 19 = .ok (.iconst 0, 1) := by decide +kernel
theorem dX3_places_20 : decode cX3_places 20 = .ok (.istore_n 3, 1) := by decide +kernel
theorem dX3_places_21 : decode cX3_places 21 = .ok (.iconst 0, 1) := by decide +kernel
theorem dX3_places_22 : decode cX3_places 22 = .ok (.istore 4, 2) := by decide +kernel
theorem dX3_places_24 : decode cX3_places 24 = .ok (.iload 4, 2) := by decide +kernel
theorem dX3_places_26 : decode cX3_places 26 = .ok (.bipush 9, 2) := by decide +kernel
theorem dX3_places_28 : decode cX3_places 28 = .ok (.if_icmp .gt 33, 3) := by decide +kernel
theorem dX3_places_31 : decode cX3_places 31 = .ok (.aload_n 0, 1) := by decide +kernel
theorem dX3_places_32 : decode cX3_places 32 = .ok (.getfield 34, 3) := by decide +kernel
theorem dX3_places_35 : decode cX3_places 35 = .ok (.iload_n 1, 1) := by decide +kernel
theorem dX3_places_36 : decode cX3_places 36 = .ok (.iload 4, 2) := by decide +kernel
theorem dX3_places_38 : decode cX3_places 38 = .ok (.invokevirtual 89, 3) := by decide +kernel
theorem dX3_places_41 : decode cX3_places 41 = .ok (.aload_n 0, 1) := by decide +kernel
theorem dX3_places_42 : decode cX3_places 42 = .ok (.invokevirtual 168, 3) := by decide +kernel
theorem dX3_places_45 : decode cX3_places 45 = .ok (.ifCond .eq 10, 3) := by decide +kernel
theorem dX3_places_48 : decode cX3_places 48 = .ok (.iload_n 3, 1) := by decide +kernel
theorem dX3_places_49 : decode cX3_places 49 = .ok (.iconst 1, 1) := by decide +kernel
theorem dX3_places_50 : decode cX3_places 50 = .ok (.iload 4, 2) := by decide +kernel
theorem dX3_places_52 : decode cX3_places 52 = .ok (.ishl, 1) := by decide +kernel
theorem dX3_places_53 : decode cX3_places 53 = .ok (.ior, 1) := by decide +kernel
theorem dX3_places_54 : decode cX3_places 54 = .ok (.istore_n 3, 1) := by decide +kernel
theorem dX3_places_55 : decode cX3_places 55 = .ok (.iinc 4 1, 3) := by decide +kernel
theorem dX3_places_58 : decode cX3_places 58 = .ok (.goto (-34), 3) := by decide +kernel
theorem dX3_places_61 : decode cX3_places 61 = .ok (.aload_n 0, 1) := by decide +kernel
theorem dX3_places_62 : decode cX3_places 62 = .ok (.getfield 34, 3) := by decide +kernel
theorem dX3_places_65 : decode cX3_places 65 = .ok (.iload_n 1, 1) := by decide +kernel
theorem dX3_places_66 : decode cX3_places 66 = .ok (.iload_n 2, 1) := by decide +kernel
theorem dX3_places_67 : decode cX3_places 67 = .ok (.invokevirtual 89, 3) := by decide +kernel
theorem dX3_places_70 : decode cX3_places 70 = .ok (.iload_n 3, 1) := by decide +kernel
theorem dX3_places_71 : decode cX3_places 71 = .ok (.ireturn, 1) := by decide +kernel
set_option maxRecDepth 20000 in
theorem ggX3_odds_X3_noSecret : GoodIn wsX3_odds wsX3_noSecret := goodIn_r _ [7, 2, 8, 9, 10, 11, 12, 13, 96, 97, 98, 99, 100, 101, 102, 103, 104, 105, 106, 107, 108, 109, 110, 111] (by decide +kernel) (by decide +kernel)
set_option maxRecDepth 20000 in
theorem gX3_odds_X3_noSecret : GoodIn wsX3_odds (wsV RX3 93 RX3 yX3_noSecret wsX3_noSecret) := goodIn_app (goodIn_of _ (by decide +kernel)) ggX3_odds_X3_noSecret
set_option maxRecDepth 20000 in
theorem ggX3_odds_X3_within : GoodIn wsX3_odds wsX3_within := goodIn_r _ [16] (by decide +kernel) (by decide +kernel)
set_option maxRecDepth 20000 in
theorem gX3_odds_X3_within : GoodIn wsX3_odds (va_wsS RX3 54 yX3_within wsX3_within) := goodIn_app (goodIn_of _ (by decide +kernel)) ggX3_odds_X3_within
set_option maxRecDepth 20000 in
theorem ggX3_odds_X3_planned : GoodIn wsX3_odds wsX3_planned := goodIn_r _ [20, 21, 22, 2, 23, 24, 25, 26, 27, 28, 29, 30, 31, 32, 9, 10, 11, 12, 13, 33, 34, 35, 36, 37, 38, 39, 40, 41, 42, 43, 44, 45, 46, 47, 6, 48, 49, 50, 51, 52, 53, 54, 55, 56, 57, 58, 59, 60, 61, 62, 63, 64, 65, 66, 67, 68, 69, 70, 71, 72, 73, 74, 75, 76, 77, 78, 79, 80, 81, 82, 96, 97, 98, 99, 100, 101, 102, 103, 104, 105, 112, 113, 114, 115, 116, 106, 107, 108, 109, 110, 111] (by decide +kernel) (by decide +kernel)
set_option maxRecDepth 20000 in
theorem gX3_odds_X3_planned : GoodIn wsX3_odds (wsV RX3 125 RX3 yX3_planned wsX3_planned) := goodIn_app (goodIn_of _ (by decide +kernel)) ggX3_odds_X3_planned
set_option maxRecDepth 20000 in
theorem ggX3_odds_X1_answers : GoodIn wsX3_odds wsX1_answers := goodIn_r _ [12, 13, 106, 107, 108, 109, 110, 111] (by decide +kernel) (by decide +kernel)
set_option maxRecDepth 20000 in
theorem gX3_odds_X1_answers : GoodIn wsX3_odds (wsV RX3 75 RX1 yX1_answers wsX1_answers) := goodIn_app (goodIn_of _ (by decide +kernel)) ggX3_odds_X1_answers
set_option maxRecDepth 20000 in
theorem ggX3_odds_X3_isBoundWithin : GoodIn wsX3_odds wsX3_isBoundWithin := goodIn_r _ [86, 2, 87, 52, 53, 11, 54, 13, 88, 89, 90, 26, 91, 62, 47, 6, 48, 92, 34, 35, 36, 37, 38, 39, 40, 41, 42, 43, 44, 45, 46, 96, 97, 98, 99, 100, 101, 102, 103, 104, 105, 106, 107, 108, 109, 110, 111, 112, 113, 114, 115, 116] (by decide +kernel) (by decide +kernel)
set_option maxRecDepth 20000 in
theorem gX3_odds_X3_isBoundWithin : GoodIn wsX3_odds (wsV RX3 174 RX3 yX3_isBoundWithin wsX3_isBoundWithin) := goodIn_app (goodIn_of _ (by decide +kernel)) ggX3_odds_X3_isBoundWithin
set_option maxRecDepth 20000 in
theorem ggX3_odds_X3_shareNumber : GoodIn wsX3_odds wsX3_shareNumber := goodIn_r _ [95] (by decide +kernel) (by decide +kernel)
set_option maxRecDepth 20000 in
theorem gX3_odds_X3_shareNumber : GoodIn wsX3_odds (va_wsS RX3 145 yX3_shareNumber wsX3_shareNumber) := goodIn_app (goodIn_of _ (by decide +kernel)) ggX3_odds_X3_shareNumber
theorem dX3_odds_0 : decode cX3_odds 0 = .ok (.aload_n 0, 1) := by decide +kernel
theorem dX3_odds_1 : decode cX3_odds 1 = .ok (.invokevirtual 93, 3) := by decide +kernel
theorem dX3_odds_4 : decode cX3_odds 4 = .ok (.ifCond .ne 20, 3) := by decide +kernel
theorem dX3_odds_7 : decode cX3_odds 7 = .ok (.iload_n 1, 1) := by decide +kernel
theorem dX3_odds_8 : decode cX3_odds 8 = .ok (.bipush 9, 2) := by decide +kernel
theorem dX3_odds_10 : decode cX3_odds 10 = .ok (.invokestatic 54, 3) := by decide +kernel
theorem dX3_odds_13 : decode cX3_odds 13 = .ok (.ifCond .eq 11, 3) := by decide +kernel
theorem dX3_odds_16 : decode cX3_odds 16 = .ok (.iload_n 2, 1) := by decide +kernel
theorem dX3_odds_17 : decode cX3_odds 17 = .ok (.iconst 1, 1) := by decide +kernel
theorem dX3_odds_18 : decode cX3_odds 18 = .ok (.invokestatic 54, 3) := by decide +kernel
theorem dX3_odds_21 : decode cX3_odds 21 = .ok (.ifCond .ne 7, 3) := by decide +kernel
theorem dX3_odds_24 : decode cX3_odds 24 = .ok (.ldc2_w 135, 3) := by decide +kernel
theorem dX3_odds_27 : decode cX3_odds 27 = .ok (.lreturn, 1) := by decide +kernel
theorem dX3_odds_28 : decode cX3_odds 28 = .ok (.aload_n 0, 1) := by decide +kernel
theorem dX3_odds_29 : decode cX3_odds 29 = .ok (.invokevirtual 125, 3) := by decide +kernel
theorem dX3_odds_32 : decode cX3_odds 32 = .ok (.astore_n 3, 1) := by decide +kernel
theorem dX3_odds_33 : decode cX3_odds 33 = .ok (.iconst 0, 1) := by decide +kernel
theorem dX3_odds_34 : decode cX3_odds 34 = .ok (.istore 4, 2) := by decide +kernel
theorem dX3_odds_36 : decode cX3_odds 36 = .ok (.iconst 0, 1) := by decide +kernel
theorem dX3_odds_37 : decode cX3_odds 37 = .ok (.istore 5, 2) := by decide +kernel
theorem dX3_odds_39 : decode cX3_odds 39 = .ok (.iload 5, 2) := by decide +kernel
theorem dX3_odds_41 : decode cX3_odds 41 = .ok (.aload_n 0, 1) := by decide +kernel
theorem dX3_odds_42 : decode cX3_odds 42 = .ok (.getfield 34, 3) := by decide +kernel
theorem dX3_odds_45 : decode cX3_odds 45 = .ok (.invokevirtual 75, 3) := by decide +kernel
theorem dX3_odds_48 : decode cX3_odds 48 = .ok (.if_icmp .ge 23, 3) := by decide +kernel
theorem dX3_odds_51 : decode cX3_odds 51 = .ok (.aload_n 0, 1) := by decide +kernel
theorem dX3_odds_52 : decode cX3_odds 52 = .ok (.aload_n 3, 1) := by decide +kernel
theorem dX3_odds_53 : decode cX3_odds 53 = .ok (.iload 5, 2) := by decide +kernel
theorem dX3_odds_55 : decode cX3_odds 55 = .ok (.iload_n 1, 1) := by decide +kernel
theorem dX3_odds_56 : decode cX3_odds 56 = .ok (.invokevirtual 174, 3) := by decide +kernel
theorem dX3_odds_59 : decode cX3_odds 59 = .ok (.ifCond .eq 6, 3) := by decide +kernel
theorem dX3_odds_62 : decode cX3_odds 62 = .ok (.iinc 4 1, 3) := by decide +kernel
theorem dX3_odds_65 : decode cX3_odds 65 = .ok (.iinc 5 1, 3) := by decide +kernel
theorem dX3_odds_68 : decode cX3_odds 68 = .ok (.goto (-29), 3) := by decide +kernel
theorem dX3_odds_71 : decode cX3_odds 71 = .ok (.iload 4, 2) := by decide +kernel
theorem dX3_odds_73 : decode cX3_odds 73 = .ok (.aload_n 0, 1) := by decide +kernel
theorem dX3_odds_74 : decode cX3_odds 74 = .ok (.getfield 34, 3) := by decide +kernel
theorem dX3_odds_77 : decode cX3_odds 77 = .ok (.invokevirtual 75, 3) := by decide +kernel
theorem dX3_odds_80 : decode cX3_odds 80 = .ok (.iload_n 2, 1) := by decide +kernel
theorem dX3_odds_81 : decode cX3_odds 81 = .ok (.invokestatic 145, 3) := by decide +kernel
theorem dX3_odds_84 : decode cX3_odds 84 = .ok (.lreturn, 1) := by decide +kernel
set_option maxRecDepth 20000 in
theorem ggX3_sheet_X3_sheetOf : GoodIn wsX3_sheet wsX3_sheetOf := goodIn_r _ [6, 7, 25, 26, 27, 28, 29, 30, 31, 32, 33, 34] (by decide +kernel) (by decide +kernel)
set_option maxRecDepth 20000 in
theorem gX3_sheet_X3_sheetOf : GoodIn wsX3_sheet (wsV RX3 50 RX3 yX3_sheetOf wsX3_sheetOf) := goodIn_app (goodIn_of _ (by decide +kernel)) ggX3_sheet_X3_sheetOf
set_option maxRecDepth 20000 in
theorem ggX3_sheet_X3_within : GoodIn wsX3_sheet wsX3_within := goodIn_r _ [10] (by decide +kernel) (by decide +kernel)
set_option maxRecDepth 20000 in
theorem gX3_sheet_X3_within : GoodIn wsX3_sheet (va_wsS RX3 54 yX3_within wsX3_within) := goodIn_app (goodIn_of _ (by decide +kernel)) ggX3_sheet_X3_within
set_option maxRecDepth 20000 in
theorem ggX3_sheet_X3_faulted : GoodIn wsX3_sheet wsX3_faulted := goodIn_r _ [14, 1, 25, 26, 27, 28, 29, 30, 31, 32, 33, 34] (by decide +kernel) (by decide +kernel)
set_option maxRecDepth 20000 in
theorem gX3_sheet_X3_faulted : GoodIn wsX3_sheet (wsV RX3 65 RX3 yX3_faulted wsX3_faulted) := goodIn_app (goodIn_of _ (by decide +kernel)) ggX3_sheet_X3_faulted
set_option maxRecDepth 20000 in
theorem ggX3_sheet_X2_renew : GoodIn wsX3_sheet wsX2_renew := goodIn_r _ [19, 20, 21, 22, 23, 5, 24, 35, 36, 37] (by decide +kernel) (by decide +kernel)
set_option maxRecDepth 20000 in
theorem gX3_sheet_X2_renew : GoodIn wsX3_sheet (wsV RX3 178 RX2 yX2_renew wsX2_renew) := goodIn_app (goodIn_of _ (by decide +kernel)) ggX3_sheet_X2_renew
theorem dX3_sheet_0 : decode cX3_sheet 0 = .ok (.aload_n 0, 1) := by decide +kernel
theorem dX3_sheet_1 : decode cX3_sheet 1 = .ok (.iconst 0, 1) := by decide +kernel
theorem dX3_sheet_2 : decode cX3_sheet 2 = .ok (.putfield 45, 3) := by decide +kernel
theorem dX3_sheet_5 : decode cX3_sheet 5 = .ok (.aload_n 0, 1) := by decide +kernel
theorem dX3_sheet_6 : decode cX3_sheet 6 = .ok (.iload_n 1, 1) := by decide +kernel
theorem dX3_sheet_7 : decode cX3_sheet 7 = .ok (.invokevirtual 50, 3) := by decide +kernel
theorem dX3_sheet_10 : decode cX3_sheet 10 = .ok (.astore 4, 2) := by decide +kernel
theorem dX3_sheet_12 : decode cX3_sheet 12 = .ok (.aload 4, 2) := by decide +kernel
theorem dX3_sheet_14 : decode cX3_sheet 14 = .ok (.ifnonnull 5, 3) := by decide +kernel
theorem dX3_sheet_17 : decode cX3_sheet 17 = .ok (.iconst (-1), 1) := by decide +kernel
theorem dX3_sheet_18 : decode cX3_sheet 18 = .ok (.ireturn, 1) := by decide +kernel
theorem dX3_sheet_19 : decode cX3_sheet 19 = .ok (.iload_n 2, 1) := by decide +kernel
theorem dX3_sheet_20 : decode cX3_sheet 20 = .ok (.iconst 2, 1) := by decide +kernel
theorem dX3_sheet_21 : decode cX3_sheet 21 = .ok (.invokestatic 54, 3) := by decide +kernel
theorem dX3_sheet_24 : decode cX3_sheet 24 = .ok (.ifCond .eq 9, 3) := by decide +kernel
theorem dX3_sheet_27 : decode cX3_sheet 27 = .ok (.iload_n 3, 1) := by decide +kernel
theorem dX3_sheet_28 : decode cX3_sheet 28 = .ok (.bipush 60, 2) := by decide +kernel
theorem dX3_sheet_30 : decode cX3_sheet 30 = .ok (.if_icmp .le 6, 3) := by decide +kernel
theorem dX3_sheet_33 : decode cX3_sheet 33 = .ok (.bipush (-2), 2) := by decide +kernel
theorem dX3_sheet_35 : decode cX3_sheet 35 = .ok (.ireturn, 1) := by decide +kernel
theorem dX3_sheet_36 : decode cX3_sheet 36 = .ok (.iload_n 3, 1) := by decide +kernel
theorem dX3_sheet_37 : decode cX3_sheet 37 = .ok (.ifCond .ge 9, 3) := by decide +kernel
theorem dX3_sheet_40 : decode cX3_sheet 40 = .ok (.aload_n 0, 1) := by decide +kernel
theorem dX3_sheet_41 : decode cX3_sheet 41 = .ok (.iconst 4, 1) := by decide +kernel
theorem dX3_sheet_42 : decode cX3_sheet 42 = .ok (.invokevirtual 65, 3) := by decide +kernel
theorem dX3_sheet_45 : decode cX3_sheet 45 = .ok (.ireturn, 1) := by decide +kernel
theorem dX3_sheet_46 : decode cX3_sheet 46 = .ok (.aload 4, 2) := by decide +kernel
theorem dX3_sheet_48 : decode cX3_sheet 48 = .ok (.iload_n 2, 1) := by decide +kernel
theorem dX3_sheet_49 : decode cX3_sheet 49 = .ok (.iload_n 3, 1) := by decide +kernel
theorem dX3_sheet_50 : decode cX3_sheet 50 = .ok (.invokevirtual 178, 3) := by decide +kernel
theorem dX3_sheet_53 : decode cX3_sheet 53 = .ok (.iconst 1, 1) := by decide +kernel
theorem dX3_sheet_54 : decode cX3_sheet 54 = .ok (.ireturn, 1) := by decide +kernel
set_option maxRecDepth 20000 in
theorem ggX3_lose_X3_sheetOf : GoodIn wsX3_lose wsX3_sheetOf := goodIn_r _ [5, 6, 18, 19, 20, 21, 22, 23, 24, 25, 26, 27] (by decide +kernel) (by decide +kernel)
set_option maxRecDepth 20000 in
theorem gX3_lose_X3_sheetOf : GoodIn wsX3_lose (wsV RX3 50 RX3 yX3_sheetOf wsX3_sheetOf) := goodIn_app (goodIn_of _ (by decide +kernel)) ggX3_lose_X3_sheetOf
set_option maxRecDepth 20000 in
theorem ggX3_lose_X2_isNothing : GoodIn wsX3_lose wsX2_isNothing := goodIn_r _ [11, 12, 28, 29, 30] (by decide +kernel) (by decide +kernel)
set_option maxRecDepth 20000 in
theorem gX3_lose_X2_isNothing : GoodIn wsX3_lose (wsV RX3 181 RX2 yX2_isNothing wsX2_isNothing) := goodIn_app (goodIn_of _ (by decide +kernel)) ggX3_lose_X2_isNothing
set_option maxRecDepth 20000 in
theorem ggX3_lose_X2_clear : GoodIn wsX3_lose wsX2_clear := goodIn_r _ [16, 12, 17, 28, 29, 30] (by decide +kernel) (by decide +kernel)
set_option maxRecDepth 20000 in
theorem gX3_lose_X2_clear : GoodIn wsX3_lose (wsV RX3 184 RX2 yX2_clear wsX2_clear) := goodIn_app (goodIn_of _ (by decide +kernel)) ggX3_lose_X2_clear
theorem dX3_lose_0 : decode cX3_lose 0 = .ok (.aload_n 0, 1) := by decide +kernel
theorem dX3_lose_1 : decode cX3_lose 1 = .ok (.iload_n 1, 1) := by decide +kernel
theorem dX3_lose_2 : decode cX3_lose 2 = .ok (.invokevirtual 50, 3) := by decide +kernel
theorem dX3_lose_5 : decode cX3_lose 5 = .ok (.astore_n 2, 1) := by decide +kernel
theorem dX3_lose_6 : decode cX3_lose 6 = .ok (.aload_n 2, 1) := by decide +kernel
theorem dX3_lose_7 : decode cX3_lose 7 = .ok (.ifnonnull 5, 3) := by decide +kernel
theorem dX3_lose_10 : decode cX3_lose 10 = .ok (.iconst (-1), 1) := by decide +kernel
theorem dX3_lose_11 : decode cX3_lose 11 = .ok (.ireturn, 1) := by decide +kernel
theorem dX3_lose_12 : decode cX3_lose 12 = .ok (.aload_n 2, 1) := by decide +kernel
theorem dX3_lose_13 : decode cX3_lose 13 = .ok (.invokevirtual 181, 3) := by decide +kernel
theorem dX3_lose_16 : decode cX3_lose 16 = .ok (.ifCond .eq 5, 3) := by decide +kernel
theorem dX3_lose_19 : decode cX3_lose 19 = .ok (.iconst 0, 1) := by decide +kernel
theorem dX3_lose_20 : decode cX3_lose 20 = .ok (.ireturn, 1) := by decide +kernel
theorem dX3_lose_21 : decode cX3_lose 21 = .ok (.aload_n 2, 1) := by decide +kernel
theorem dX3_lose_22 : decode cX3_lose 22 = .ok (.invokevirtual 184, 3) := by decide +kernel
theorem dX3_lose_25 : decode cX3_lose 25 = .ok (.iconst 1, 1) := by decide +kernel
theorem dX3_lose_26 : decode cX3_lose 26 = .ok (.ireturn, 1) := by decide +kernel
set_option maxRecDepth 20000 in
theorem ggX3_put_X3_sheetOf : GoodIn wsX3_put wsX3_sheetOf := goodIn_r _ [6, 7, 36, 37, 38, 39, 40, 41, 42, 43, 44, 45] (by decide +kernel) (by decide +kernel)
set_option maxRecDepth 20000 in
theorem gX3_put_X3_sheetOf : GoodIn wsX3_put (wsV RX3 50 RX3 yX3_sheetOf wsX3_sheetOf) := goodIn_app (goodIn_of _ (by decide +kernel)) ggX3_put_X3_sheetOf
set_option maxRecDepth 20000 in
theorem ggX3_put_X2_isNothing : GoodIn wsX3_put wsX2_isNothing := goodIn_r _ [12, 13, 46, 47, 48] (by decide +kernel) (by decide +kernel)
set_option maxRecDepth 20000 in
theorem gX3_put_X2_isNothing : GoodIn wsX3_put (wsV RX3 181 RX2 yX2_isNothing wsX2_isNothing) := goodIn_app (goodIn_of _ (by decide +kernel)) ggX3_put_X2_isNothing
set_option maxRecDepth 20000 in
theorem ggX3_put_X3_faulted : GoodIn wsX3_put wsX3_faulted := goodIn_r _ [17, 1, 36, 37, 38, 39, 40, 41, 42, 43, 44, 45] (by decide +kernel) (by decide +kernel)
set_option maxRecDepth 20000 in
theorem gX3_put_X3_faulted : GoodIn wsX3_put (wsV RX3 65 RX3 yX3_faulted wsX3_faulted) := goodIn_app (goodIn_of _ (by decide +kernel)) ggX3_put_X3_faulted
set_option maxRecDepth 20000 in
theorem ggX3_put_X2_hasCells : GoodIn wsX3_put wsX2_hasCells := goodIn_r _ [21, 22, 23, 5, 24, 46, 47, 48] (by decide +kernel) (by decide +kernel)
set_option maxRecDepth 20000 in
theorem gX3_put_X2_hasCells : GoodIn wsX3_put (wsV RX3 62 RX2 yX2_hasCells wsX2_hasCells) := goodIn_app (goodIn_of _ (by decide +kernel)) ggX3_put_X2_hasCells
set_option maxRecDepth 20000 in
theorem ggX3_put_X2_set : GoodIn wsX3_put wsX2_set := goodIn_r _ [28, 29, 30, 31, 32, 11, 33, 13, 34, 5, 35, 46, 47, 48] (by decide +kernel) (by decide +kernel)
set_option maxRecDepth 20000 in
theorem gX3_put_X2_set : GoodIn wsX3_put (wsV RX3 187 RX2 yX2_set wsX2_set) := goodIn_app (goodIn_of _ (by decide +kernel)) ggX3_put_X2_set
theorem dX3_put_0 : decode cX3_put 0 = .ok (.aload_n 0, 1) := by decide +kernel
theorem dX3_put_1 : decode cX3_put 1 = .ok (.iconst 0, 1) := by decide +kernel
theorem dX3_put_2 : decode cX3_put 2 = .ok (.putfield 45, 3) := by decide +kernel
theorem dX3_put_5 : decode cX3_put 5 = .ok (.aload_n 0, 1) := by decide +kernel
theorem dX3_put_6 : decode cX3_put 6 = .ok (.iload_n 1, 1) := by decide +kernel
theorem dX3_put_7 : decode cX3_put 7 = .ok (.invokevirtual 50, 3) := by decide +kernel
theorem dX3_put_10 : decode cX3_put 10 = .ok (.astore 4, 2) := by decide +kernel
theorem dX3_put_12 : decode cX3_put 12 = .ok (.aload 4, 2) := by decide +kernel
theorem dX3_put_14 : decode cX3_put 14 = .ok (.ifnonnull 5, 3) := by decide +kernel
theorem dX3_put_17 : decode cX3_put 17 = .ok (.iconst (-1), 1) := by decide +kernel
theorem dX3_put_18 : decode cX3_put 18 = .ok (.ireturn, 1) := by decide +kernel
theorem dX3_put_19 : decode cX3_put 19 = .ok (.aload 4, 2) := by decide +kernel
theorem dX3_put_21 : decode cX3_put 21 = .ok (.invokevirtual 181, 3) := by decide +kernel
theorem dX3_put_24 : decode cX3_put 24 = .ok (.ifCond .eq 9, 3) := by decide +kernel
theorem dX3_put_27 : decode cX3_put 27 = .ok (.aload_n 0, 1) := by decide +kernel
theorem dX3_put_28 : decode cX3_put 28 = .ok (.iconst 1, 1) := by decide +kernel
theorem dX3_put_29 : decode cX3_put 29 = .ok (.invokevirtual 65, 3) := by decide +kernel
theorem dX3_put_32 : decode cX3_put 32 = .ok (.ireturn, 1) := by decide +kernel
theorem dX3_put_33 : decode cX3_put 33 = .ok (.aload 4, 2) := by decide +kernel
theorem dX3_put_35 : decode cX3_put 35 = .ok (.iload_n 2, 1) := by decide +kernel
theorem dX3_put_36 : decode cX3_put 36 = .ok (.iconst 1, 1) := by decide +kernel
theorem dX3_put_37 : decode cX3_put 37 = .ok (.invokevirtual 62, 3) := by decide +kernel
theorem dX3_put_40 : decode cX3_put 40 = .ok (.ifCond .ne 9, 3) := by decide +kernel
theorem dX3_put_43 : decode cX3_put 43 = .ok (.aload_n 0, 1) := by decide +kernel
theorem dX3_put_44 : decode cX3_put 44 = .ok (.iconst 3, 1) := by decide +kernel
theorem dX3_put_45 : decode cX3_put 45 = .ok (.invokevirtual 65, 3) := by decide +kernel
theorem dX3_put_48 : decode cX3_put 48 = .ok (.ireturn, 1) := by decide +kernel
theorem dX3_put_49 : decode cX3_put 49 = .ok (.aload 4, 2) := by decide +kernel
theorem dX3_put_51 : decode cX3_put 51 = .ok (.iload_n 2, 1) := by decide +kernel
theorem dX3_put_52 : decode cX3_put 52 = .ok (.iload_n 3, 1) := by decide +kernel
theorem dX3_put_53 : decode cX3_put 53 = .ok (.invokevirtual 187, 3) := by decide +kernel
theorem dX3_put_56 : decode cX3_put 56 = .ok (.iconst 1, 1) := by decide +kernel
theorem dX3_put_57 : decode cX3_put 57 = .ok (.ireturn, 1) := by decide +kernel
set_option maxRecDepth 20000 in
theorem ggX3_cell_X3_sheetOf : GoodIn wsX3_cell wsX3_sheetOf := goodIn_r _ [7, 8, 34, 35, 36, 37, 38, 39, 40, 41, 42, 43] (by decide +kernel) (by decide +kernel)
set_option maxRecDepth 20000 in
theorem gX3_cell_X3_sheetOf : GoodIn wsX3_cell (wsV RX3 50 RX3 yX3_sheetOf wsX3_sheetOf) := goodIn_app (goodIn_of _ (by decide +kernel)) ggX3_cell_X3_sheetOf
set_option maxRecDepth 20000 in
theorem ggX3_cell_X3_within : GoodIn wsX3_cell wsX3_within := goodIn_r _ [11] (by decide +kernel) (by decide +kernel)
set_option maxRecDepth 20000 in
theorem gX3_cell_X3_within : GoodIn wsX3_cell (va_wsS RX3 54 yX3_within wsX3_within) := goodIn_app (goodIn_of _ (by decide +kernel)) ggX3_cell_X3_within
set_option maxRecDepth 20000 in
theorem ggX3_cell_X2_faultAs : GoodIn wsX3_cell wsX2_faultAs := goodIn_r _ [16, 17, 18, 19, 20, 15, 21, 44, 45, 46] (by decide +kernel) (by decide +kernel)
set_option maxRecDepth 20000 in
theorem gX3_cell_X2_faultAs : GoodIn wsX3_cell (wsV RX3 58 RX2 yX2_faultAs wsX2_faultAs) := goodIn_app (goodIn_of _ (by decide +kernel)) ggX3_cell_X2_faultAs
set_option maxRecDepth 20000 in
theorem ggX3_cell_X2_hasCells : GoodIn wsX3_cell wsX2_hasCells := goodIn_r _ [25, 26, 10, 6, 11, 44, 45, 46] (by decide +kernel) (by decide +kernel)
set_option maxRecDepth 20000 in
theorem gX3_cell_X2_hasCells : GoodIn wsX3_cell (wsV RX3 62 RX2 yX2_hasCells wsX2_hasCells) := goodIn_app (goodIn_of _ (by decide +kernel)) ggX3_cell_X2_hasCells
set_option maxRecDepth 20000 in
theorem ggX3_cell_X2_get : GoodIn wsX3_cell wsX2_get := goodIn_r _ [30, 31, 32, 6, 33, 44, 45, 46] (by decide +kernel) (by decide +kernel)
set_option maxRecDepth 20000 in
theorem gX3_cell_X2_get : GoodIn wsX3_cell (wsV RX3 119 RX2 yX2_get wsX2_get) := goodIn_app (goodIn_of _ (by decide +kernel)) ggX3_cell_X2_get
theorem dX3_cell_0 : decode cX3_cell 0 = .ok (.aload_n 0, 1) := by decide +kernel
theorem dX3_cell_1 : decode cX3_cell 1 = .ok (.iconst 0, 1) := by decide +kernel
theorem dX3_cell_2 : decode cX3_cell 2 = .ok (.putfield 45, 3) := by decide +kernel
theorem dX3_cell_5 : decode cX3_cell 5 = .ok (.aload_n 0, 1) := by decide +kernel
theorem dX3_cell_6 : decode cX3_cell 6 = .ok (.iload_n 1, 1) := by decide +kernel
theorem dX3_cell_7 : decode cX3_cell 7 = .ok (.invokevirtual 50, 3) := by decide +kernel
theorem dX3_cell_10 : decode cX3_cell 10 = .ok (.astore 4, 2) := by decide +kernel
theorem dX3_cell_12 : decode cX3_cell 12 = .ok (.aload 4, 2) := by decide +kernel
theorem dX3_cell_14 : decode cX3_cell 14 = .ok (.ifnull 11, 3) := by decide +kernel
theorem dX3_cell_17 : decode cX3_cell 17 = .ok (.iload_n 3, 1) := by decide +kernel
theorem dX3_cell_18 : decode cX3_cell 18 = .ok (.iconst 2, 1) := by decide +kernel
theorem dX3_cell_19 : decode cX3_cell 19 = .ok (.invokestatic 54, 3) := by decide +kernel
theorem dX3_cell_22 : decode cX3_cell 22 = .ok (.ifCond .ne 7, 3) := by decide +kernel
theorem dX3_cell_25 : decode cX3_cell 25 = .ok (.ldc2_w 135, 3) := by decide +kernel
theorem dX3_cell_28 : decode cX3_cell 28 = .ok (.lreturn, 1) := by decide +kernel
theorem dX3_cell_29 : decode cX3_cell 29 = .ok (.aload 4, 2) := by decide +kernel
theorem dX3_cell_31 : decode cX3_cell 31 = .ok (.iload_n 3, 1) := by decide +kernel
theorem dX3_cell_32 : decode cX3_cell 32 = .ok (.invokevirtual 58, 3) := by decide +kernel
theorem dX3_cell_35 : decode cX3_cell 35 = .ok (.istore 5, 2) := by decide +kernel
theorem dX3_cell_37 : decode cX3_cell 37 = .ok (.iload 5, 2) := by decide +kernel
theorem dX3_cell_39 : decode cX3_cell 39 = .ok (.ifCond .ne 16, 3) := by decide +kernel
theorem dX3_cell_42 : decode cX3_cell 42 = .ok (.aload 4, 2) := by decide +kernel
theorem dX3_cell_44 : decode cX3_cell 44 = .ok (.iload_n 2, 1) := by decide +kernel
theorem dX3_cell_45 : decode cX3_cell 45 = .ok (.iconst 1, 1) := by decide +kernel
theorem dX3_cell_46 : decode cX3_cell 46 = .ok (.invokevirtual 62, 3) := by decide +kernel
theorem dX3_cell_49 : decode cX3_cell 49 = .ok (.ifCond .ne 6, 3) := by decide +kernel
theorem dX3_cell_52 : decode cX3_cell 52 = .ok (.iconst 3, 1) := by decide +kernel
theorem dX3_cell_53 : decode cX3_cell 53 = .ok (.istore 5, 2) := by decide +kernel
theorem dX3_cell_55 : decode cX3_cell 55 = .ok (.iload 5, 2) := by decide +kernel
theorem dX3_cell_57 : decode cX3_cell 57 = .ok (.ifCond .eq 13, 3) := by decide +kernel
theorem dX3_cell_60 : decode cX3_cell 60 = .ok (.aload_n 0, 1) := by decide +kernel
theorem dX3_cell_61 : decode cX3_cell 61 = .ok (.iload 5, 2) := by decide +kernel
theorem dX3_cell_63 : decode cX3_cell 63 = .ok (.putfield 45, 3) := by decide +kernel
theorem dX3_cell_66 : decode cX3_cell 66 = .ok (.ldc2_w 135, 3) := by decide +kernel
theorem dX3_cell_69 : decode cX3_cell 69 = .ok (.lreturn, 1) := by decide +kernel
theorem dX3_cell_70 : decode cX3_cell 70 = .ok (.aload 4, 2) := by decide +kernel
theorem dX3_cell_72 : decode cX3_cell 72 = .ok (.iload_n 2, 1) := by decide +kernel
theorem dX3_cell_73 : decode cX3_cell 73 = .ok (.invokevirtual 119, 3) := by decide +kernel
theorem dX3_cell_76 : decode cX3_cell 76 = .ok (.i2l, 1) := by decide +kernel
theorem dX3_cell_77 : decode cX3_cell 77 = .ok (.lreturn, 1) := by decide +kernel
set_option maxRecDepth 20000 in
theorem ggX3_copy_X3_sheetOf : GoodIn wsX3_copy wsX3_sheetOf := goodIn_r _ [6, 7, 42, 43, 44, 45, 46, 47, 48, 49, 50, 51] (by decide +kernel) (by decide +kernel)
set_option maxRecDepth 20000 in
theorem gX3_copy_X3_sheetOf : GoodIn wsX3_copy (wsV RX3 50 RX3 yX3_sheetOf wsX3_sheetOf) := goodIn_app (goodIn_of _ (by decide +kernel)) ggX3_copy_X3_sheetOf
set_option maxRecDepth 20000 in
theorem ggX3_copy_X2_isNothing : GoodIn wsX3_copy wsX2_isNothing := goodIn_r _ [12, 13, 52, 53, 54] (by decide +kernel) (by decide +kernel)
set_option maxRecDepth 20000 in
theorem gX3_copy_X2_isNothing : GoodIn wsX3_copy (wsV RX3 181 RX2 yX2_isNothing wsX2_isNothing) := goodIn_app (goodIn_of _ (by decide +kernel)) ggX3_copy_X2_isNothing
set_option maxRecDepth 20000 in
theorem ggX3_copy_X3_faulted : GoodIn wsX3_copy wsX3_faulted := goodIn_r _ [17, 1, 42, 43, 44, 45, 46, 47, 48, 49, 50, 51] (by decide +kernel) (by decide +kernel)
set_option maxRecDepth 20000 in
theorem gX3_copy_X3_faulted : GoodIn wsX3_copy (wsV RX3 65 RX3 yX3_faulted wsX3_faulted) := goodIn_app (goodIn_of _ (by decide +kernel)) ggX3_copy_X3_faulted
set_option maxRecDepth 20000 in
theorem ggX3_copy_X2_isLikeLane : GoodIn wsX3_copy wsX2_isLikeLane := goodIn_r _ [21, 13, 52, 53, 54] (by decide +kernel) (by decide +kernel)
set_option maxRecDepth 20000 in
theorem gX3_copy_X2_isLikeLane : GoodIn wsX3_copy (wsV RX3 190 RX2 yX2_isLikeLane wsX2_isLikeLane) := goodIn_app (goodIn_of _ (by decide +kernel)) ggX3_copy_X2_isLikeLane
set_option maxRecDepth 20000 in
theorem ggX3_copy_X2_hasCells : GoodIn wsX3_copy wsX2_hasCells := goodIn_r _ [25, 26, 27, 5, 28, 52, 53, 54] (by decide +kernel) (by decide +kernel)
set_option maxRecDepth 20000 in
theorem gX3_copy_X2_hasCells : GoodIn wsX3_copy (wsV RX3 62 RX2 yX2_hasCells wsX2_hasCells) := goodIn_app (goodIn_of _ (by decide +kernel)) ggX3_copy_X2_hasCells
set_option maxRecDepth 20000 in
theorem ggX3_copy_X2_takeCells : GoodIn wsX3_copy wsX2_takeCells := goodIn_r _ [32, 33, 34, 35, 36, 11, 37, 38, 5, 39, 40, 41, 52, 53, 54] (by decide +kernel) (by decide +kernel)
set_option maxRecDepth 20000 in
theorem gX3_copy_X2_takeCells : GoodIn wsX3_copy (wsV RX3 194 RX2 yX2_takeCells wsX2_takeCells) := goodIn_app (goodIn_of _ (by decide +kernel)) ggX3_copy_X2_takeCells
theorem dX3_copy_0 : decode cX3_copy 0 = .ok (.aload_n 0, 1) := by decide +kernel
theorem dX3_copy_1 : decode cX3_copy 1 = .ok (.iconst 0, 1) := by decide +kernel
theorem dX3_copy_2 : decode cX3_copy 2 = .ok (.putfield 45, 3) := by decide +kernel
theorem dX3_copy_5 : decode cX3_copy 5 = .ok (.aload_n 0, 1) := by decide +kernel
theorem dX3_copy_6 : decode cX3_copy 6 = .ok (.iload_n 1, 1) := by decide +kernel
theorem dX3_copy_7 : decode cX3_copy 7 = .ok (.invokevirtual 50, 3) := by decide +kernel
theorem dX3_copy_10 : decode cX3_copy 10 = .ok (.astore 6, 2) := by decide +kernel
theorem dX3_copy_12 : decode cX3_copy 12 = .ok (.aload_n 0, 1) := by decide +kernel
theorem dX3_copy_13 : decode cX3_copy 13 = .ok (.iload_n 3, 1) := by decide +kernel
theorem dX3_copy_14 : decode cX3_copy 14 = .ok (.invokevirtual 50, 3) := by decide +kernel
theorem dX3_copy_17 : decode cX3_copy 17 = .ok (.astore 7, 2) := by decide +kernel
theorem dX3_copy_19 : decode cX3_copy 19 = .ok (.aload 6, 2) := by decide +kernel
theorem dX3_copy_21 : decode cX3_copy 21 = .ok (.ifnull 8, 3) := by decide +kernel
theorem dX3_copy_24 : decode cX3_copy 24 = .ok (.aload 7, 2) := by decide +kernel
theorem dX3_copy_26 : decode cX3_copy 26 = .ok (.ifnonnull 5, 3) := by decide +kernel
theorem dX3_copy_29 : decode cX3_copy 29 = .ok (.iconst (-1), 1) := by decide +kernel
theorem dX3_copy_30 : decode cX3_copy 30 = .ok (.ireturn, 1) := by decide +kernel
theorem dX3_copy_31 : decode cX3_copy 31 = .ok (.aload 6, 2) := by decide +kernel
theorem dX3_copy_33 : decode cX3_copy 33 = .ok (.invokevirtual 181, 3) := by decide +kernel
theorem dX3_copy_36 : decode cX3_copy 36 = .ok (.ifCond .ne 11, 3) := by decide +kernel
theorem dX3_copy_39 : decode cX3_copy 39 = .ok (.aload 7, 2) := by decide +kernel
theorem dX3_copy_41 : decode cX3_copy 41 = .ok (.invokevirtual 181, 3) := by decide +kernel
theorem dX3_copy_44 : decode cX3_copy 44 = .ok (.ifCond .eq 9, 3) := by decide +kernel
theorem dX3_copy_47 : decode cX3_copy 47 = .ok (.aload_n 0, 1) := by decide +kernel
theorem dX3_copy_48 : decode cX3_copy 48 = .ok (.iconst 1, 1) := by decide +kernel
theorem dX3_copy_49 : decode cX3_copy 49 = .ok (.invokevirtual 65, 3) := by decide +kernel
theorem dX3_copy_52 : decode cX3_copy 52 = .ok (.ireturn, 1) := by decide +kernel
theorem dX3_copy_53 : decode cX3_copy 53 = .ok (.aload 6, 2) := by decide +kernel
theorem dX3_copy_55 : decode cX3_copy 55 = .ok (.aload 7, 2) := by decide +kernel
theorem dX3_copy_57 : decode cX3_copy 57 = .ok (.invokevirtual 190, 3) := by decide +kernel
theorem dX3_copy_60 : decode cX3_copy 60 = .ok (.ifCond .ne 9, 3) := by decide +kernel
theorem dX3_copy_63 : decode cX3_copy 63 = .ok (.aload_n 0, 1) := by decide +kernel
theorem dX3_copy_64 : decode cX3_copy 64 = .ok (.iconst 2, 1) := by decide +kernel
theorem dX3_copy_65 : decode cX3_copy 65 = .ok (.invokevirtual 65, 3) := by decide +kernel
theorem dX3_copy_68 : decode cX3_copy 68 = .ok (.ireturn, 1) := by decide +kernel
theorem dX3_copy_69 : decode cX3_copy 69 = .ok (.aload 6, 2) := by decide +kernel
theorem dX3_copy_71 : decode cX3_copy 71 = .ok (.iload_n 2, 1) := by decide +kernel
theorem dX3_copy_72 : decode cX3_copy 72 = .ok (.iload 5, 2) := by decide +kernel
theorem dX3_copy_74 : decode cX3_copy 74 = .ok (.invokevirtual 62, 3) := by decide +kernel
theorem dX3_copy_77 : decode cX3_copy 77 = .ok (.ifCond .eq 15, 3) := by decide +kernel
theorem dX3_copy_80 : decode cX3_copy 80 = .ok (.aload 7, 2) := by decide +kernel
theorem dX3_copy_82 : decode cX3_copy 82 = .ok (.iload 4, 2) := by decide +kernel
theorem dX3_copy_84 : decode cX3_copy 84 = .ok (.iload 5, 2) := by decide +kernel
theorem dX3_copy_86 : decode cX3_copy 86 = .ok (.invokevirtual 62, 3) := by decide +kernel
theorem dX3_copy_89 : decode cX3_copy 89 = .ok (.ifCond .ne 9, 3) := by decide +kernel
theorem dX3_copy_92 : decode cX3_copy 92 = .ok (.aload_n 0, 1) := by decide +kernel
theorem dX3_copy_93 : decode cX3_copy 93 = .ok (.iconst 3, 1) := by decide +kernel
theorem dX3_copy_94 : decode cX3_copy 94 = .ok (.invokevirtual 65, 3) := by decide +kernel
theorem dX3_copy_97 : decode cX3_copy 97 = .ok (.ireturn, 1) := by decide +kernel
theorem dX3_copy_98 : decode cX3_copy 98 = .ok (.aload 7, 2) := by decide +kernel
theorem dX3_copy_100 : decode cX3_copy 100 = .ok (.iload 4, 2) := by decide +kernel
theorem dX3_copy_102 : decode cX3_copy 102 = .ok (.aload 6, 2) := by decide +kernel
theorem dX3_copy_104 : decode cX3_copy 104 = .ok (.iload_n 2, 1) := by decide +kernel
theorem dX3_copy_105 : decode cX3_copy 105 = .ok (.iload 5, 2) := by decide +kernel
theorem dX3_copy_107 : decode cX3_copy 107 = .ok (.invokevirtual 194, 3) := by decide +kernel
theorem dX3_copy_110 : decode cX3_copy 110 = .ok (.iload 5, 2) := by decide +kernel
theorem dX3_copy_112 : decode cX3_copy 112 = .ok (.ireturn, 1) := by decide +kernel
set_option maxRecDepth 20000 in
theorem ggX3_tell_X3_isAnswer : GoodIn wsX3_tell wsX3_isAnswer := goodIn_r _ [6, 1, 7, 8, 9, 10, 11, 12, 42, 43, 44, 45, 46, 47, 48, 49, 50, 51, 52, 53, 54, 55, 56, 57] (by decide +kernel) (by decide +kernel)
set_option maxRecDepth 20000 in
theorem gX3_tell_X3_isAnswer : GoodIn wsX3_tell (wsV RX3 79 RX3 yX3_isAnswer wsX3_isAnswer) := goodIn_app (goodIn_of _ (by decide +kernel)) ggX3_tell_X3_isAnswer
set_option maxRecDepth 20000 in
theorem ggX3_tell_X1_kindOf : GoodIn wsX3_tell wsX1_kindOf := goodIn_r _ [16, 17, 18, 5, 19, 52, 53, 54, 55, 56, 57] (by decide +kernel) (by decide +kernel)
set_option maxRecDepth 20000 in
theorem gX3_tell_X1_kindOf : GoodIn wsX3_tell (wsV RX3 83 RX1 yX1_kindOf wsX1_kindOf) := goodIn_app (goodIn_of _ (by decide +kernel)) ggX3_tell_X1_kindOf
set_option maxRecDepth 20000 in
theorem ggX3_tell_X3_tellSly : GoodIn wsX3_tell wsX3_tellSly := goodIn_r _ [23, 24, 25, 26, 5, 27, 28, 29, 30, 31, 32, 1, 33, 34, 35, 10, 36, 37, 18, 19, 42, 43, 44, 45, 46, 47, 48, 49, 50, 51, 52, 53, 54, 55, 56, 57] (by decide +kernel) (by decide +kernel)
set_option maxRecDepth 20000 in
theorem gX3_tell_X3_tellSly : GoodIn wsX3_tell (wsV RX3 198 RX3 yX3_tellSly wsX3_tellSly) := goodIn_app (goodIn_of _ (by decide +kernel)) ggX3_tell_X3_tellSly
set_option maxRecDepth 20000 in
theorem ggX3_tell_X3_tellVain : GoodIn wsX3_tell wsX3_tellVain := goodIn_r _ [41, 24, 25, 26, 5, 27, 28, 20, 21, 22, 23, 29, 30, 31, 32, 1, 33, 34, 35, 10, 36, 37, 18, 19, 42, 43, 44, 45, 46, 47, 48, 49, 50, 51, 52, 53, 54, 55, 56, 57] (by decide +kernel) (by decide +kernel)
set_option maxRecDepth 20000 in
theorem gX3_tell_X3_tellVain : GoodIn wsX3_tell (wsV RX3 201 RX3 yX3_tellVain wsX3_tellVain) := goodIn_app (goodIn_of _ (by decide +kernel)) ggX3_tell_X3_tellVain
set_option maxRecDepth 20000 in
theorem ggX3_tell_X3_tellPlain : GoodIn wsX3_tell wsX3_tellPlain := goodIn_r _ [32, 1, 24, 25, 26, 5, 27, 28, 33, 34, 35, 10, 36, 37, 18, 19, 42, 43, 44, 45, 46, 47, 48, 49, 50, 51, 52, 53, 54, 55, 56, 57] (by decide +kernel) (by decide +kernel)
set_option maxRecDepth 20000 in
theorem gX3_tell_X3_tellPlain : GoodIn wsX3_tell (wsV RX3 204 RX3 yX3_tellPlain wsX3_tellPlain) := goodIn_app (goodIn_of _ (by decide +kernel)) ggX3_tell_X3_tellPlain
theorem dX3_tell_0 : decode cX3_tell 0 = .ok (.aload_n 0, 1) := by decide +kernel
theorem dX3_tell_1 : decode cX3_tell 1 = .ok (.iload_n 1, 1) := by decide +kernel
theorem dX3_tell_2 : decode cX3_tell 2 = .ok (.invokevirtual 79, 3) := by decide +kernel
theorem dX3_tell_5 : decode cX3_tell 5 = .ok (.ifCond .ne 5, 3) := by decide +kernel
theorem dX3_tell_8 : decode cX3_tell 8 = .ok (.iconst (-1), 1) := by decide +kernel
theorem dX3_tell_9 : decode cX3_tell 9 = .ok (.ireturn, 1) := by decide +kernel
theorem dX3_tell_10 : decode cX3_tell 10 = .ok (.aload_n 0, 1) := by decide +kernel
theorem dX3_tell_11 : decode cX3_tell 11 = .ok (.getfield 34, 3) := by decide +kernel
theorem dX3_tell_14 : decode cX3_tell 14 = .ok (.iload_n 1, 1) := by decide +kernel
theorem dX3_tell_15 : decode cX3_tell 15 = .ok (.invokevirtual 83, 3) := by decide +kernel
theorem dX3_tell_18 : decode cX3_tell 18 = .ok (.lookupswitch 38 #[(1, 26), (2, 32)], 26) := by decide +kernel
theorem dX3_tell_44 : decode cX3_tell 44 = .ok (.aload_n 0, 1) := by decide +kernel
theorem dX3_tell_45 : decode cX3_tell 45 = .ok (.iload_n 1, 1) := by decide +kernel
theorem dX3_tell_46 : decode cX3_tell 46 = .ok (.invokevirtual 198, 3) := by decide +kernel
theorem dX3_tell_49 : decode cX3_tell 49 = .ok (.ireturn, 1) := by decide +kernel
theorem dX3_tell_50 : decode cX3_tell 50 = .ok (.aload_n 0, 1) := by decide +kernel
theorem dX3_tell_51 : decode cX3_tell 51 = .ok (.iload_n 1, 1) := by decide +kernel
theorem dX3_tell_52 : decode cX3_tell 52 = .ok (.invokevirtual 201, 3) := by decide +kernel
theorem dX3_tell_55 : decode cX3_tell 55 = .ok (.ireturn, 1) := by decide +kernel
theorem dX3_tell_56 : decode cX3_tell 56 = .ok (.aload_n 0, 1) := by decide +kernel
theorem dX3_tell_57 : decode cX3_tell 57 = .ok (.iload_n 1, 1) := by decide +kernel
theorem dX3_tell_58 : decode cX3_tell 58 = .ok (.invokevirtual 204, 3) := by decide +kernel
theorem dX3_tell_61 : decode cX3_tell 61 = .ok (.ireturn, 1) := by decide +kernel
set_option maxRecDepth 20000 in
theorem ggX3_whisper_X3_isAnswer : GoodIn wsX3_whisper wsX3_isAnswer := goodIn_r _ [6, 1, 7, 8, 9, 10, 11, 12, 33, 34, 35, 36, 37, 38, 39, 40, 41, 42, 43, 44, 45, 46, 47, 48] (by decide +kernel) (by decide +kernel)
set_option maxRecDepth 20000 in
theorem gX3_whisper_X3_isAnswer : GoodIn wsX3_whisper (wsV RX3 79 RX3 yX3_isAnswer wsX3_isAnswer) := goodIn_app (goodIn_of _ (by decide +kernel)) ggX3_whisper_X3_isAnswer
set_option maxRecDepth 20000 in
theorem ggX3_whisper_X1_kindOf : GoodIn wsX3_whisper wsX1_kindOf := goodIn_r _ [16, 17, 18, 5, 19, 43, 44, 45, 46, 47, 48] (by decide +kernel) (by decide +kernel)
set_option maxRecDepth 20000 in
theorem gX3_whisper_X1_kindOf : GoodIn wsX3_whisper (wsV RX3 83 RX1 yX1_kindOf wsX1_kindOf) := goodIn_app (goodIn_of _ (by decide +kernel)) ggX3_whisper_X1_kindOf
set_option maxRecDepth 20000 in
theorem ggX3_whisper_X3_whisperVain : GoodIn wsX3_whisper wsX3_whisperVain := goodIn_r _ [23, 24, 25, 26, 5, 27, 28, 33, 34, 35, 36, 37, 38, 39, 40, 41, 42] (by decide +kernel) (by decide +kernel)
set_option maxRecDepth 20000 in
theorem gX3_whisper_X3_whisperVain : GoodIn wsX3_whisper (wsV RX3 207 RX3 yX3_whisperVain wsX3_whisperVain) := goodIn_app (goodIn_of _ (by decide +kernel)) ggX3_whisper_X3_whisperVain
set_option maxRecDepth 20000 in
theorem ggX3_whisper_X3_whisperLent : GoodIn wsX3_whisper wsX3_whisperLent := goodIn_r _ [32, 24, 25, 26, 5, 27, 28, 33, 34, 35, 36, 37, 38, 39, 40, 41, 42] (by decide +kernel) (by decide +kernel)
set_option maxRecDepth 20000 in
theorem gX3_whisper_X3_whisperLent : GoodIn wsX3_whisper (wsV RX3 210 RX3 yX3_whisperLent wsX3_whisperLent) := goodIn_app (goodIn_of _ (by decide +kernel)) ggX3_whisper_X3_whisperLent
theorem dX3_whisper_0 : decode cX3_whisper 0 = .ok (.aload_n 0, 1) := by decide +kernel
theorem dX3_whisper_1 : decode cX3_whisper 1 = .ok (.iload_n 1, 1) := by decide +kernel
theorem dX3_whisper_2 : decode cX3_whisper 2 = .ok (.invokevirtual 79, 3) := by decide +kernel
theorem dX3_whisper_5 : decode cX3_whisper 5 = .ok (.ifCond .ne 5, 3) := by decide +kernel
theorem dX3_whisper_8 : decode cX3_whisper 8 = .ok (.iconst (-1), 1) := by decide +kernel
theorem dX3_whisper_9 : decode cX3_whisper 9 = .ok (.ireturn, 1) := by decide +kernel
theorem dX3_whisper_10 : decode cX3_whisper 10 = .ok (.aload_n 0, 1) := by decide +kernel
theorem dX3_whisper_11 : decode cX3_whisper 11 = .ok (.getfield 34, 3) := by decide +kernel
theorem dX3_whisper_14 : decode cX3_whisper 14 = .ok (.iload_n 1, 1) := by decide +kernel
theorem dX3_whisper_15 : decode cX3_whisper 15 = .ok (.invokevirtual 83, 3) := by decide +kernel
theorem dX3_whisper_18 : decode cX3_whisper 18 = .ok (.iconst 2, 1) := by decide +kernel
theorem dX3_whisper_19 : decode cX3_whisper 19 = .ok (.if_icmp .ne 10, 3) := by decide +kernel
theorem dX3_whisper_22 : decode cX3_whisper 22 = .ok (.aload_n 0, 1) := by decide +kernel
theorem dX3_whisper_23 : decode cX3_whisper 23 = .ok (.invokevirtual 207, 3) := by decide +kernel
theorem dX3_whisper_26 : decode cX3_whisper 26 = .ok (.goto 8, 3) := by decide +kernel
theorem dX3_whisper_29 : decode cX3_whisper 29 = .ok (.aload_n 0, 1) := by decide +kernel
theorem dX3_whisper_30 : decode cX3_whisper 30 = .ok (.iload_n 1, 1) := by decide +kernel
theorem dX3_whisper_31 : decode cX3_whisper 31 = .ok (.invokevirtual 210, 3) := by decide +kernel
theorem dX3_whisper_34 : decode cX3_whisper 34 = .ok (.ireturn, 1) := by decide +kernel
set_option maxRecDepth 20000 in
theorem ggX3_as_X3_isAnswer : GoodIn wsX3_as wsX3_isAnswer := goodIn_r _ [7, 2, 8, 9, 10, 11, 12, 13, 28, 29, 30, 31, 32, 33, 34, 35, 36, 37, 38, 39, 40, 41, 42, 43] (by decide +kernel) (by decide +kernel)
set_option maxRecDepth 20000 in
theorem gX3_as_X3_isAnswer : GoodIn wsX3_as (wsV RX3 79 RX3 yX3_isAnswer wsX3_isAnswer) := goodIn_app (goodIn_of _ (by decide +kernel)) ggX3_as_X3_isAnswer
set_option maxRecDepth 20000 in
theorem ggX3_as_X3_within : GoodIn wsX3_as wsX3_within := goodIn_r _ [16] (by decide +kernel) (by decide +kernel)
set_option maxRecDepth 20000 in
theorem gX3_as_X3_within : GoodIn wsX3_as (va_wsS RX3 54 yX3_within wsX3_within) := goodIn_app (goodIn_of _ (by decide +kernel)) ggX3_as_X3_within
set_option maxRecDepth 20000 in
theorem ggX3_as_X1_kindOf : GoodIn wsX3_as wsX1_kindOf := goodIn_r _ [20, 21, 22, 6, 23, 38, 39, 40, 41, 42, 43] (by decide +kernel) (by decide +kernel)
set_option maxRecDepth 20000 in
theorem gX3_as_X1_kindOf : GoodIn wsX3_as (wsV RX3 83 RX1 yX1_kindOf wsX1_kindOf) := goodIn_app (goodIn_of _ (by decide +kernel)) ggX3_as_X1_kindOf
set_option maxRecDepth 20000 in
theorem ggX3_as_X3_faulted : GoodIn wsX3_as wsX3_faulted := goodIn_r _ [27, 1, 28, 29, 30, 31, 32, 33, 34, 35, 36, 37] (by decide +kernel) (by decide +kernel)
set_option maxRecDepth 20000 in
theorem gX3_as_X3_faulted : GoodIn wsX3_as (wsV RX3 65 RX3 yX3_faulted wsX3_faulted) := goodIn_app (goodIn_of _ (by decide +kernel)) ggX3_as_X3_faulted
theorem dX3_as_0 : decode cX3_as 0 = .ok (.aload_n 0, 1) := by decide +kernel
theorem dX3_as_1 : decode cX3_as 1 = .ok (.iconst 0, 1) := by decide +kernel
theorem dX3_as_2 : decode cX3_as 2 = .ok (.putfield 45, 3) := by decide +kernel
theorem dX3_as_5 : decode cX3_as 5 = .ok (.aload_n 0, 1) := by decide +kernel
theorem dX3_as_6 : decode cX3_as 6 = .ok (.iload_n 1, 1) := by decide +kernel
theorem dX3_as_7 : decode cX3_as 7 = .ok (.invokevirtual 79, 3) := by decide +kernel
theorem dX3_as_10 : decode cX3_as 10 = .ok (.ifCond .ne 5, 3) := by decide +kernel
theorem dX3_as_13 : decode cX3_as 13 = .ok (.iconst (-1), 1) := by decide +kernel
theorem dX3_as_14 : decode cX3_as 14 = .ok (.ireturn, 1) := by decide +kernel
theorem dX3_as_15 : decode cX3_as 15 = .ok (.iload_n 2, 1) := by decide +kernel
theorem dX3_as_16 : decode cX3_as 16 = .ok (.iconst 2, 1) := by decide +kernel
theorem dX3_as_17 : decode cX3_as 17 = .ok (.invokestatic 54, 3) := by decide +kernel
theorem dX3_as_20 : decode cX3_as 20 = .ok (.ifCond .ne 6, 3) := by decide +kernel
theorem dX3_as_23 : decode cX3_as 23 = .ok (.bipush (-2), 2) := by decide +kernel
theorem dX3_as_25 : decode cX3_as 25 = .ok (.ireturn, 1) := by decide +kernel
theorem dX3_as_26 : decode cX3_as 26 = .ok (.aload_n 0, 1) := by decide +kernel
theorem dX3_as_27 : decode cX3_as 27 = .ok (.getfield 34, 3) := by decide +kernel
theorem dX3_as_30 : decode cX3_as 30 = .ok (.iload_n 1, 1) := by decide +kernel
theorem dX3_as_31 : decode cX3_as 31 = .ok (.invokevirtual 83, 3) := by decide +kernel
theorem dX3_as_34 : decode cX3_as 34 = .ok (.iload_n 2, 1) := by decide +kernel
theorem dX3_as_35 : decode cX3_as 35 = .ok (.if_icmp .lt 7, 3) := by decide +kernel
theorem dX3_as_38 : decode cX3_as 38 = .ok (.iconst 1, 1) := by decide +kernel
theorem dX3_as_39 : decode cX3_as 39 = .ok (.goto 8, 3) := by decide +kernel
theorem dX3_as_42 : decode cX3_as 42 = .ok (.aload_n 0, 1) := by decide +kernel
theorem dX3_as_43 : decode cX3_as 43 = .ok (.iconst 2, 1) := by decide +kernel
theorem dX3_as_44 : decode cX3_as 44 = .ok (.invokevirtual 65, 3) := by decide +kernel
theorem dX3_as_47 : decode cX3_as 47 = .ok (.ireturn, 1) := by decide +kernel
theorem dX3_trace_0 : decode cX3_trace 0 = .ok (.aload_n 0, 1) := by decide +kernel
theorem dX3_trace_1 : decode cX3_trace 1 = .ok (.getfield 213, 3) := by decide +kernel
theorem dX3_trace_4 : decode cX3_trace 4 = .ok (.ireturn, 1) := by decide +kernel
theorem dX3_fault_0 : decode cX3_fault 0 = .ok (.aload_n 0, 1) := by decide +kernel
theorem dX3_fault_1 : decode cX3_fault 1 = .ok (.getfield 45, 3) := by decide +kernel
theorem dX3_fault_4 : decode cX3_fault 4 = .ok (.ireturn, 1) := by decide +kernel
set_option maxRecDepth 20000 in
theorem ggX3_many_X1_answers : GoodIn wsX3_many wsX1_answers := goodIn_r _ [7, 8, 29, 30, 31, 32, 33, 34] (by decide +kernel) (by decide +kernel)
set_option maxRecDepth 20000 in
theorem gX3_many_X1_answers : GoodIn wsX3_many (wsV RX3 75 RX1 yX1_answers wsX1_answers) := goodIn_app (goodIn_of _ (by decide +kernel)) ggX3_many_X1_answers
set_option maxRecDepth 20000 in
theorem ggX3_many_X1_pillars : GoodIn wsX3_many wsX1_pillars := goodIn_r _ [12, 13, 29, 30, 31, 32, 33, 34] (by decide +kernel) (by decide +kernel)
set_option maxRecDepth 20000 in
theorem gX3_many_X1_pillars : GoodIn wsX3_many (wsV RX3 155 RX1 yX1_pillars wsX1_pillars) := goodIn_app (goodIn_of _ (by decide +kernel)) ggX3_many_X1_pillars
set_option maxRecDepth 20000 in
theorem ggX3_many_X1_growth : GoodIn wsX3_many wsX1_growth := goodIn_r _ [17, 18, 29, 30, 31, 32, 33, 34] (by decide +kernel) (by decide +kernel)
set_option maxRecDepth 20000 in
theorem gX3_many_X1_growth : GoodIn wsX3_many (wsV RX3 97 RX1 yX1_growth wsX1_growth) := goodIn_app (goodIn_of _ (by decide +kernel)) ggX3_many_X1_growth
theorem dX3_many_0 : decode cX3_many 0 = .ok (.iload_n 1, 1) := by decide +kernel
theorem dX3_many_1 : decode cX3_many 1 = .ok (.tableswitch 60 0 3 #[31, 39, 47, 55], 31) := by decide +kernel
theorem dX3_many_32 : decode cX3_many 32 = .ok (.aload_n 0, 1) := by decide +kernel
theorem dX3_many_33 : decode cX3_many 33 = .ok (.getfield 34, 3) := by decide +kernel
theorem dX3_many_36 : decode cX3_many 36 = .ok (.invokevirtual 75, 3) := by decide +kernel
theorem dX3_many_39 : decode cX3_many 39 = .ok (.ireturn, 1) := by decide +kernel
theorem dX3_many_40 : decode cX3_many 40 = .ok (.aload_n 0, 1) := by decide +kernel
theorem dX3_many_41 : decode cX3_many 41 = .ok (.getfield 34, 3) := by decide +kernel
theorem dX3_many_44 : decode cX3_many 44 = .ok (.invokevirtual 155, 3) := by decide +kernel
theorem dX3_many_47 : decode cX3_many 47 = .ok (.ireturn, 1) := by decide +kernel
theorem dX3_many_48 : decode cX3_many 48 = .ok (.aload_n 0, 1) := by decide +kernel
theorem dX3_many_49 : decode cX3_many 49 = .ok (.getfield 34, 3) := by decide +kernel
theorem dX3_many_52 : decode cX3_many 52 = .ok (.invokevirtual 97, 3) := by decide +kernel
theorem dX3_many_55 : decode cX3_many 55 = .ok (.ireturn, 1) := by decide +kernel
theorem dX3_many_56 : decode cX3_many 56 = .ok (.aload_n 0, 1) := by decide +kernel
theorem dX3_many_57 : decode cX3_many 57 = .ok (.getfield 161, 3) := by decide +kernel
theorem dX3_many_60 : decode cX3_many 60 = .ok (.ireturn, 1) := by decide +kernel
theorem dX3_many_61 : decode cX3_many 61 = .ok (.bipush (-2), 2) := by decide +kernel
theorem dX3_many_63 : decode cX3_many 63 = .ok (.ireturn, 1) := by decide +kernel
theorem dX3_within_0 : decode cX3_within 0 = .ok (.iload_n 0, 1) := by decide +kernel
theorem dX3_within_1 : decode cX3_within 1 = .ok (.ifCond .lt 12, 3) := by decide +kernel
theorem dX3_within_4 : decode cX3_within 4 = .ok (.iload_n 0, 1) := by decide +kernel
theorem dX3_within_5 : decode cX3_within 5 = .ok (.iload_n 1, 1) := by decide +kernel
theorem dX3_within_6 : decode cX3_within 6 = .ok (.if_icmp .gt 7, 3) := by decide +kernel
theorem dX3_within_9 : decode cX3_within 9 = .ok (.iconst 1, 1) := by decide +kernel
theorem dX3_within_10 : decode cX3_within 10 = .ok (.goto 4, 3) := by decide +kernel
theorem dX3_within_13 : decode cX3_within 13 = .ok (.iconst 0, 1) := by decide +kernel
theorem dX3_within_14 : decode cX3_within 14 = .ok (.ireturn, 1) := by decide +kernel
theorem dX3_has_0 : decode cX3_has 0 = .ok (.iload_n 0, 1) := by decide +kernel
theorem dX3_has_1 : decode cX3_has 1 = .ok (.iload_n 1, 1) := by decide +kernel
theorem dX3_has_2 : decode cX3_has 2 = .ok (.ishr, 1) := by decide +kernel
theorem dX3_has_3 : decode cX3_has 3 = .ok (.iconst 1, 1) := by decide +kernel
theorem dX3_has_4 : decode cX3_has 4 = .ok (.iand, 1) := by decide +kernel
theorem dX3_has_5 : decode cX3_has 5 = .ok (.ifCond .eq 7, 3) := by decide +kernel
theorem dX3_has_8 : decode cX3_has 8 = .ok (.iconst 1, 1) := by decide +kernel
theorem dX3_has_9 : decode cX3_has 9 = .ok (.goto 4, 3) := by decide +kernel
theorem dX3_has_12 : decode cX3_has 12 = .ok (.iconst 0, 1) := by decide +kernel
theorem dX3_has_13 : decode cX3_has 13 = .ok (.ireturn, 1) := by decide +kernel
theorem dX3_isSetOf_0 : decode cX3_isSetOf 0 = .ok (.iload_n 1, 1) := by decide +kernel
theorem dX3_isSetOf_1 : decode cX3_isSetOf 1 = .ok (.ifCond .lt 14, 3) := by decide +kernel
theorem dX3_isSetOf_4 : decode cX3_isSetOf 4 = .ok (.iload_n 1, 1) := by decide +kernel
theorem dX3_isSetOf_5 : decode cX3_isSetOf 5 = .ok (.iconst 1, 1) := by decide +kernel
theorem dX3_isSetOf_6 : decode cX3_isSetOf 6 = .ok (.iload_n 0, 1) := by decide +kernel
theorem dX3_isSetOf_7 : decode cX3_isSetOf 7 = .ok (.ishl, 1) := by decide +kernel
theorem dX3_isSetOf_8 : decode cX3_isSetOf 8 = .ok (.if_icmp .ge 7, 3) := by decide +kernel
theorem dX3_isSetOf_11 : decode cX3_isSetOf 11 = .ok (.iconst 1, 1) := by decide +kernel
theorem dX3_isSetOf_12 : decode cX3_isSetOf 12 = .ok (.goto 4, 3) := by decide +kernel
theorem dX3_isSetOf_15 : decode cX3_isSetOf 15 = .ok (.iconst 0, 1) := by decide +kernel
theorem dX3_isSetOf_16 : decode cX3_isSetOf 16 = .ok (.ireturn, 1) := by decide +kernel
theorem dX3_at_0 : decode cX3_at 0 = .ok (.iload_n 1, 1) := by decide +kernel
theorem dX3_at_1 : decode cX3_at 1 = .ok (.ifCond .lt 15, 3) := by decide +kernel
theorem dX3_at_4 : decode cX3_at 4 = .ok (.iload_n 1, 1) := by decide +kernel
theorem dX3_at_5 : decode cX3_at 5 = .ok (.aload_n 0, 1) := by decide +kernel
theorem dX3_at_6 : decode cX3_at 6 = .ok (.arraylength, 1) := by decide +kernel
theorem dX3_at_7 : decode cX3_at 7 = .ok (.if_icmp .ge 9, 3) := by decide +kernel
theorem dX3_at_10 : decode cX3_at 10 = .ok (.aload_n 0, 1) := by decide +kernel
theorem dX3_at_11 : decode cX3_at 11 = .ok (.iload_n 1, 1) := by decide +kernel
theorem dX3_at_12 : decode cX3_at 12 = .ok (.iaload, 1) := by decide +kernel
theorem dX3_at_13 : decode cX3_at 13 = .ok (.goto 4, 3) := by decide +kernel
theorem dX3_at_16 : decode cX3_at 16 = .ok (.iconst 0, 1) := by decide +kernel
theorem dX3_at_17 : decode cX3_at 17 = .ok (.ireturn, 1) := by decide +kernel
theorem dX3_write_0 : decode cX3_write 0 = .ok (.iload_n 1, 1) := by decide +kernel
theorem dX3_write_1 : decode cX3_write 1 = .ok (.ifCond .lt 13, 3) := by decide +kernel
theorem dX3_write_4 : decode cX3_write 4 = .ok (.iload_n 1, 1) := by decide +kernel
theorem dX3_write_5 : decode cX3_write 5 = .ok (.aload_n 0, 1) := by decide +kernel
theorem dX3_write_6 : decode cX3_write 6 = .ok (.arraylength, 1) := by decide +kernel
theorem dX3_write_7 : decode cX3_write 7 = .ok (.if_icmp .ge 7, 3) := by decide +kernel
theorem dX3_write_10 : decode cX3_write 10 = .ok (.aload_n 0, 1) := by decide +kernel
theorem dX3_write_11 : decode cX3_write 11 = .ok (.iload_n 1, 1) := by decide +kernel
theorem dX3_write_12 : decode cX3_write 12 = .ok (.iload_n 2, 1) := by decide +kernel
theorem dX3_write_13 : decode cX3_write 13 = .ok (.iastore, 1) := by decide +kernel
theorem dX3_write_14 : decode cX3_write 14 = .ok (.return_, 1) := by decide +kernel
theorem dX3_shareNumber_0 : decode cX3_shareNumber 0 = .ok (.iload_n 2, 1) := by decide +kernel
theorem dX3_shareNumber_1 : decode cX3_shareNumber 1 = .ok (.ifCond .ne 7, 3) := by decide +kernel
theorem dX3_shareNumber_4 : decode cX3_shareNumber 4 = .ok (.iload_n 0, 1) := by decide +kernel
theorem dX3_shareNumber_5 : decode cX3_shareNumber 5 = .ok (.goto 4, 3) := by decide +kernel
theorem dX3_shareNumber_8 : decode cX3_shareNumber 8 = .ok (.iload_n 1, 1) := by decide +kernel
theorem dX3_shareNumber_9 : decode cX3_shareNumber 9 = .ok (.istore_n 3, 1) := by decide +kernel
theorem dX3_shareNumber_10 : decode cX3_shareNumber 10 = .ok (.iload_n 1, 1) := by decide +kernel
theorem dX3_shareNumber_11 : decode cX3_shareNumber 11 = .ok (.istore 4, 2) := by decide +kernel
theorem dX3_shareNumber_13 : decode cX3_shareNumber 13 = .ok (.iload 4, 2) := by decide +kernel
theorem dX3_shareNumber_15 : decode cX3_shareNumber 15 = .ok (.iconst 1, 1) := by decide +kernel
theorem dX3_shareNumber_16 : decode cX3_shareNumber 16 = .ok (.if_icmp .le 29, 3) := by decide +kernel
theorem dX3_shareNumber_19 : decode cX3_shareNumber 19 = .ok (.iload_n 0, 1) := by decide +kernel
theorem dX3_shareNumber_20 : decode cX3_shareNumber 20 = .ok (.iload 4, 2) := by decide +kernel
theorem dX3_shareNumber_22 : decode cX3_shareNumber 22 = .ok (.irem, 1) := by decide +kernel
theorem dX3_shareNumber_23 : decode cX3_shareNumber 23 = .ok (.ifCond .ne 16, 3) := by decide +kernel
theorem dX3_shareNumber_26 : decode cX3_shareNumber 26 = .ok (.iload_n 1, 1) := by decide +kernel
theorem dX3_shareNumber_27 : decode cX3_shareNumber 27 = .ok (.iload 4, 2) := by decide +kernel
theorem dX3_shareNumber_29 : decode cX3_shareNumber 29 = .ok (.irem, 1) := by decide +kernel
theorem dX3_shareNumber_30 : decode cX3_shareNumber 30 = .ok (.ifCond .ne 9, 3) := by decide +kernel
theorem dX3_shareNumber_33 : decode cX3_shareNumber 33 = .ok (.iload_n 3, 1) := by decide +kernel
theorem dX3_shareNumber_34 : decode cX3_shareNumber 34 = .ok (.iload 4, 2) := by decide +kernel
theorem dX3_shareNumber_36 : decode cX3_shareNumber 36 = .ok (.idiv, 1) := by decide +kernel
theorem dX3_shareNumber_37 : decode cX3_shareNumber 37 = .ok (.i2l, 1) := by decide +kernel
theorem dX3_shareNumber_38 : decode cX3_shareNumber 38 = .ok (.lreturn, 1) := by decide +kernel
theorem dX3_shareNumber_39 : decode cX3_shareNumber 39 = .ok (.iinc 4 (-1), 3) := by decide +kernel
theorem dX3_shareNumber_42 : decode cX3_shareNumber 42 = .ok (.goto (-29), 3) := by decide +kernel
theorem dX3_shareNumber_45 : decode cX3_shareNumber 45 = .ok (.iload_n 3, 1) := by decide +kernel
theorem dX3_shareNumber_46 : decode cX3_shareNumber 46 = .ok (.i2l, 1) := by decide +kernel
theorem dX3_shareNumber_47 : decode cX3_shareNumber 47 = .ok (.lreturn, 1) := by decide +kernel
set_option maxRecDepth 20000 in
theorem ggX3_noSecret_X1_answers : GoodIn wsX3_noSecret wsX1_answers := goodIn_r _ [6, 7, 18, 19, 20, 21, 22, 23] (by decide +kernel) (by decide +kernel)
set_option maxRecDepth 20000 in
theorem gX3_noSecret_X1_answers : GoodIn wsX3_noSecret (wsV RX3 75 RX1 yX1_answers wsX1_answers) := goodIn_app (goodIn_of _ (by decide +kernel)) ggX3_noSecret_X1_answers
theorem dX3_noSecret_0 : decode cX3_noSecret 0 = .ok (.aload_n 0, 1) := by decide +kernel
theorem dX3_noSecret_1 : decode cX3_noSecret 1 = .ok (.getfield 34, 3) := by decide +kernel
theorem dX3_noSecret_4 : decode cX3_noSecret 4 = .ok (.invokevirtual 75, 3) := by decide +kernel
theorem dX3_noSecret_7 : decode cX3_noSecret 7 = .ok (.ifCond .ne 7, 3) := by decide +kernel
theorem dX3_noSecret_10 : decode cX3_noSecret 10 = .ok (.iconst 1, 1) := by decide +kernel
theorem dX3_noSecret_11 : decode cX3_noSecret 11 = .ok (.goto 4, 3) := by decide +kernel
theorem dX3_noSecret_14 : decode cX3_noSecret 14 = .ok (.iconst 0, 1) := by decide +kernel
theorem dX3_noSecret_15 : decode cX3_noSecret 15 = .ok (.ireturn, 1) := by decide +kernel
set_option maxRecDepth 20000 in
theorem ggX3_isAnswer_X1_answers : GoodIn wsX3_isAnswer wsX1_answers := goodIn_r _ [6, 7, 18, 19, 20, 21, 22, 23] (by decide +kernel) (by decide +kernel)
set_option maxRecDepth 20000 in
theorem gX3_isAnswer_X1_answers : GoodIn wsX3_isAnswer (wsV RX3 75 RX1 yX1_answers wsX1_answers) := goodIn_app (goodIn_of _ (by decide +kernel)) ggX3_isAnswer_X1_answers
theorem dX3_isAnswer_0 : decode cX3_isAnswer 0 = .ok (.iload_n 1, 1) := by decide +kernel
theorem dX3_isAnswer_1 : decode cX3_isAnswer 1 = .ok (.ifCond .lt 18, 3) := by decide +kernel
theorem dX3_isAnswer_4 : decode cX3_isAnswer 4 = .ok (.iload_n 1, 1) := by decide +kernel
theorem dX3_isAnswer_5 : decode cX3_isAnswer 5 = .ok (.aload_n 0, 1) := by decide +kernel
theorem dX3_isAnswer_6 : decode cX3_isAnswer 6 = .ok (.getfield 34, 3) := by decide +kernel
theorem dX3_isAnswer_9 : decode cX3_isAnswer 9 = .ok (.invokevirtual 75, 3) := by decide +kernel
theorem dX3_isAnswer_12 : decode cX3_isAnswer 12 = .ok (.if_icmp .ge 7, 3) := by decide +kernel
theorem dX3_isAnswer_15 : decode cX3_isAnswer 15 = .ok (.iconst 1, 1) := by decide +kernel
theorem dX3_isAnswer_16 : decode cX3_isAnswer 16 = .ok (.goto 4, 3) := by decide +kernel
theorem dX3_isAnswer_19 : decode cX3_isAnswer 19 = .ok (.iconst 0, 1) := by decide +kernel
theorem dX3_isAnswer_20 : decode cX3_isAnswer 20 = .ok (.ireturn, 1) := by decide +kernel
theorem dX3_sheetOf_0 : decode cX3_sheetOf 0 = .ok (.iload_n 1, 1) := by decide +kernel
theorem dX3_sheetOf_1 : decode cX3_sheetOf 1 = .ok (.ifCond .lt 21, 3) := by decide +kernel
theorem dX3_sheetOf_4 : decode cX3_sheetOf 4 = .ok (.iload_n 1, 1) := by decide +kernel
theorem dX3_sheetOf_5 : decode cX3_sheetOf 5 = .ok (.aload_n 0, 1) := by decide +kernel
theorem dX3_sheetOf_6 : decode cX3_sheetOf 6 = .ok (.getfield 13, 3) := by decide +kernel
theorem dX3_sheetOf_9 : decode cX3_sheetOf 9 = .ok (.arraylength, 1) := by decide +kernel
theorem dX3_sheetOf_10 : decode cX3_sheetOf 10 = .ok (.if_icmp .ge 12, 3) := by decide +kernel
theorem dX3_sheetOf_13 : decode cX3_sheetOf 13 = .ok (.aload_n 0, 1) := by decide +kernel
theorem dX3_sheetOf_14 : decode cX3_sheetOf 14 = .ok (.getfield 13, 3) := by decide +kernel
theorem dX3_sheetOf_17 : decode cX3_sheetOf 17 = .ok (.iload_n 1, 1) := by decide +kernel
theorem dX3_sheetOf_18 : decode cX3_sheetOf 18 = .ok (.aaload, 1) := by decide +kernel
theorem dX3_sheetOf_19 : decode cX3_sheetOf 19 = .ok (.goto 4, 3) := by decide +kernel
theorem dX3_sheetOf_22 : decode cX3_sheetOf 22 = .ok (.aconst_null, 1) := by decide +kernel
theorem dX3_sheetOf_23 : decode cX3_sheetOf 23 = .ok (.areturn, 1) := by decide +kernel
theorem dX3_faulted_0 : decode cX3_faulted 0 = .ok (.aload_n 0, 1) := by decide +kernel
theorem dX3_faulted_1 : decode cX3_faulted 1 = .ok (.iload_n 1, 1) := by decide +kernel
theorem dX3_faulted_2 : decode cX3_faulted 2 = .ok (.putfield 45, 3) := by decide +kernel
theorem dX3_faulted_5 : decode cX3_faulted 5 = .ok (.bipush (-10), 2) := by decide +kernel
theorem dX3_faulted_7 : decode cX3_faulted 7 = .ok (.iload_n 1, 1) := by decide +kernel
theorem dX3_faulted_8 : decode cX3_faulted 8 = .ok (.isub, 1) := by decide +kernel
theorem dX3_faulted_9 : decode cX3_faulted 9 = .ok (.ireturn, 1) := by decide +kernel
theorem dX3_takeSpare_0 : decode cX3_takeSpare 0 = .ok (.aload_n 0, 1) := by decide +kernel
theorem dX3_takeSpare_1 : decode cX3_takeSpare 1 = .ok (.getfield 34, 3) := by decide +kernel
theorem dX3_takeSpare_4 : decode cX3_takeSpare 4 = .ok (.astore_n 1, 1) := by decide +kernel
theorem dX3_takeSpare_5 : decode cX3_takeSpare 5 = .ok (.aload_n 0, 1) := by decide +kernel
theorem dX3_takeSpare_6 : decode cX3_takeSpare 6 = .ok (.aload_n 0, 1) := by decide +kernel
theorem dX3_takeSpare_7 : decode cX3_takeSpare 7 = .ok (.getfield 38, 3) := by decide +kernel
theorem dX3_takeSpare_10 : decode cX3_takeSpare 10 = .ok (.putfield 34, 3) := by decide +kernel
theorem dX3_takeSpare_13 : decode cX3_takeSpare 13 = .ok (.aload_n 0, 1) := by decide +kernel
theorem dX3_takeSpare_14 : decode cX3_takeSpare 14 = .ok (.aload_n 1, 1) := by decide +kernel
theorem dX3_takeSpare_15 : decode cX3_takeSpare 15 = .ok (.putfield 38, 3) := by decide +kernel
theorem dX3_takeSpare_18 : decode cX3_takeSpare 18 = .ok (.aload_n 0, 1) := by decide +kernel
theorem dX3_takeSpare_19 : decode cX3_takeSpare 19 = .ok (.iconst 0, 1) := by decide +kernel
theorem dX3_takeSpare_20 : decode cX3_takeSpare 20 = .ok (.putfield 161, 3) := by decide +kernel
theorem dX3_takeSpare_23 : decode cX3_takeSpare 23 = .ok (.aload_n 0, 1) := by decide +kernel
theorem dX3_takeSpare_24 : decode cX3_takeSpare 24 = .ok (.iconst 1, 1) := by decide +kernel
theorem dX3_takeSpare_25 : decode cX3_takeSpare 25 = .ok (.putfield 41, 3) := by decide +kernel
theorem dX3_takeSpare_28 : decode cX3_takeSpare 28 = .ok (.return_, 1) := by decide +kernel
set_option maxRecDepth 20000 in
theorem ggX3_planned_X0_make : GoodIn wsX3_planned wsX0_make := goodIn_r _ [8, 9, 10, 11, 12, 13, 14, 15, 16, 17, 18, 19, 20, 21, 22, 23, 24, 25, 26, 27, 28, 29, 30, 31, 32, 33, 34, 35, 36, 37, 38, 39, 40, 41, 42, 43, 44, 7, 45, 46, 47, 48, 49, 50, 51, 52, 53, 54, 55, 56, 57, 58, 59, 60, 61, 62, 63, 64, 65, 66, 67, 68, 69, 80, 81, 82, 83, 84, 85, 86, 87, 88, 89, 90] (by decide +kernel) (by decide +kernel)
set_option maxRecDepth 20000 in
theorem gX3_planned_X0_make : GoodIn wsX3_planned (wsV RX3 216 RX0 yX0_make wsX0_make) := goodIn_app (goodIn_of _ (by decide +kernel)) ggX3_planned_X0_make
theorem dX3_planned_0 : decode cX3_planned 0 = .ok (.aload_n 0, 1) := by decide +kernel
theorem dX3_planned_1 : decode cX3_planned 1 = .ok (.getfield 41, 3) := by decide +kernel
theorem dX3_planned_4 : decode cX3_planned 4 = .ok (.ifCond .eq 19, 3) := by decide +kernel
theorem dX3_planned_7 : decode cX3_planned 7 = .ok (.aload_n 0, 1) := by decide +kernel
theorem dX3_planned_8 : decode cX3_planned 8 = .ok (.getfield 20, 3) := by decide +kernel
theorem dX3_planned_11 : decode cX3_planned 11 = .ok (.aload_n 0, 1) := by decide +kernel
theorem dX3_planned_12 : decode cX3_planned 12 = .ok (.getfield 34, 3) := by decide +kernel
theorem dX3_planned_15 : decode cX3_planned 15 = .ok (.invokevirtual 216, 3) := by decide +kernel
theorem dX3_planned_18 : decode cX3_planned 18 = .ok (.aload_n 0, 1) := by decide +kernel
theorem dX3_planned_19 : decode cX3_planned 19 = .ok (.iconst 0, 1) := by decide +kernel
theorem dX3_planned_20 : decode cX3_planned 20 = .ok (.putfield 41, 3) := by decide +kernel
theorem dX3_planned_23 : decode cX3_planned 23 = .ok (.aload_n 0, 1) := by decide +kernel
theorem dX3_planned_24 : decode cX3_planned 24 = .ok (.getfield 20, 3) := by decide +kernel
theorem dX3_planned_27 : decode cX3_planned 27 = .ok (.areturn, 1) := by decide +kernel
set_option maxRecDepth 20000 in
theorem ggX3_areAnswers_X2_get : GoodIn wsX3_areAnswers wsX2_get := goodIn_r _ [5, 6, 7, 8, 9, 21, 22, 23] (by decide +kernel) (by decide +kernel)
set_option maxRecDepth 20000 in
theorem gX3_areAnswers_X2_get : GoodIn wsX3_areAnswers (wsV RX3 119 RX2 yX2_get wsX2_get) := goodIn_app (goodIn_of _ (by decide +kernel)) ggX3_areAnswers_X2_get
set_option maxRecDepth 20000 in
theorem ggX3_areAnswers_X3_isAnswer : GoodIn wsX3_areAnswers wsX3_isAnswer := goodIn_r _ [13, 14, 15, 16, 17, 18, 19, 20, 24, 25, 26, 27, 28, 29, 30, 31, 32, 33, 34, 35, 36, 37, 38, 39] (by decide +kernel) (by decide +kernel)
set_option maxRecDepth 20000 in
theorem gX3_areAnswers_X3_isAnswer : GoodIn wsX3_areAnswers (wsV RX3 79 RX3 yX3_isAnswer wsX3_isAnswer) := goodIn_app (goodIn_of _ (by decide +kernel)) ggX3_areAnswers_X3_isAnswer
theorem dX3_areAnswers_0 : decode cX3_areAnswers 0 = .ok (.iconst 0, 1) := by decide +kernel
theorem dX3_areAnswers_1 : decode cX3_areAnswers 1 = .ok (.istore 4, 2) := by decide +kernel
theorem dX3_areAnswers_3 : decode cX3_areAnswers 3 = .ok (.iload 4, 2) := by decide +kernel
theorem dX3_areAnswers_5 : decode cX3_areAnswers 5 = .ok (.iload_n 3, 1) := by decide +kernel
theorem dX3_areAnswers_6 : decode cX3_areAnswers 6 = .ok (.if_icmp .ge 26, 3) := by decide +kernel
theorem dX3_areAnswers_9 : decode cX3_areAnswers 9 = .ok (.aload_n 0, 1) := by decide +kernel
theorem dX3_areAnswers_10 : decode cX3_areAnswers 10 = .ok (.aload_n 1, 1) := by decide +kernel
theorem dX3_areAnswers_11 : decode cX3_areAnswers 11 = .ok (.iload_n 2, 1) := by decide +kernel
theorem dX3_areAnswers_12 : decode cX3_areAnswers 12 = .ok (.iload 4, 2) := by decide +kernel
theorem dX3_areAnswers_14 : decode cX3_areAnswers 14 = .ok (.iadd, 1) := by decide +kernel
theorem dX3_areAnswers_15 : decode cX3_areAnswers 15 = .ok (.invokevirtual 119, 3) := by decide +kernel
theorem dX3_areAnswers_18 : decode cX3_areAnswers 18 = .ok (.invokevirtual 79, 3) := by decide +kernel
theorem dX3_areAnswers_21 : decode cX3_areAnswers 21 = .ok (.ifCond .ne 5, 3) := by decide +kernel
theorem dX3_areAnswers_24 : decode cX3_areAnswers 24 = .ok (.iconst 0, 1) := by decide +kernel
theorem dX3_areAnswers_25 : decode cX3_areAnswers 25 = .ok (.ireturn, 1) := by decide +kernel
theorem dX3_areAnswers_26 : decode cX3_areAnswers 26 = .ok (.iinc 4 1, 3) := by decide +kernel
theorem dX3_areAnswers_29 : decode cX3_areAnswers 29 = .ok (.goto (-26), 3) := by decide +kernel
theorem dX3_areAnswers_32 : decode cX3_areAnswers 32 = .ok (.iconst 1, 1) := by decide +kernel
theorem dX3_areAnswers_33 : decode cX3_areAnswers 33 = .ok (.ireturn, 1) := by decide +kernel
set_option maxRecDepth 20000 in
theorem ggX3_boundOn_X2_get : GoodIn wsX3_boundOn wsX2_get := goodIn_r _ [5, 6, 7, 8, 9, 10, 11, 12] (by decide +kernel) (by decide +kernel)
set_option maxRecDepth 20000 in
theorem gX3_boundOn_X2_get : GoodIn wsX3_boundOn (wsV RX3 119 RX2 yX2_get wsX2_get) := goodIn_app (goodIn_of _ (by decide +kernel)) ggX3_boundOn_X2_get
theorem dX3_boundOn_0 : decode cX3_boundOn 0 = .ok (.iconst 0, 1) := by decide +kernel
theorem dX3_boundOn_1 : decode cX3_boundOn 1 = .ok (.istore 5, 2) := by decide +kernel
theorem dX3_boundOn_3 : decode cX3_boundOn 3 = .ok (.iload 5, 2) := by decide +kernel
theorem dX3_boundOn_5 : decode cX3_boundOn 5 = .ok (.iload 4, 2) := by decide +kernel
theorem dX3_boundOn_7 : decode cX3_boundOn 7 = .ok (.if_icmp .ge 24, 3) := by decide +kernel
theorem dX3_boundOn_10 : decode cX3_boundOn 10 = .ok (.aload_n 2, 1) := by decide +kernel
theorem dX3_boundOn_11 : decode cX3_boundOn 11 = .ok (.iload_n 3, 1) := by decide +kernel
theorem dX3_boundOn_12 : decode cX3_boundOn 12 = .ok (.iload 5, 2) := by decide +kernel
theorem dX3_boundOn_14 : decode cX3_boundOn 14 = .ok (.iadd, 1) := by decide +kernel
theorem dX3_boundOn_15 : decode cX3_boundOn 15 = .ok (.invokevirtual 119, 3) := by decide +kernel
theorem dX3_boundOn_18 : decode cX3_boundOn 18 = .ok (.iload_n 1, 1) := by decide +kernel
theorem dX3_boundOn_19 : decode cX3_boundOn 19 = .ok (.if_icmp .ne 6, 3) := by decide +kernel
theorem dX3_boundOn_22 : decode cX3_boundOn 22 = .ok (.iload 5, 2) := by decide +kernel
theorem dX3_boundOn_24 : decode cX3_boundOn 24 = .ok (.ireturn, 1) := by decide +kernel
theorem dX3_boundOn_25 : decode cX3_boundOn 25 = .ok (.iinc 5 1, 3) := by decide +kernel
theorem dX3_boundOn_28 : decode cX3_boundOn 28 = .ok (.goto (-25), 3) := by decide +kernel
theorem dX3_boundOn_31 : decode cX3_boundOn 31 = .ok (.bipush (-9), 2) := by decide +kernel
theorem dX3_boundOn_33 : decode cX3_boundOn 33 = .ok (.ireturn, 1) := by decide +kernel
set_option maxRecDepth 20000 in
theorem ggX3_mayBe_X1_all : GoodIn wsX3_mayBe wsX1_all := goodIn_r _ [6, 7, 41, 42, 43, 44, 45, 46] (by decide +kernel) (by decide +kernel)
set_option maxRecDepth 20000 in
theorem gX3_mayBe_X1_all : GoodIn wsX3_mayBe (wsV RX3 220 RX1 yX1_all wsX1_all) := goodIn_app (goodIn_of _ (by decide +kernel)) ggX3_mayBe_X1_all
set_option maxRecDepth 20000 in
theorem ggX3_mayBe_X2_get : GoodIn wsX3_mayBe wsX2_get := goodIn_r _ [12, 13, 14, 15, 16, 47, 48, 49] (by decide +kernel) (by decide +kernel)
set_option maxRecDepth 20000 in
theorem gX3_mayBe_X2_get : GoodIn wsX3_mayBe (wsV RX3 119 RX2 yX2_get wsX2_get) := goodIn_app (goodIn_of _ (by decide +kernel)) ggX3_mayBe_X2_get
set_option maxRecDepth 20000 in
theorem ggX3_mayBe_X1_alike : GoodIn wsX3_mayBe wsX1_alike := goodIn_r _ [20, 7, 21, 22, 23, 5, 24, 25, 26, 27, 28, 29, 30, 14, 15, 16, 41, 42, 43, 44, 45, 46] (by decide +kernel) (by decide +kernel)
set_option maxRecDepth 20000 in
theorem gX3_mayBe_X1_alike : GoodIn wsX3_mayBe (wsV RX3 152 RX1 yX1_alike wsX1_alike) := goodIn_app (goodIn_of _ (by decide +kernel)) ggX3_mayBe_X1_alike
theorem dX3_mayBe_0 : decode cX3_mayBe 0 = .ok (.aload_n 0, 1) := by decide +kernel
theorem dX3_mayBe_1 : decode cX3_mayBe 1 = .ok (.getfield 34, 3) := by decide +kernel
theorem dX3_mayBe_4 : decode cX3_mayBe 4 = .ok (.invokevirtual 220, 3) := by decide +kernel
theorem dX3_mayBe_7 : decode cX3_mayBe 7 = .ok (.istore 5, 2) := by decide +kernel
theorem dX3_mayBe_9 : decode cX3_mayBe 9 = .ok (.iconst 0, 1) := by decide +kernel
theorem dX3_mayBe_10 : decode cX3_mayBe 10 = .ok (.istore 6, 2) := by decide +kernel
theorem dX3_mayBe_12 : decode cX3_mayBe 12 = .ok (.iload 6, 2) := by decide +kernel
theorem dX3_mayBe_14 : decode cX3_mayBe 14 = .ok (.iload 4, 2) := by decide +kernel
theorem dX3_mayBe_16 : decode cX3_mayBe 16 = .ok (.if_icmp .ge 30, 3) := by decide +kernel
theorem dX3_mayBe_19 : decode cX3_mayBe 19 = .ok (.iload 5, 2) := by decide +kernel
theorem dX3_mayBe_21 : decode cX3_mayBe 21 = .ok (.aload_n 0, 1) := by decide +kernel
theorem dX3_mayBe_22 : decode cX3_mayBe 22 = .ok (.getfield 34, 3) := by decide +kernel
theorem dX3_mayBe_25 : decode cX3_mayBe 25 = .ok (.aload_n 2, 1) := by decide +kernel
theorem dX3_mayBe_26 : decode cX3_mayBe 26 = .ok (.iload_n 3, 1) := by decide +kernel
theorem dX3_mayBe_27 : decode cX3_mayBe 27 = .ok (.iload 6, 2) := by decide +kernel
theorem dX3_mayBe_29 : decode cX3_mayBe 29 = .ok (.iadd, 1) := by decide +kernel
theorem dX3_mayBe_30 : decode cX3_mayBe 30 = .ok (.invokevirtual 119, 3) := by decide +kernel
theorem dX3_mayBe_33 : decode cX3_mayBe 33 = .ok (.iload_n 1, 1) := by decide +kernel
theorem dX3_mayBe_34 : decode cX3_mayBe 34 = .ok (.invokevirtual 152, 3) := by decide +kernel
theorem dX3_mayBe_37 : decode cX3_mayBe 37 = .ok (.iand, 1) := by decide +kernel
theorem dX3_mayBe_38 : decode cX3_mayBe 38 = .ok (.istore 5, 2) := by decide +kernel
theorem dX3_mayBe_40 : decode cX3_mayBe 40 = .ok (.iinc 6 1, 3) := by decide +kernel
theorem dX3_mayBe_43 : decode cX3_mayBe 43 = .ok (.goto (-31), 3) := by decide +kernel
theorem dX3_mayBe_46 : decode cX3_mayBe 46 = .ok (.iload 5, 2) := by decide +kernel
theorem dX3_mayBe_48 : decode cX3_mayBe 48 = .ok (.ireturn, 1) := by decide +kernel
set_option maxRecDepth 20000 in
theorem ggX3_isBoundWithin_X1_all : GoodIn wsX3_isBoundWithin wsX1_all := goodIn_r _ [6, 7, 41, 42, 43, 44, 45, 46] (by decide +kernel) (by decide +kernel)
set_option maxRecDepth 20000 in
theorem gX3_isBoundWithin_X1_all : GoodIn wsX3_isBoundWithin (wsV RX3 220 RX1 yX1_all wsX1_all) := goodIn_app (goodIn_of _ (by decide +kernel)) ggX3_isBoundWithin_X1_all
set_option maxRecDepth 20000 in
theorem ggX3_isBoundWithin_X0_askOf : GoodIn wsX3_isBoundWithin wsX0_askOf := goodIn_r _ [12, 13, 14, 15, 16, 47, 48, 49, 50, 51] (by decide +kernel) (by decide +kernel)
set_option maxRecDepth 20000 in
theorem gX3_isBoundWithin_X0_askOf : GoodIn wsX3_isBoundWithin (wsV RX3 132 RX0 yX0_askOf wsX0_askOf) := goodIn_app (goodIn_of _ (by decide +kernel)) ggX3_isBoundWithin_X0_askOf
set_option maxRecDepth 20000 in
theorem ggX3_isBoundWithin_X1_alike : GoodIn wsX3_isBoundWithin wsX1_alike := goodIn_r _ [20, 7, 21, 22, 23, 5, 24, 25, 26, 27, 28, 29, 30, 14, 15, 16, 41, 42, 43, 44, 45, 46] (by decide +kernel) (by decide +kernel)
set_option maxRecDepth 20000 in
theorem gX3_isBoundWithin_X1_alike : GoodIn wsX3_isBoundWithin (wsV RX3 152 RX1 yX1_alike wsX1_alike) := goodIn_app (goodIn_of _ (by decide +kernel)) ggX3_isBoundWithin_X1_alike
theorem dX3_isBoundWithin_0 : decode cX3_isBoundWithin 0 = .ok (.aload_n 0, 1) := by decide +kernel
theorem dX3_isBoundWithin_1 : decode cX3_isBoundWithin 1 = .ok (.getfield 34, 3) := by decide +kernel
theorem dX3_isBoundWithin_4 : decode cX3_isBoundWithin 4 = .ok (.invokevirtual 220, 3) := by decide +kernel
theorem dX3_isBoundWithin_7 : decode cX3_isBoundWithin 7 = .ok (.istore 4, 2) := by decide +kernel
theorem dX3_isBoundWithin_9 : decode cX3_isBoundWithin 9 = .ok (.iconst 0, 1) := by decide +kernel
theorem dX3_isBoundWithin_10 : decode cX3_isBoundWithin 10 = .ok (.istore 5, 2) := by decide +kernel
theorem dX3_isBoundWithin_12 : decode cX3_isBoundWithin 12 = .ok (.iload 5, 2) := by decide +kernel
theorem dX3_isBoundWithin_14 : decode cX3_isBoundWithin 14 = .ok (.iload_n 3, 1) := by decide +kernel
theorem dX3_isBoundWithin_15 : decode cX3_isBoundWithin 15 = .ok (.if_icmp .ge 40, 3) := by decide +kernel
theorem dX3_isBoundWithin_18 : decode cX3_isBoundWithin 18 = .ok (.aload_n 1, 1) := by decide +kernel
theorem dX3_isBoundWithin_19 : decode cX3_isBoundWithin 19 = .ok (.iload 4, 2) := by decide +kernel
theorem dX3_isBoundWithin_21 : decode cX3_isBoundWithin 21 = .ok (.invokevirtual 132, 3) := by decide +kernel
theorem dX3_isBoundWithin_24 : decode cX3_isBoundWithin 24 = .ok (.istore 6, 2) := by decide +kernel
theorem dX3_isBoundWithin_26 : decode cX3_isBoundWithin 26 = .ok (.iload 6, 2) := by decide +kernel
theorem dX3_isBoundWithin_28 : decode cX3_isBoundWithin 28 = .ok (.iload_n 2, 1) := by decide +kernel
theorem dX3_isBoundWithin_29 : decode cX3_isBoundWithin 29 = .ok (.if_icmp .ne 5, 3) := by decide +kernel
theorem dX3_isBoundWithin_32 : decode cX3_isBoundWithin 32 = .ok (.iconst 1, 1) := by decide +kernel
theorem dX3_isBoundWithin_33 : decode cX3_isBoundWithin 33 = .ok (.ireturn, 1) := by decide +kernel
theorem dX3_isBoundWithin_34 : decode cX3_isBoundWithin 34 = .ok (.iload 4, 2) := by decide +kernel
theorem dX3_isBoundWithin_36 : decode cX3_isBoundWithin 36 = .ok (.aload_n 0, 1) := by decide +kernel
theorem dX3_isBoundWithin_37 : decode cX3_isBoundWithin 37 = .ok (.getfield 34, 3) := by decide +kernel
theorem dX3_isBoundWithin_40 : decode cX3_isBoundWithin 40 = .ok (.iload 6, 2) := by decide +kernel
theorem dX3_isBoundWithin_42 : decode cX3_isBoundWithin 42 = .ok (.iload_n 2, 1) := by decide +kernel
theorem dX3_isBoundWithin_43 : decode cX3_isBoundWithin 43 = .ok (.invokevirtual 152, 3) := by decide +kernel
theorem dX3_isBoundWithin_46 : decode cX3_isBoundWithin 46 = .ok (.iand, 1) := by decide +kernel
theorem dX3_isBoundWithin_47 : decode cX3_isBoundWithin 47 = .ok (.istore 4, 2) := by decide +kernel
theorem dX3_isBoundWithin_49 : decode cX3_isBoundWithin 49 = .ok (.iinc 5 1, 3) := by decide +kernel
theorem dX3_isBoundWithin_52 : decode cX3_isBoundWithin 52 = .ok (.goto (-40), 3) := by decide +kernel
theorem dX3_isBoundWithin_55 : decode cX3_isBoundWithin 55 = .ok (.iconst 0, 1) := by decide +kernel
theorem dX3_isBoundWithin_56 : decode cX3_isBoundWithin 56 = .ok (.ireturn, 1) := by decide +kernel
set_option maxRecDepth 20000 in
theorem ggX3_truths_X1_answers : GoodIn wsX3_truths wsX1_answers := goodIn_r _ [6, 7, 39, 40, 41, 42, 43, 44] (by decide +kernel) (by decide +kernel)
set_option maxRecDepth 20000 in
theorem gX3_truths_X1_answers : GoodIn wsX3_truths (wsV RX3 75 RX1 yX1_answers wsX1_answers) := goodIn_app (goodIn_of _ (by decide +kernel)) ggX3_truths_X1_answers
set_option maxRecDepth 20000 in
theorem ggX3_truths_X3_areReadingsSo : GoodIn wsX3_truths wsX3_areReadingsSo := goodIn_r _ [12, 13, 1, 14, 15, 16, 17, 11, 18, 19, 20, 21, 5, 22, 23, 24, 25, 26, 27, 28, 29, 30, 31, 32, 33, 34, 35, 36, 37, 38, 39, 40, 41, 42, 43, 44] (by decide +kernel) (by decide +kernel)
set_option maxRecDepth 20000 in
theorem gX3_truths_X3_areReadingsSo : GoodIn wsX3_truths (wsV RX3 223 RX3 yX3_areReadingsSo wsX3_areReadingsSo) := goodIn_app (goodIn_of _ (by decide +kernel)) ggX3_truths_X3_areReadingsSo
theorem dX3_truths_0 : decode cX3_truths 0 = .ok (.iconst 0, 1) := by decide +kernel
theorem dX3_truths_1 : decode cX3_truths 1 = .ok (.istore_n 1, 1) := by decide +kernel
theorem dX3_truths_2 : decode cX3_truths 2 = .ok (.iconst 0, 1) := by decide +kernel
theorem dX3_truths_3 : decode cX3_truths 3 = .ok (.istore_n 2, 1) := by decide +kernel
theorem dX3_truths_4 : decode cX3_truths 4 = .ok (.iload_n 2, 1) := by decide +kernel
theorem dX3_truths_5 : decode cX3_truths 5 = .ok (.aload_n 0, 1) := by decide +kernel
theorem dX3_truths_6 : decode cX3_truths 6 = .ok (.getfield 34, 3) := by decide +kernel
theorem dX3_truths_9 : decode cX3_truths 9 = .ok (.invokevirtual 75, 3) := by decide +kernel
theorem dX3_truths_12 : decode cX3_truths 12 = .ok (.if_icmp .ge 23, 3) := by decide +kernel
theorem dX3_truths_15 : decode cX3_truths 15 = .ok (.aload_n 0, 1) := by decide +kernel
theorem dX3_truths_16 : decode cX3_truths 16 = .ok (.iload_n 2, 1) := by decide +kernel
theorem dX3_truths_17 : decode cX3_truths 17 = .ok (.invokevirtual 223, 3) := by decide +kernel
theorem dX3_truths_20 : decode cX3_truths 20 = .ok (.ifCond .eq 9, 3) := by decide +kernel
theorem dX3_truths_23 : decode cX3_truths 23 = .ok (.iload_n 1, 1) := by decide +kernel
theorem dX3_truths_24 : decode cX3_truths 24 = .ok (.iconst 1, 1) := by decide +kernel
theorem dX3_truths_25 : decode cX3_truths 25 = .ok (.iload_n 2, 1) := by decide +kernel
theorem dX3_truths_26 : decode cX3_truths 26 = .ok (.ishl, 1) := by decide +kernel
theorem dX3_truths_27 : decode cX3_truths 27 = .ok (.ior, 1) := by decide +kernel
theorem dX3_truths_28 : decode cX3_truths 28 = .ok (.istore_n 1, 1) := by decide +kernel
theorem dX3_truths_29 : decode cX3_truths 29 = .ok (.iinc 2 1, 3) := by decide +kernel
theorem dX3_truths_32 : decode cX3_truths 32 = .ok (.goto (-28), 3) := by decide +kernel
theorem dX3_truths_35 : decode cX3_truths 35 = .ok (.iload_n 1, 1) := by decide +kernel
theorem dX3_truths_36 : decode cX3_truths 36 = .ok (.ireturn, 1) := by decide +kernel
set_option maxRecDepth 20000 in
theorem ggX3_areReadingsSo_X3_at : GoodIn wsX3_areReadingsSo wsX3_at := goodIn_r _ [8] (by decide +kernel) (by decide +kernel)
set_option maxRecDepth 20000 in
theorem gX3_areReadingsSo_X3_at : GoodIn wsX3_areReadingsSo (va_wsS RX3 226 yX3_at wsX3_at) := goodIn_app (goodIn_of _ (by decide +kernel)) ggX3_areReadingsSo_X3_at
set_option maxRecDepth 20000 in
theorem ggX3_areReadingsSo_X1_shownBy : GoodIn wsX3_areReadingsSo wsX1_shownBy := goodIn_r _ [13, 14, 15, 16, 17, 18, 19, 6, 7, 8, 30, 31, 32, 33, 34, 35] (by decide +kernel) (by decide +kernel)
set_option maxRecDepth 20000 in
theorem gX3_areReadingsSo_X1_shownBy : GoodIn wsX3_areReadingsSo (wsV RX3 104 RX1 yX1_shownBy wsX1_shownBy) := goodIn_app (goodIn_of _ (by decide +kernel)) ggX3_areReadingsSo_X1_shownBy
theorem dX3_areReadingsSo_0 : decode cX3_areReadingsSo 0 = .ok (.iconst 0, 1) := by decide +kernel
theorem dX3_areReadingsSo_1 : decode cX3_areReadingsSo 1 = .ok (.istore_n 2, 1) := by decide +kernel
theorem dX3_areReadingsSo_2 : decode cX3_areReadingsSo 2 = .ok (.iload_n 2, 1) := by decide +kernel
theorem dX3_areReadingsSo_3 : decode cX3_areReadingsSo 3 = .ok (.aload_n 0, 1) := by decide +kernel
theorem dX3_areReadingsSo_4 : decode cX3_areReadingsSo 4 = .ok (.getfield 161, 3) := by decide +kernel
theorem dX3_areReadingsSo_7 : decode cX3_areReadingsSo 7 = .ok (.if_icmp .ge 38, 3) := by decide +kernel
theorem dX3_areReadingsSo_10 : decode cX3_areReadingsSo 10 = .ok (.aload_n 0, 1) := by decide +kernel
theorem dX3_areReadingsSo_11 : decode cX3_areReadingsSo 11 = .ok (.getfield 34, 3) := by decide +kernel
theorem dX3_areReadingsSo_14 : decode cX3_areReadingsSo 14 = .ok (.aload_n 0, 1) := by decide +kernel
theorem dX3_areReadingsSo_15 : decode cX3_areReadingsSo 15 = .ok (.getfield 24, 3) := by decide +kernel
theorem dX3_areReadingsSo_18 : decode cX3_areReadingsSo 18 = .ok (.iload_n 2, 1) := by decide +kernel
theorem dX3_areReadingsSo_19 : decode cX3_areReadingsSo 19 = .ok (.invokestatic 226, 3) := by decide +kernel
theorem dX3_areReadingsSo_22 : decode cX3_areReadingsSo 22 = .ok (.iload_n 1, 1) := by decide +kernel
theorem dX3_areReadingsSo_23 : decode cX3_areReadingsSo 23 = .ok (.invokevirtual 104, 3) := by decide +kernel
theorem dX3_areReadingsSo_26 : decode cX3_areReadingsSo 26 = .ok (.aload_n 0, 1) := by decide +kernel
theorem dX3_areReadingsSo_27 : decode cX3_areReadingsSo 27 = .ok (.getfield 28, 3) := by decide +kernel
theorem dX3_areReadingsSo_30 : decode cX3_areReadingsSo 30 = .ok (.iload_n 2, 1) := by decide +kernel
theorem dX3_areReadingsSo_31 : decode cX3_areReadingsSo 31 = .ok (.invokestatic 226, 3) := by decide +kernel
theorem dX3_areReadingsSo_34 : decode cX3_areReadingsSo 34 = .ok (.if_icmp .eq 5, 3) := by decide +kernel
theorem dX3_areReadingsSo_37 : decode cX3_areReadingsSo 37 = .ok (.iconst 0, 1) := by decide +kernel
theorem dX3_areReadingsSo_38 : decode cX3_areReadingsSo 38 = .ok (.ireturn, 1) := by decide +kernel
theorem dX3_areReadingsSo_39 : decode cX3_areReadingsSo 39 = .ok (.iinc 2 1, 3) := by decide +kernel
theorem dX3_areReadingsSo_42 : decode cX3_areReadingsSo 42 = .ok (.goto (-40), 3) := by decide +kernel
theorem dX3_areReadingsSo_45 : decode cX3_areReadingsSo 45 = .ok (.iconst 1, 1) := by decide +kernel
theorem dX3_areReadingsSo_46 : decode cX3_areReadingsSo 46 = .ok (.ireturn, 1) := by decide +kernel
theorem dX3_leave_0 : decode cX3_leave 0 = .ok (.aload_n 0, 1) := by decide +kernel
theorem dX3_leave_1 : decode cX3_leave 1 = .ok (.bipush 31, 2) := by decide +kernel
theorem dX3_leave_3 : decode cX3_leave 3 = .ok (.aload_n 0, 1) := by decide +kernel
theorem dX3_leave_4 : decode cX3_leave 4 = .ok (.getfield 213, 3) := by decide +kernel
theorem dX3_leave_7 : decode cX3_leave 7 = .ok (.imul, 1) := by decide +kernel
theorem dX3_leave_8 : decode cX3_leave 8 = .ok (.iload_n 1, 1) := by decide +kernel
theorem dX3_leave_9 : decode cX3_leave 9 = .ok (.iadd, 1) := by decide +kernel
theorem dX3_leave_10 : decode cX3_leave 10 = .ok (.putfield 213, 3) := by decide +kernel
theorem dX3_leave_13 : decode cX3_leave 13 = .ok (.return_, 1) := by decide +kernel
set_option maxRecDepth 20000 in
theorem ggX3_tellPlain_X3_leave : GoodIn wsX3_tellPlain wsX3_leave := goodIn_r _ [6, 7, 16, 17, 18, 19, 20, 21, 22, 23, 24, 25] (by decide +kernel) (by decide +kernel)
set_option maxRecDepth 20000 in
theorem gX3_tellPlain_X3_leave : GoodIn wsX3_tellPlain (wsV RX3 230 RX3 yX3_leave wsX3_leave) := goodIn_app (goodIn_of _ (by decide +kernel)) ggX3_tellPlain_X3_leave
set_option maxRecDepth 20000 in
theorem ggX3_tellPlain_X1_placeOf : GoodIn wsX3_tellPlain wsX1_placeOf := goodIn_r _ [12, 13, 14, 5, 15, 26, 27, 28, 29, 30, 31] (by decide +kernel) (by decide +kernel)
set_option maxRecDepth 20000 in
theorem gX3_tellPlain_X1_placeOf : GoodIn wsX3_tellPlain (wsV RX3 86 RX1 yX1_placeOf wsX1_placeOf) := goodIn_app (goodIn_of _ (by decide +kernel)) ggX3_tellPlain_X1_placeOf
theorem dX3_tellPlain_0 : decode cX3_tellPlain 0 = .ok (.aload_n 0, 1) := by decide +kernel
theorem dX3_tellPlain_1 : decode cX3_tellPlain 1 = .ok (.iconst 1, 1) := by decide +kernel
theorem dX3_tellPlain_2 : decode cX3_tellPlain 2 = .ok (.invokevirtual 230, 3) := by decide +kernel
theorem dX3_tellPlain_5 : decode cX3_tellPlain 5 = .ok (.aload_n 0, 1) := by decide +kernel
theorem dX3_tellPlain_6 : decode cX3_tellPlain 6 = .ok (.getfield 34, 3) := by decide +kernel
theorem dX3_tellPlain_9 : decode cX3_tellPlain 9 = .ok (.iload_n 1, 1) := by decide +kernel
theorem dX3_tellPlain_10 : decode cX3_tellPlain 10 = .ok (.invokevirtual 86, 3) := by decide +kernel
theorem dX3_tellPlain_13 : decode cX3_tellPlain 13 = .ok (.ireturn, 1) := by decide +kernel
set_option maxRecDepth 20000 in
theorem ggX3_tellSly_X3_leave : GoodIn wsX3_tellSly wsX3_leave := goodIn_r _ [5, 6, 20, 21, 22, 23, 24, 25, 26, 27, 28, 29] (by decide +kernel) (by decide +kernel)
set_option maxRecDepth 20000 in
theorem gX3_tellSly_X3_leave : GoodIn wsX3_tellSly (wsV RX3 230 RX3 yX3_leave wsX3_leave) := goodIn_app (goodIn_of _ (by decide +kernel)) ggX3_tellSly_X3_leave
set_option maxRecDepth 20000 in
theorem ggX3_tellSly_X3_tellPlain : GoodIn wsX3_tellSly wsX3_tellPlain := goodIn_r _ [10, 11, 1, 2, 3, 4, 5, 6, 12, 13, 14, 15, 16, 17, 18, 19, 20, 21, 22, 23, 24, 25, 26, 27, 28, 29, 30, 31, 32, 33, 34, 35] (by decide +kernel) (by decide +kernel)
set_option maxRecDepth 20000 in
theorem gX3_tellSly_X3_tellPlain : GoodIn wsX3_tellSly (wsV RX3 204 RX3 yX3_tellPlain wsX3_tellPlain) := goodIn_app (goodIn_of _ (by decide +kernel)) ggX3_tellSly_X3_tellPlain
theorem dX3_tellSly_0 : decode cX3_tellSly 0 = .ok (.aload_n 0, 1) := by decide +kernel
theorem dX3_tellSly_1 : decode cX3_tellSly 1 = .ok (.iconst 2, 1) := by decide +kernel
theorem dX3_tellSly_2 : decode cX3_tellSly 2 = .ok (.invokevirtual 230, 3) := by decide +kernel
theorem dX3_tellSly_5 : decode cX3_tellSly 5 = .ok (.aload_n 0, 1) := by decide +kernel
theorem dX3_tellSly_6 : decode cX3_tellSly 6 = .ok (.iload_n 1, 1) := by decide +kernel
theorem dX3_tellSly_7 : decode cX3_tellSly 7 = .ok (.invokevirtual 204, 3) := by decide +kernel
theorem dX3_tellSly_10 : decode cX3_tellSly 10 = .ok (.bipush 100, 2) := by decide +kernel
theorem dX3_tellSly_12 : decode cX3_tellSly 12 = .ok (.iadd, 1) := by decide +kernel
theorem dX3_tellSly_13 : decode cX3_tellSly 13 = .ok (.ireturn, 1) := by decide +kernel
set_option maxRecDepth 20000 in
theorem ggX3_tellVain_X3_leave : GoodIn wsX3_tellVain wsX3_leave := goodIn_r _ [5, 6, 24, 25, 26, 27, 28, 29, 30, 31, 32, 33] (by decide +kernel) (by decide +kernel)
set_option maxRecDepth 20000 in
theorem gX3_tellVain_X3_leave : GoodIn wsX3_tellVain (wsV RX3 230 RX3 yX3_leave wsX3_leave) := goodIn_app (goodIn_of _ (by decide +kernel)) ggX3_tellVain_X3_leave
set_option maxRecDepth 20000 in
theorem ggX3_tellVain_X3_tellSly : GoodIn wsX3_tellVain wsX3_tellSly := goodIn_r _ [10, 1, 2, 3, 4, 5, 6, 11, 12, 13, 14, 15, 16, 17, 18, 19, 20, 21, 22, 23, 24, 25, 26, 27, 28, 29, 30, 31, 32, 33, 34, 35, 36, 37, 38, 39] (by decide +kernel) (by decide +kernel)
set_option maxRecDepth 20000 in
theorem gX3_tellVain_X3_tellSly : GoodIn wsX3_tellVain (wsV RX3 198 RX3 yX3_tellSly wsX3_tellSly) := goodIn_app (goodIn_of _ (by decide +kernel)) ggX3_tellVain_X3_tellSly
set_option maxRecDepth 20000 in
theorem ggX3_tellVain_X3_tellPlain : GoodIn wsX3_tellVain wsX3_tellPlain := goodIn_r _ [14, 15, 1, 2, 3, 4, 5, 6, 16, 17, 18, 19, 20, 21, 22, 23, 24, 25, 26, 27, 28, 29, 30, 31, 32, 33, 34, 35, 36, 37, 38, 39] (by decide +kernel) (by decide +kernel)
set_option maxRecDepth 20000 in
theorem gX3_tellVain_X3_tellPlain : GoodIn wsX3_tellVain (wsV RX3 204 RX3 yX3_tellPlain wsX3_tellPlain) := goodIn_app (goodIn_of _ (by decide +kernel)) ggX3_tellVain_X3_tellPlain
theorem dX3_tellVain_0 : decode cX3_tellVain 0 = .ok (.aload_n 0, 1) := by decide +kernel
theorem dX3_tellVain_1 : decode cX3_tellVain 1 = .ok (.iconst 3, 1) := by decide +kernel
theorem dX3_tellVain_2 : decode cX3_tellVain 2 = .ok (.invokevirtual 230, 3) := by decide +kernel
theorem dX3_tellVain_5 : decode cX3_tellVain 5 = .ok (.aload_n 0, 1) := by decide +kernel
theorem dX3_tellVain_6 : decode cX3_tellVain 6 = .ok (.iload_n 1, 1) := by decide +kernel
theorem dX3_tellVain_7 : decode cX3_tellVain 7 = .ok (.invokevirtual 198, 3) := by decide +kernel
theorem dX3_tellVain_10 : decode cX3_tellVain 10 = .ok (.istore_n 2, 1) := by decide +kernel
theorem dX3_tellVain_11 : decode cX3_tellVain 11 = .ok (.iload_n 2, 1) := by decide +kernel
theorem dX3_tellVain_12 : decode cX3_tellVain 12 = .ok (.aload_n 0, 1) := by decide +kernel
theorem dX3_tellVain_13 : decode cX3_tellVain 13 = .ok (.iload_n 1, 1) := by decide +kernel
theorem dX3_tellVain_14 : decode cX3_tellVain 14 = .ok (.invokevirtual 204, 3) := by decide +kernel
theorem dX3_tellVain_17 : decode cX3_tellVain 17 = .ok (.iadd, 1) := by decide +kernel
theorem dX3_tellVain_18 : decode cX3_tellVain 18 = .ok (.ireturn, 1) := by decide +kernel
set_option maxRecDepth 20000 in
theorem ggX3_whisperLent_X3_leave : GoodIn wsX3_whisperLent wsX3_leave := goodIn_r _ [5, 6, 7, 8, 9, 10, 11, 12, 13, 14, 15, 16] (by decide +kernel) (by decide +kernel)
set_option maxRecDepth 20000 in
theorem gX3_whisperLent_X3_leave : GoodIn wsX3_whisperLent (wsV RX3 230 RX3 yX3_leave wsX3_leave) := goodIn_app (goodIn_of _ (by decide +kernel)) ggX3_whisperLent_X3_leave
theorem dX3_whisperLent_0 : decode cX3_whisperLent 0 = .ok (.aload_n 0, 1) := by decide +kernel
theorem dX3_whisperLent_1 : decode cX3_whisperLent 1 = .ok (.iconst 4, 1) := by decide +kernel
theorem dX3_whisperLent_2 : decode cX3_whisperLent 2 = .ok (.invokevirtual 230, 3) := by decide +kernel
theorem dX3_whisperLent_5 : decode cX3_whisperLent 5 = .ok (.iload_n 1, 1) := by decide +kernel
theorem dX3_whisperLent_6 : decode cX3_whisperLent 6 = .ok (.ireturn, 1) := by decide +kernel
set_option maxRecDepth 20000 in
theorem ggX3_whisperVain_X3_leave : GoodIn wsX3_whisperVain wsX3_leave := goodIn_r _ [5, 6, 7, 8, 9, 10, 11, 12, 13, 14, 15, 16] (by decide +kernel) (by decide +kernel)
set_option maxRecDepth 20000 in
theorem gX3_whisperVain_X3_leave : GoodIn wsX3_whisperVain (wsV RX3 230 RX3 yX3_leave wsX3_leave) := goodIn_app (goodIn_of _ (by decide +kernel)) ggX3_whisperVain_X3_leave
theorem dX3_whisperVain_0 : decode cX3_whisperVain 0 = .ok (.aload_n 0, 1) := by decide +kernel
theorem dX3_whisperVain_1 : decode cX3_whisperVain 1 = .ok (.iconst 5, 1) := by decide +kernel
theorem dX3_whisperVain_2 : decode cX3_whisperVain 2 = .ok (.invokevirtual 230, 3) := by decide +kernel
theorem dX3_whisperVain_5 : decode cX3_whisperVain 5 = .ok (.bipush 40, 2) := by decide +kernel
theorem dX3_whisperVain_7 : decode cX3_whisperVain 7 = .ok (.ireturn, 1) := by decide +kernel
theorem dX4_init_0 : decode cX4_init 0 = .ok (.aload_n 0, 1) := by decide +kernel
theorem dX4_init_1 : decode cX4_init 1 = .ok (.invokespecial 1, 3) := by decide +kernel
theorem dX4_init_4 : decode cX4_init 4 = .ok (.aload_n 0, 1) := by decide +kernel
theorem dX4_init_5 : decode cX4_init 5 = .ok (.iconst 4, 1) := by decide +kernel
theorem dX4_init_6 : decode cX4_init 6 = .ok (.newarray .int, 2) := by decide +kernel
theorem dX4_init_8 : decode cX4_init 8 = .ok (.dup, 1) := by decide +kernel
theorem dX4_init_9 : decode cX4_init 9 = .ok (.iconst 0, 1) := by decide +kernel
theorem dX4_init_10 : decode cX4_init 10 = .ok (.bipush (-9), 2) := by decide +kernel
theorem dX4_init_12 : decode cX4_init 12 = .ok (.iastore, 1) := by decide +kernel
theorem dX4_init_13 : decode cX4_init 13 = .ok (.dup, 1) := by decide +kernel
theorem dX4_init_14 : decode cX4_init 14 = .ok (.iconst 1, 1) := by decide +kernel
theorem dX4_init_15 : decode cX4_init 15 = .ok (.bipush (-9), 2) := by decide +kernel
theorem dX4_init_17 : decode cX4_init 17 = .ok (.iastore, 1) := by decide +kernel
theorem dX4_init_18 : decode cX4_init 18 = .ok (.dup, 1) := by decide +kernel
theorem dX4_init_19 : decode cX4_init 19 = .ok (.iconst 2, 1) := by decide +kernel
theorem dX4_init_20 : decode cX4_init 20 = .ok (.bipush (-9), 2) := by decide +kernel
theorem dX4_init_22 : decode cX4_init 22 = .ok (.iastore, 1) := by decide +kernel
theorem dX4_init_23 : decode cX4_init 23 = .ok (.dup, 1) := by decide +kernel
theorem dX4_init_24 : decode cX4_init 24 = .ok (.iconst 3, 1) := by decide +kernel
theorem dX4_init_25 : decode cX4_init 25 = .ok (.bipush (-9), 2) := by decide +kernel
theorem dX4_init_27 : decode cX4_init 27 = .ok (.iastore, 1) := by decide +kernel
theorem dX4_init_28 : decode cX4_init 28 = .ok (.putfield 9, 3) := by decide +kernel
theorem dX4_init_31 : decode cX4_init 31 = .ok (.aload_n 0, 1) := by decide +kernel
theorem dX4_init_32 : decode cX4_init 32 = .ok (.iconst 4, 1) := by decide +kernel
theorem dX4_init_33 : decode cX4_init 33 = .ok (.newarray .int, 2) := by decide +kernel
theorem dX4_init_35 : decode cX4_init 35 = .ok (.putfield 13, 3) := by decide +kernel
theorem dX4_init_38 : decode cX4_init 38 = .ok (.aload_n 0, 1) := by decide +kernel
theorem dX4_init_39 : decode cX4_init 39 = .ok (.sipush 240, 3) := by decide +kernel
theorem dX4_init_42 : decode cX4_init 42 = .ok (.newarray .int, 2) := by decide +kernel
theorem dX4_init_44 : decode cX4_init 44 = .ok (.putfield 16, 3) := by decide +kernel
theorem dX4_init_47 : decode cX4_init 47 = .ok (.aload_n 0, 1) := by decide +kernel
theorem dX4_init_48 : decode cX4_init 48 = .ok (.bipush 6, 2) := by decide +kernel
theorem dX4_init_50 : decode cX4_init 50 = .ok (.newarray .int, 2) := by decide +kernel
theorem dX4_init_52 : decode cX4_init 52 = .ok (.putfield 19, 3) := by decide +kernel
theorem dX4_init_55 : decode cX4_init 55 = .ok (.aload_n 0, 1) := by decide +kernel
theorem dX4_init_56 : decode cX4_init 56 = .ok (.bipush 6, 2) := by decide +kernel
theorem dX4_init_58 : decode cX4_init 58 = .ok (.newarray .int, 2) := by decide +kernel
theorem dX4_init_60 : decode cX4_init 60 = .ok (.putfield 22, 3) := by decide +kernel
theorem dX4_init_63 : decode cX4_init 63 = .ok (.aload_n 0, 1) := by decide +kernel
theorem dX4_init_64 : decode cX4_init 64 = .ok (.iconst 5, 1) := by decide +kernel
theorem dX4_init_65 : decode cX4_init 65 = .ok (.newarray .int, 2) := by decide +kernel
theorem dX4_init_67 : decode cX4_init 67 = .ok (.putfield 25, 3) := by decide +kernel
theorem dX4_init_70 : decode cX4_init 70 = .ok (.aload_n 0, 1) := by decide +kernel
theorem dX4_init_71 : decode cX4_init 71 = .ok (.bipush 6, 2) := by decide +kernel
theorem dX4_init_73 : decode cX4_init 73 = .ok (.newarray .int, 2) := by decide +kernel
theorem dX4_init_75 : decode cX4_init 75 = .ok (.putfield 28, 3) := by decide +kernel
theorem dX4_init_78 : decode cX4_init 78 = .ok (.aload_n 0, 1) := by decide +kernel
theorem dX4_init_79 : decode cX4_init 79 = .ok (.bipush 6, 2) := by decide +kernel
theorem dX4_init_81 : decode cX4_init 81 = .ok (.newarray .int, 2) := by decide +kernel
theorem dX4_init_83 : decode cX4_init 83 = .ok (.putfield 31, 3) := by decide +kernel
theorem dX4_init_86 : decode cX4_init 86 = .ok (.aload_n 0, 1) := by decide +kernel
theorem dX4_init_87 : decode cX4_init 87 = .ok (.iconst 5, 1) := by decide +kernel
theorem dX4_init_88 : decode cX4_init 88 = .ok (.newarray .int, 2) := by decide +kernel
theorem dX4_init_90 : decode cX4_init 90 = .ok (.putfield 34, 3) := by decide +kernel
theorem dX4_init_93 : decode cX4_init 93 = .ok (.aload_n 0, 1) := by decide +kernel
theorem dX4_init_94 : decode cX4_init 94 = .ok (.bipush 64, 2) := by decide +kernel
theorem dX4_init_96 : decode cX4_init 96 = .ok (.newarray .int, 2) := by decide +kernel
theorem dX4_init_98 : decode cX4_init 98 = .ok (.putfield 37, 3) := by decide +kernel
theorem dX4_init_101 : decode cX4_init 101 = .ok (.aload_n 0, 1) := by decide +kernel
theorem dX4_init_102 : decode cX4_init 102 = .ok (.bipush 64, 2) := by decide +kernel
theorem dX4_init_104 : decode cX4_init 104 = .ok (.newarray .int, 2) := by decide +kernel
theorem dX4_init_106 : decode cX4_init 106 = .ok (.putfield 40, 3) := by decide +kernel
theorem dX4_init_109 : decode cX4_init 109 = .ok (.aload_n 0, 1) := by decide +kernel
theorem dX4_init_110 : decode cX4_init 110 = .ok (.bipush 8, 2) := by decide +kernel
theorem dX4_init_112 : decode cX4_init 112 = .ok (.newarray .int, 2) := by decide +kernel
theorem dX4_init_114 : decode cX4_init 114 = .ok (.putfield 43, 3) := by decide +kernel
theorem dX4_init_117 : decode cX4_init 117 = .ok (.aload_n 0, 1) := by decide +kernel
theorem dX4_init_118 : decode cX4_init 118 = .ok (.bipush 8, 2) := by decide +kernel
theorem dX4_init_120 : decode cX4_init 120 = .ok (.newarray .int, 2) := by decide +kernel
theorem dX4_init_122 : decode cX4_init 122 = .ok (.putfield 46, 3) := by decide +kernel
theorem dX4_init_125 : decode cX4_init 125 = .ok (.return_, 1) := by decide +kernel
theorem dX4_fails_0 : decode cX4_fails 0 = .ok (.aload_n 0, 1) := by decide +kernel
theorem dX4_fails_1 : decode cX4_fails 1 = .ok (.iload_n 1, 1) := by decide +kernel
theorem dX4_fails_2 : decode cX4_fails 2 = .ok (.putfield 49, 3) := by decide +kernel
theorem dX4_fails_5 : decode cX4_fails 5 = .ok (.bipush (-10), 2) := by decide +kernel
theorem dX4_fails_7 : decode cX4_fails 7 = .ok (.iload_n 1, 1) := by decide +kernel
theorem dX4_fails_8 : decode cX4_fails 8 = .ok (.isub, 1) := by decide +kernel
theorem dX4_fails_9 : decode cX4_fails 9 = .ok (.ireturn, 1) := by decide +kernel
theorem dX4_lost_0 : decode cX4_lost 0 = .ok (.aload_n 0, 1) := by decide +kernel
theorem dX4_lost_1 : decode cX4_lost 1 = .ok (.iload_n 1, 1) := by decide +kernel
theorem dX4_lost_2 : decode cX4_lost 2 = .ok (.putfield 49, 3) := by decide +kernel
theorem dX4_lost_5 : decode cX4_lost 5 = .ok (.ldc2_w 53, 3) := by decide +kernel
theorem dX4_lost_8 : decode cX4_lost 8 = .ok (.lreturn, 1) := by decide +kernel
theorem dX4_within_0 : decode cX4_within 0 = .ok (.iload_n 0, 1) := by decide +kernel
theorem dX4_within_1 : decode cX4_within 1 = .ok (.iload_n 1, 1) := by decide +kernel
theorem dX4_within_2 : decode cX4_within 2 = .ok (.if_icmp .lt 12, 3) := by decide +kernel
theorem dX4_within_5 : decode cX4_within 5 = .ok (.iload_n 0, 1) := by decide +kernel
theorem dX4_within_6 : decode cX4_within 6 = .ok (.iload_n 2, 1) := by decide +kernel
theorem dX4_within_7 : decode cX4_within 7 = .ok (.if_icmp .gt 7, 3) := by decide +kernel
theorem dX4_within_10 : decode cX4_within 10 = .ok (.iconst 1, 1) := by decide +kernel
theorem dX4_within_11 : decode cX4_within 11 = .ok (.goto 4, 3) := by decide +kernel
theorem dX4_within_14 : decode cX4_within 14 = .ok (.iconst 0, 1) := by decide +kernel
theorem dX4_within_15 : decode cX4_within 15 = .ok (.ireturn, 1) := by decide +kernel
set_option maxRecDepth 20000 in
theorem ggX4_isSheet_X4_within : GoodIn wsX4_isSheet wsX4_within := goodIn_r _ [4] (by decide +kernel) (by decide +kernel)
set_option maxRecDepth 20000 in
theorem gX4_isSheet_X4_within : GoodIn wsX4_isSheet (va_wsS RX4 55 yX4_within wsX4_within) := goodIn_app (goodIn_of _ (by decide +kernel)) ggX4_isSheet_X4_within
theorem dX4_isSheet_0 : decode cX4_isSheet 0 = .ok (.iload_n 0, 1) := by decide +kernel
theorem dX4_isSheet_1 : decode cX4_isSheet 1 = .ok (.iconst 0, 1) := by decide +kernel
theorem dX4_isSheet_2 : decode cX4_isSheet 2 = .ok (.iconst 3, 1) := by decide +kernel
theorem dX4_isSheet_3 : decode cX4_isSheet 3 = .ok (.invokestatic 55, 3) := by decide +kernel
theorem dX4_isSheet_6 : decode cX4_isSheet 6 = .ok (.ireturn, 1) := by decide +kernel
set_option maxRecDepth 20000 in
theorem ggX4_isSort_X4_within : GoodIn wsX4_isSort wsX4_within := goodIn_r _ [4] (by decide +kernel) (by decide +kernel)
set_option maxRecDepth 20000 in
theorem gX4_isSort_X4_within : GoodIn wsX4_isSort (va_wsS RX4 55 yX4_within wsX4_within) := goodIn_app (goodIn_of _ (by decide +kernel)) ggX4_isSort_X4_within
theorem dX4_isSort_0 : decode cX4_isSort 0 = .ok (.iload_n 0, 1) := by decide +kernel
theorem dX4_isSort_1 : decode cX4_isSort 1 = .ok (.iconst 0, 1) := by decide +kernel
theorem dX4_isSort_2 : decode cX4_isSort 2 = .ok (.iconst 2, 1) := by decide +kernel
theorem dX4_isSort_3 : decode cX4_isSort 3 = .ok (.invokestatic 55, 3) := by decide +kernel
theorem dX4_isSort_6 : decode cX4_isSort 6 = .ok (.ireturn, 1) := by decide +kernel
theorem dX4_against_0 : decode cX4_against 0 = .ok (.aload_n 0, 1) := by decide +kernel
theorem dX4_against_1 : decode cX4_against 1 = .ok (.getfield 9, 3) := by decide +kernel
theorem dX4_against_4 : decode cX4_against 4 = .ok (.iload_n 1, 1) := by decide +kernel
theorem dX4_against_5 : decode cX4_against 5 = .ok (.iaload, 1) := by decide +kernel
theorem dX4_against_6 : decode cX4_against 6 = .ok (.bipush (-9), 2) := by decide +kernel
theorem dX4_against_8 : decode cX4_against 8 = .ok (.if_icmp .eq 15, 3) := by decide +kernel
theorem dX4_against_11 : decode cX4_against 11 = .ok (.aload_n 0, 1) := by decide +kernel
theorem dX4_against_12 : decode cX4_against 12 = .ok (.getfield 9, 3) := by decide +kernel
theorem dX4_against_15 : decode cX4_against 15 = .ok (.iload_n 1, 1) := by decide +kernel
theorem dX4_against_16 : decode cX4_against 16 = .ok (.iaload, 1) := by decide +kernel
theorem dX4_against_17 : decode cX4_against 17 = .ok (.iload_n 2, 1) := by decide +kernel
theorem dX4_against_18 : decode cX4_against 18 = .ok (.if_icmp .eq 5, 3) := by decide +kernel
theorem dX4_against_21 : decode cX4_against 21 = .ok (.iconst 2, 1) := by decide +kernel
theorem dX4_against_22 : decode cX4_against 22 = .ok (.ireturn, 1) := by decide +kernel
theorem dX4_against_23 : decode cX4_against 23 = .ok (.aload_n 0, 1) := by decide +kernel
theorem dX4_against_24 : decode cX4_against 24 = .ok (.getfield 9, 3) := by decide +kernel
theorem dX4_against_27 : decode cX4_against 27 = .ok (.iload_n 1, 1) := by decide +kernel
theorem dX4_against_28 : decode cX4_against 28 = .ok (.iaload, 1) := by decide +kernel
theorem dX4_against_29 : decode cX4_against 29 = .ok (.bipush (-9), 2) := by decide +kernel
theorem dX4_against_31 : decode cX4_against 31 = .ok (.if_icmp .ne 5, 3) := by decide +kernel
theorem dX4_against_34 : decode cX4_against 34 = .ok (.iconst 1, 1) := by decide +kernel
theorem dX4_against_35 : decode cX4_against 35 = .ok (.ireturn, 1) := by decide +kernel
theorem dX4_against_36 : decode cX4_against 36 = .ok (.iload 4, 2) := by decide +kernel
theorem dX4_against_38 : decode cX4_against 38 = .ok (.ifCond .ge 5, 3) := by decide +kernel
theorem dX4_against_41 : decode cX4_against 41 = .ok (.iconst 4, 1) := by decide +kernel
theorem dX4_against_42 : decode cX4_against 42 = .ok (.ireturn, 1) := by decide +kernel
theorem dX4_against_43 : decode cX4_against 43 = .ok (.iload_n 3, 1) := by decide +kernel
theorem dX4_against_44 : decode cX4_against 44 = .ok (.ifCond .lt 26, 3) := by decide +kernel
theorem dX4_against_47 : decode cX4_against 47 = .ok (.iload_n 3, 1) := by decide +kernel
theorem dX4_against_48 : decode cX4_against 48 = .ok (.aload_n 0, 1) := by decide +kernel
theorem dX4_against_49 : decode cX4_against 49 = .ok (.getfield 13, 3) := by decide +kernel
theorem dX4_against_52 : decode cX4_against 52 = .ok (.iload_n 1, 1) := by decide +kernel
theorem dX4_against_53 : decode cX4_against 53 = .ok (.iaload, 1) := by decide +kernel
theorem dX4_against_54 : decode cX4_against 54 = .ok (.if_icmp .gt 16, 3) := by decide +kernel
theorem dX4_against_57 : decode cX4_against 57 = .ok (.iload 4, 2) := by decide +kernel
theorem dX4_against_59 : decode cX4_against 59 = .ok (.aload_n 0, 1) := by decide +kernel
theorem dX4_against_60 : decode cX4_against 60 = .ok (.getfield 13, 3) := by decide +kernel
theorem dX4_against_63 : decode cX4_against 63 = .ok (.iload_n 1, 1) := by decide +kernel
theorem dX4_against_64 : decode cX4_against 64 = .ok (.iaload, 1) := by decide +kernel
theorem dX4_against_65 : decode cX4_against 65 = .ok (.iload_n 3, 1) := by decide +kernel
theorem dX4_against_66 : decode cX4_against 66 = .ok (.isub, 1) := by decide +kernel
theorem dX4_against_67 : decode cX4_against 67 = .ok (.if_icmp .le 7, 3) := by decide +kernel
theorem dX4_against_70 : decode cX4_against 70 = .ok (.iconst 3, 1) := by decide +kernel
theorem dX4_against_71 : decode cX4_against 71 = .ok (.goto 4, 3) := by decide +kernel
theorem dX4_against_74 : decode cX4_against 74 = .ok (.iconst 0, 1) := by decide +kernel
theorem dX4_against_75 : decode cX4_against 75 = .ok (.ireturn, 1) := by decide +kernel
theorem dX4_isAnswer_0 : decode cX4_isAnswer 0 = .ok (.iload_n 1, 1) := by decide +kernel
theorem dX4_isAnswer_1 : decode cX4_isAnswer 1 = .ok (.ifCond .lt 15, 3) := by decide +kernel
theorem dX4_isAnswer_4 : decode cX4_isAnswer 4 = .ok (.iload_n 1, 1) := by decide +kernel
theorem dX4_isAnswer_5 : decode cX4_isAnswer 5 = .ok (.aload_n 0, 1) := by decide +kernel
theorem dX4_isAnswer_6 : decode cX4_isAnswer 6 = .ok (.getfield 59, 3) := by decide +kernel
theorem dX4_isAnswer_9 : decode cX4_isAnswer 9 = .ok (.if_icmp .ge 7, 3) := by decide +kernel
theorem dX4_isAnswer_12 : decode cX4_isAnswer 12 = .ok (.iconst 1, 1) := by decide +kernel
theorem dX4_isAnswer_13 : decode cX4_isAnswer 13 = .ok (.goto 4, 3) := by decide +kernel
theorem dX4_isAnswer_16 : decode cX4_isAnswer 16 = .ok (.iconst 0, 1) := by decide +kernel
theorem dX4_isAnswer_17 : decode cX4_isAnswer 17 = .ok (.ireturn, 1) := by decide +kernel
theorem dX4_isSet_0 : decode cX4_isSet 0 = .ok (.iload_n 1, 1) := by decide +kernel
theorem dX4_isSet_1 : decode cX4_isSet 1 = .ok (.ifCond .lt 17, 3) := by decide +kernel
theorem dX4_isSet_4 : decode cX4_isSet 4 = .ok (.iload_n 1, 1) := by decide +kernel
theorem dX4_isSet_5 : decode cX4_isSet 5 = .ok (.iconst 1, 1) := by decide +kernel
theorem dX4_isSet_6 : decode cX4_isSet 6 = .ok (.aload_n 0, 1) := by decide +kernel
theorem dX4_isSet_7 : decode cX4_isSet 7 = .ok (.getfield 59, 3) := by decide +kernel
theorem dX4_isSet_10 : decode cX4_isSet 10 = .ok (.ishl, 1) := by decide +kernel
theorem dX4_isSet_11 : decode cX4_isSet 11 = .ok (.if_icmp .ge 7, 3) := by decide +kernel
theorem dX4_isSet_14 : decode cX4_isSet 14 = .ok (.iconst 1, 1) := by decide +kernel
theorem dX4_isSet_15 : decode cX4_isSet 15 = .ok (.goto 4, 3) := by decide +kernel
theorem dX4_isSet_18 : decode cX4_isSet 18 = .ok (.iconst 0, 1) := by decide +kernel
theorem dX4_isSet_19 : decode cX4_isSet 19 = .ok (.ireturn, 1) := by decide +kernel
set_option maxRecDepth 20000 in
theorem ggX4_digit_X4_within : GoodIn wsX4_digit wsX4_within := goodIn_r _ [6] (by decide +kernel) (by decide +kernel)
set_option maxRecDepth 20000 in
theorem gX4_digit_X4_within : GoodIn wsX4_digit (va_wsS RX4 55 yX4_within wsX4_within) := goodIn_app (goodIn_of _ (by decide +kernel)) ggX4_digit_X4_within
theorem dX4_digit_0 : decode cX4_digit 0 = .ok (.aload_n 0, 1) := by decide +kernel
theorem dX4_digit_1 : decode cX4_digit 1 = .ok (.getfield 62, 3) := by decide +kernel
theorem dX4_digit_4 : decode cX4_digit 4 = .ok (.iload_n 1, 1) := by decide +kernel
theorem dX4_digit_5 : decode cX4_digit 5 = .ok (.if_icmp .ge 24, 3) := by decide +kernel
theorem dX4_digit_8 : decode cX4_digit 8 = .ok (.aload_n 0, 1) := by decide +kernel
theorem dX4_digit_9 : decode cX4_digit 9 = .ok (.getfield 16, 3) := by decide +kernel
theorem dX4_digit_12 : decode cX4_digit 12 = .ok (.aload_n 0, 1) := by decide +kernel
theorem dX4_digit_13 : decode cX4_digit 13 = .ok (.getfield 62, 3) := by decide +kernel
theorem dX4_digit_16 : decode cX4_digit 16 = .ok (.iaload, 1) := by decide +kernel
theorem dX4_digit_17 : decode cX4_digit 17 = .ok (.bipush 48, 2) := by decide +kernel
theorem dX4_digit_19 : decode cX4_digit 19 = .ok (.iload_n 2, 1) := by decide +kernel
theorem dX4_digit_20 : decode cX4_digit 20 = .ok (.iadd, 1) := by decide +kernel
theorem dX4_digit_21 : decode cX4_digit 21 = .ok (.bipush 57, 2) := by decide +kernel
theorem dX4_digit_23 : decode cX4_digit 23 = .ok (.invokestatic 55, 3) := by decide +kernel
theorem dX4_digit_26 : decode cX4_digit 26 = .ok (.ifCond .ne 6, 3) := by decide +kernel
theorem dX4_digit_29 : decode cX4_digit 29 = .ok (.bipush (-9), 2) := by decide +kernel
theorem dX4_digit_31 : decode cX4_digit 31 = .ok (.ireturn, 1) := by decide +kernel
theorem dX4_digit_32 : decode cX4_digit 32 = .ok (.aload_n 0, 1) := by decide +kernel
theorem dX4_digit_33 : decode cX4_digit 33 = .ok (.dup, 1) := by decide +kernel
theorem dX4_digit_34 : decode cX4_digit 34 = .ok (.getfield 62, 3) := by decide +kernel
theorem dX4_digit_37 : decode cX4_digit 37 = .ok (.iconst 1, 1) := by decide +kernel
theorem dX4_digit_38 : decode cX4_digit 38 = .ok (.iadd, 1) := by decide +kernel
theorem dX4_digit_39 : decode cX4_digit 39 = .ok (.putfield 62, 3) := by decide +kernel
theorem dX4_digit_42 : decode cX4_digit 42 = .ok (.aload_n 0, 1) := by decide +kernel
theorem dX4_digit_43 : decode cX4_digit 43 = .ok (.getfield 16, 3) := by decide +kernel
theorem dX4_digit_46 : decode cX4_digit 46 = .ok (.aload_n 0, 1) := by decide +kernel
theorem dX4_digit_47 : decode cX4_digit 47 = .ok (.getfield 62, 3) := by decide +kernel
theorem dX4_digit_50 : decode cX4_digit 50 = .ok (.iconst 1, 1) := by decide +kernel
theorem dX4_digit_51 : decode cX4_digit 51 = .ok (.isub, 1) := by decide +kernel
theorem dX4_digit_52 : decode cX4_digit 52 = .ok (.iaload, 1) := by decide +kernel
theorem dX4_digit_53 : decode cX4_digit 53 = .ok (.bipush 48, 2) := by decide +kernel
theorem dX4_digit_55 : decode cX4_digit 55 = .ok (.isub, 1) := by decide +kernel
theorem dX4_digit_56 : decode cX4_digit 56 = .ok (.ireturn, 1) := by decide +kernel
theorem dX4_isSign_0 : decode cX4_isSign 0 = .ok (.aload_n 0, 1) := by decide +kernel
theorem dX4_isSign_1 : decode cX4_isSign 1 = .ok (.getfield 62, 3) := by decide +kernel
theorem dX4_isSign_4 : decode cX4_isSign 4 = .ok (.iload_n 1, 1) := by decide +kernel
theorem dX4_isSign_5 : decode cX4_isSign 5 = .ok (.if_icmp .ge 16, 3) := by decide +kernel
theorem dX4_isSign_8 : decode cX4_isSign 8 = .ok (.aload_n 0, 1) := by decide +kernel
theorem dX4_isSign_9 : decode cX4_isSign 9 = .ok (.getfield 16, 3) := by decide +kernel
theorem dX4_isSign_12 : decode cX4_isSign 12 = .ok (.aload_n 0, 1) := by decide +kernel
theorem dX4_isSign_13 : decode cX4_isSign 13 = .ok (.getfield 62, 3) := by decide +kernel
theorem dX4_isSign_16 : decode cX4_isSign 16 = .ok (.iaload, 1) := by decide +kernel
theorem dX4_isSign_17 : decode cX4_isSign 17 = .ok (.iload_n 2, 1) := by decide +kernel
theorem dX4_isSign_18 : decode cX4_isSign 18 = .ok (.if_icmp .eq 5, 3) := by decide +kernel
theorem dX4_isSign_21 : decode cX4_isSign 21 = .ok (.iconst 0, 1) := by decide +kernel
theorem dX4_isSign_22 : decode cX4_isSign 22 = .ok (.ireturn, 1) := by decide +kernel
theorem dX4_isSign_23 : decode cX4_isSign 23 = .ok (.aload_n 0, 1) := by decide +kernel
theorem dX4_isSign_24 : decode cX4_isSign 24 = .ok (.dup, 1) := by decide +kernel
theorem dX4_isSign_25 : decode cX4_isSign 25 = .ok (.getfield 62, 3) := by decide +kernel
theorem dX4_isSign_28 : decode cX4_isSign 28 = .ok (.iconst 1, 1) := by decide +kernel
theorem dX4_isSign_29 : decode cX4_isSign 29 = .ok (.iadd, 1) := by decide +kernel
theorem dX4_isSign_30 : decode cX4_isSign 30 = .ok (.putfield 62, 3) := by decide +kernel
theorem dX4_isSign_33 : decode cX4_isSign 33 = .ok (.iconst 1, 1) := by decide +kernel
theorem dX4_isSign_34 : decode cX4_isSign 34 = .ok (.ireturn, 1) := by decide +kernel
set_option maxRecDepth 20000 in
theorem ggX4_secret_X4_isSheet : GoodIn wsX4_secret wsX4_isSheet := goodIn_r _ [19, 20, 21, 18, 22] (by decide +kernel) (by decide +kernel)
set_option maxRecDepth 20000 in
theorem gX4_secret_X4_isSheet : GoodIn wsX4_secret (va_wsS RX4 65 yX4_isSheet wsX4_isSheet) := goodIn_app (goodIn_of _ (by decide +kernel)) ggX4_secret_X4_isSheet
set_option maxRecDepth 20000 in
theorem ggX4_secret_X4_isSort : GoodIn wsX4_secret wsX4_isSort := goodIn_r _ [25, 20, 21, 18, 22] (by decide +kernel) (by decide +kernel)
set_option maxRecDepth 20000 in
theorem gX4_secret_X4_isSort : GoodIn wsX4_secret (va_wsS RX4 69 yX4_isSort wsX4_isSort) := goodIn_app (goodIn_of _ (by decide +kernel)) ggX4_secret_X4_isSort
set_option maxRecDepth 20000 in
theorem ggX4_secret_X4_against : GoodIn wsX4_secret wsX4_against := goodIn_r _ [29, 30, 31, 57, 58, 59, 60, 61, 62, 63, 64, 65, 66, 67, 68, 69, 70, 71, 72, 73, 74, 75, 76, 77, 78, 79] (by decide +kernel) (by decide +kernel)
set_option maxRecDepth 20000 in
theorem gX4_secret_X4_against : GoodIn wsX4_secret (wsV RX4 72 RX4 yX4_against wsX4_against) := goodIn_app (goodIn_of _ (by decide +kernel)) ggX4_secret_X4_against
set_option maxRecDepth 20000 in
theorem ggX4_secret_X4_fails : GoodIn wsX4_secret wsX4_fails := goodIn_r _ [35, 1, 57, 58, 59, 60, 61, 62, 63, 64, 65, 66, 67, 68, 69, 70, 71, 72, 73, 74, 75, 76, 77, 78, 79] (by decide +kernel) (by decide +kernel)
set_option maxRecDepth 20000 in
theorem gX4_secret_X4_fails : GoodIn wsX4_secret (wsV RX4 76 RX4 yX4_fails wsX4_fails) := goodIn_app (goodIn_of _ (by decide +kernel)) ggX4_secret_X4_fails
set_option maxRecDepth 20000 in
theorem ggX4_secret_X4_readSecret : GoodIn wsX4_secret wsX4_readSecret := goodIn_r _ [39, 3, 11, 9, 40, 41, 42, 18, 43, 2, 44, 45, 46, 47, 48, 6, 8, 49, 50, 51, 52, 20, 21, 22, 53, 54, 55, 56, 14, 57, 58, 59, 60, 61, 62, 63, 64, 65, 66, 67, 68, 69, 70, 71, 72, 73, 74, 75, 76, 77, 78, 79] (by decide +kernel) (by decide +kernel)
set_option maxRecDepth 20000 in
theorem gX4_secret_X4_readSecret : GoodIn wsX4_secret (wsV RX4 80 RX4 yX4_readSecret wsX4_readSecret) := goodIn_app (goodIn_of _ (by decide +kernel)) ggX4_secret_X4_readSecret
theorem dX4_secret_0 : decode cX4_secret 0 = .ok (.aload_n 0, 1) := by decide +kernel
theorem dX4_secret_1 : decode cX4_secret 1 = .ok (.iconst 0, 1) := by decide +kernel
theorem dX4_secret_2 : decode cX4_secret 2 = .ok (.putfield 49, 3) := by decide +kernel
theorem dX4_secret_5 : decode cX4_secret 5 = .ok (.iload_n 1, 1) := by decide +kernel
theorem dX4_secret_6 : decode cX4_secret 6 = .ok (.invokestatic 65, 3) := by decide +kernel
theorem dX4_secret_9 : decode cX4_secret 9 = .ok (.ifCond .ne 5, 3) := by decide +kernel
theorem dX4_secret_12 : decode cX4_secret 12 = .ok (.iconst (-1), 1) := by decide +kernel
theorem dX4_secret_13 : decode cX4_secret 13 = .ok (.ireturn, 1) := by decide +kernel
theorem dX4_secret_14 : decode cX4_secret 14 = .ok (.iload_n 2, 1) := by decide +kernel
theorem dX4_secret_15 : decode cX4_secret 15 = .ok (.invokestatic 69, 3) := by decide +kernel
theorem dX4_secret_18 : decode cX4_secret 18 = .ok (.ifCond .ne 6, 3) := by decide +kernel
theorem dX4_secret_21 : decode cX4_secret 21 = .ok (.bipush (-2), 2) := by decide +kernel
theorem dX4_secret_23 : decode cX4_secret 23 = .ok (.ireturn, 1) := by decide +kernel
theorem dX4_secret_24 : decode cX4_secret 24 = .ok (.aload_n 0, 1) := by decide +kernel
theorem dX4_secret_25 : decode cX4_secret 25 = .ok (.iload_n 1, 1) := by decide +kernel
theorem dX4_secret_26 : decode cX4_secret 26 = .ok (.iload_n 2, 1) := by decide +kernel
theorem dX4_secret_27 : decode cX4_secret 27 = .ok (.iload_n 3, 1) := by decide +kernel
theorem dX4_secret_28 : decode cX4_secret 28 = .ok (.iload 4, 2) := by decide +kernel
theorem dX4_secret_30 : decode cX4_secret 30 = .ok (.invokevirtual 72, 3) := by decide +kernel
theorem dX4_secret_33 : decode cX4_secret 33 = .ok (.istore 5, 2) := by decide +kernel
theorem dX4_secret_35 : decode cX4_secret 35 = .ok (.iload 5, 2) := by decide +kernel
theorem dX4_secret_37 : decode cX4_secret 37 = .ok (.ifCond .eq 10, 3) := by decide +kernel
theorem dX4_secret_40 : decode cX4_secret 40 = .ok (.aload_n 0, 1) := by decide +kernel
theorem dX4_secret_41 : decode cX4_secret 41 = .ok (.iload 5, 2) := by decide +kernel
theorem dX4_secret_43 : decode cX4_secret 43 = .ok (.invokevirtual 76, 3) := by decide +kernel
theorem dX4_secret_46 : decode cX4_secret 46 = .ok (.ireturn, 1) := by decide +kernel
theorem dX4_secret_47 : decode cX4_secret 47 = .ok (.bipush 60, 2) := by decide +kernel
theorem dX4_secret_49 : decode cX4_secret 49 = .ok (.iload_n 1, 1) := by decide +kernel
theorem dX4_secret_50 : decode cX4_secret 50 = .ok (.imul, 1) := by decide +kernel
theorem dX4_secret_51 : decode cX4_secret 51 = .ok (.iload_n 3, 1) := by decide +kernel
theorem dX4_secret_52 : decode cX4_secret 52 = .ok (.iadd, 1) := by decide +kernel
theorem dX4_secret_53 : decode cX4_secret 53 = .ok (.istore 6, 2) := by decide +kernel
theorem dX4_secret_55 : decode cX4_secret 55 = .ok (.aload_n 0, 1) := by decide +kernel
theorem dX4_secret_56 : decode cX4_secret 56 = .ok (.iload 6, 2) := by decide +kernel
theorem dX4_secret_58 : decode cX4_secret 58 = .ok (.putfield 62, 3) := by decide +kernel
theorem dX4_secret_61 : decode cX4_secret 61 = .ok (.aload_n 0, 1) := by decide +kernel
theorem dX4_secret_62 : decode cX4_secret 62 = .ok (.iload 6, 2) := by decide +kernel
theorem dX4_secret_64 : decode cX4_secret 64 = .ok (.iload 4, 2) := by decide +kernel
theorem dX4_secret_66 : decode cX4_secret 66 = .ok (.iadd, 1) := by decide +kernel
theorem dX4_secret_67 : decode cX4_secret 67 = .ok (.invokevirtual 80, 3) := by decide +kernel
theorem dX4_secret_70 : decode cX4_secret 70 = .ok (.ifCond .ne 14, 3) := by decide +kernel
theorem dX4_secret_73 : decode cX4_secret 73 = .ok (.bipush (-100), 2) := by decide +kernel
theorem dX4_secret_75 : decode cX4_secret 75 = .ok (.aload_n 0, 1) := by decide +kernel
theorem dX4_secret_76 : decode cX4_secret 76 = .ok (.getfield 62, 3) := by decide +kernel
theorem dX4_secret_79 : decode cX4_secret 79 = .ok (.iload 6, 2) := by decide +kernel
theorem dX4_secret_81 : decode cX4_secret 81 = .ok (.isub, 1) := by decide +kernel
theorem dX4_secret_82 : decode cX4_secret 82 = .ok (.isub, 1) := by decide +kernel
theorem dX4_secret_83 : decode cX4_secret 83 = .ok (.ireturn, 1) := by decide +kernel
theorem dX4_secret_84 : decode cX4_secret 84 = .ok (.aload_n 0, 1) := by decide +kernel
theorem dX4_secret_85 : decode cX4_secret 85 = .ok (.aload_n 0, 1) := by decide +kernel
theorem dX4_secret_86 : decode cX4_secret 86 = .ok (.getfield 83, 3) := by decide +kernel
theorem dX4_secret_89 : decode cX4_secret 89 = .ok (.putfield 59, 3) := by decide +kernel
theorem dX4_secret_92 : decode cX4_secret 92 = .ok (.iconst 0, 1) := by decide +kernel
theorem dX4_secret_93 : decode cX4_secret 93 = .ok (.istore 7, 2) := by decide +kernel
theorem dX4_secret_95 : decode cX4_secret 95 = .ok (.iload 7, 2) := by decide +kernel
theorem dX4_secret_97 : decode cX4_secret 97 = .ok (.aload_n 0, 1) := by decide +kernel
theorem dX4_secret_98 : decode cX4_secret 98 = .ok (.getfield 59, 3) := by decide +kernel
theorem dX4_secret_101 : decode cX4_secret 101 = .ok (.if_icmp .ge 37, 3) := by decide +kernel
theorem dX4_secret_104 : decode cX4_secret 104 = .ok (.aload_n 0, 1) := by decide +kernel
theorem dX4_secret_105 : decode cX4_secret 105 = .ok (.getfield 19, 3) := by decide +kernel
theorem dX4_secret_108 : decode cX4_secret 108 = .ok (.iload 7, 2) := by decide +kernel
theorem dX4_secret_110 : decode cX4_secret 110 = .ok (.aload_n 0, 1) := by decide +kernel
theorem dX4_secret_111 : decode cX4_secret 111 = .ok (.getfield 28, 3) := by decide +kernel
theorem dX4_secret_114 : decode cX4_secret 114 = .ok (.iload 7, 2) := by decide +kernel
theorem dX4_secret_116 : decode cX4_secret 116 = .ok (.iaload, 1) := by decide +kernel
theorem dX4_secret_117 : decode cX4_secret 117 = .ok (.iastore, 1) := by decide +kernel
theorem dX4_secret_118 : decode cX4_secret 118 = .ok (.aload_n 0, 1) := by decide +kernel
theorem dX4_secret_119 : decode cX4_secret 119 = .ok (.getfield 22, 3) := by decide +kernel
theorem dX4_secret_122 : decode cX4_secret 122 = .ok (.iload 7, 2) := by decide +kernel
theorem dX4_secret_124 : decode cX4_secret 124 = .ok (.aload_n 0, 1) := by decide +kernel
theorem dX4_secret_125 : decode cX4_secret 125 = .ok (.getfield 31, 3) := by decide +kernel
theorem dX4_secret_128 : decode cX4_secret 128 = .ok (.iload 7, 2) := by decide +kernel
theorem dX4_secret_130 : decode cX4_secret 130 = .ok (.iaload, 1) := by decide +kernel
theorem dX4_secret_131 : decode cX4_secret 131 = .ok (.iastore, 1) := by decide +kernel
theorem dX4_secret_132 : decode cX4_secret 132 = .ok (.iinc 7 1, 3) := by decide +kernel
theorem dX4_secret_135 : decode cX4_secret 135 = .ok (.goto (-40), 3) := by decide +kernel
theorem dX4_secret_138 : decode cX4_secret 138 = .ok (.aload_n 0, 1) := by decide +kernel
theorem dX4_secret_139 : decode cX4_secret 139 = .ok (.aload_n 0, 1) := by decide +kernel
theorem dX4_secret_140 : decode cX4_secret 140 = .ok (.getfield 86, 3) := by decide +kernel
theorem dX4_secret_143 : decode cX4_secret 143 = .ok (.putfield 89, 3) := by decide +kernel
theorem dX4_secret_146 : decode cX4_secret 146 = .ok (.aload_n 0, 1) := by decide +kernel
theorem dX4_secret_147 : decode cX4_secret 147 = .ok (.aload_n 0, 1) := by decide +kernel
theorem dX4_secret_148 : decode cX4_secret 148 = .ok (.getfield 92, 3) := by decide +kernel
theorem dX4_secret_151 : decode cX4_secret 151 = .ok (.putfield 95, 3) := by decide +kernel
theorem dX4_secret_154 : decode cX4_secret 154 = .ok (.iconst 0, 1) := by decide +kernel
theorem dX4_secret_155 : decode cX4_secret 155 = .ok (.istore 7, 2) := by decide +kernel
theorem dX4_secret_157 : decode cX4_secret 157 = .ok (.iload 7, 2) := by decide +kernel
theorem dX4_secret_159 : decode cX4_secret 159 = .ok (.aload_n 0, 1) := by decide +kernel
theorem dX4_secret_160 : decode cX4_secret 160 = .ok (.getfield 95, 3) := by decide +kernel
theorem dX4_secret_163 : decode cX4_secret 163 = .ok (.if_icmp .ge 23, 3) := by decide +kernel
theorem dX4_secret_166 : decode cX4_secret 166 = .ok (.aload_n 0, 1) := by decide +kernel
theorem dX4_secret_167 : decode cX4_secret 167 = .ok (.getfield 25, 3) := by decide +kernel
theorem dX4_secret_170 : decode cX4_secret 170 = .ok (.iload 7, 2) := by decide +kernel
theorem dX4_secret_172 : decode cX4_secret 172 = .ok (.aload_n 0, 1) := by decide +kernel
theorem dX4_secret_173 : decode cX4_secret 173 = .ok (.getfield 34, 3) := by decide +kernel
theorem dX4_secret_176 : decode cX4_secret 176 = .ok (.iload 7, 2) := by decide +kernel
theorem dX4_secret_178 : decode cX4_secret 178 = .ok (.iaload, 1) := by decide +kernel
theorem dX4_secret_179 : decode cX4_secret 179 = .ok (.iastore, 1) := by decide +kernel
theorem dX4_secret_180 : decode cX4_secret 180 = .ok (.iinc 7 1, 3) := by decide +kernel
theorem dX4_secret_183 : decode cX4_secret 183 = .ok (.goto (-26), 3) := by decide +kernel
theorem dX4_secret_186 : decode cX4_secret 186 = .ok (.aload_n 0, 1) := by decide +kernel
theorem dX4_secret_187 : decode cX4_secret 187 = .ok (.iconst 0, 1) := by decide +kernel
theorem dX4_secret_188 : decode cX4_secret 188 = .ok (.putfield 98, 3) := by decide +kernel
theorem dX4_secret_191 : decode cX4_secret 191 = .ok (.aload_n 0, 1) := by decide +kernel
theorem dX4_secret_192 : decode cX4_secret 192 = .ok (.getfield 59, 3) := by decide +kernel
theorem dX4_secret_195 : decode cX4_secret 195 = .ok (.ireturn, 1) := by decide +kernel
set_option maxRecDepth 20000 in
theorem ggX4_readSecret_X4_isSign : GoodIn wsX4_readSecret wsX4_isSign := goodIn_r _ [8, 9, 10, 29, 30, 31, 32, 33, 34, 35, 36, 37, 38, 39, 40, 41, 42, 43, 44, 45, 46, 47, 48, 49, 50, 51] (by decide +kernel) (by decide +kernel)
set_option maxRecDepth 20000 in
theorem gX4_readSecret_X4_isSign : GoodIn wsX4_readSecret (wsV RX4 101 RX4 yX4_isSign wsX4_isSign) := goodIn_app (goodIn_of _ (by decide +kernel)) ggX4_readSecret_X4_isSign
set_option maxRecDepth 20000 in
theorem ggX4_readSecret_X4_readAnswer : GoodIn wsX4_readSecret wsX4_readAnswer := goodIn_r _ [14, 9, 10, 15, 1, 16, 17, 18, 19, 7, 20, 21, 22, 23, 29, 30, 31, 32, 33, 34, 35, 36, 37, 38, 39, 40, 41, 42, 43, 44, 45, 46, 47, 48, 49, 50, 51] (by decide +kernel) (by decide +kernel)
set_option maxRecDepth 20000 in
theorem gX4_readSecret_X4_readAnswer : GoodIn wsX4_readSecret (wsV RX4 105 RX4 yX4_readAnswer wsX4_readAnswer) := goodIn_app (goodIn_of _ (by decide +kernel)) ggX4_readSecret_X4_readAnswer
set_option maxRecDepth 20000 in
theorem ggX4_readSecret_X4_digit : GoodIn wsX4_readSecret wsX4_digit := goodIn_r _ [20, 9, 10, 21, 22, 7, 23, 29, 30, 31, 32, 33, 34, 35, 36, 37, 38, 39, 40, 41, 42, 43, 44, 45, 46, 47, 48, 49, 50, 51] (by decide +kernel) (by decide +kernel)
set_option maxRecDepth 20000 in
theorem gX4_readSecret_X4_digit : GoodIn wsX4_readSecret (wsV RX4 108 RX4 yX4_digit wsX4_digit) := goodIn_app (goodIn_of _ (by decide +kernel)) ggX4_readSecret_X4_digit
set_option maxRecDepth 20000 in
theorem ggX4_readSecret_X4_readThePillars : GoodIn wsX4_readSecret wsX4_readThePillars := goodIn_r _ [27, 2, 9, 28, 4, 5, 6, 7, 8, 10, 17, 18, 19, 20, 21, 22, 23, 29, 30, 31, 32, 33, 34, 35, 36, 37, 38, 39, 40, 41, 42, 43, 44, 45, 46, 47, 48, 49, 50, 51] (by decide +kernel) (by decide +kernel)
set_option maxRecDepth 20000 in
theorem gX4_readSecret_X4_readThePillars : GoodIn wsX4_readSecret (wsV RX4 112 RX4 yX4_readThePillars wsX4_readThePillars) := goodIn_app (goodIn_of _ (by decide +kernel)) ggX4_readSecret_X4_readThePillars
theorem dX4_readSecret_0 : decode cX4_readSecret 0 = .ok (.aload_n 0, 1) := by decide +kernel
theorem dX4_readSecret_1 : decode cX4_readSecret 1 = .ok (.iconst 0, 1) := by decide +kernel
theorem dX4_readSecret_2 : decode cX4_readSecret 2 = .ok (.putfield 83, 3) := by decide +kernel
theorem dX4_readSecret_5 : decode cX4_readSecret 5 = .ok (.aload_n 0, 1) := by decide +kernel
theorem dX4_readSecret_6 : decode cX4_readSecret 6 = .ok (.iconst 0, 1) := by decide +kernel
theorem dX4_readSecret_7 : decode cX4_readSecret 7 = .ok (.putfield 92, 3) := by decide +kernel
theorem dX4_readSecret_10 : decode cX4_readSecret 10 = .ok (.aload_n 0, 1) := by decide +kernel
theorem dX4_readSecret_11 : decode cX4_readSecret 11 = .ok (.iload_n 1, 1) := by decide +kernel
theorem dX4_readSecret_12 : decode cX4_readSecret 12 = .ok (.bipush 97, 2) := by decide +kernel
theorem dX4_readSecret_14 : decode cX4_readSecret 14 = .ok (.invokevirtual 101, 3) := by decide +kernel
theorem dX4_readSecret_17 : decode cX4_readSecret 17 = .ok (.ifCond .ne 5, 3) := by decide +kernel
theorem dX4_readSecret_20 : decode cX4_readSecret 20 = .ok (.iconst 0, 1) := by decide +kernel
theorem dX4_readSecret_21 : decode cX4_readSecret 21 = .ok (.ireturn, 1) := by decide +kernel
theorem dX4_readSecret_22 : decode cX4_readSecret 22 = .ok (.aload_n 0, 1) := by decide +kernel
theorem dX4_readSecret_23 : decode cX4_readSecret 23 = .ok (.getfield 83, 3) := by decide +kernel
theorem dX4_readSecret_26 : decode cX4_readSecret 26 = .ok (.iconst 2, 1) := by decide +kernel
theorem dX4_readSecret_27 : decode cX4_readSecret 27 = .ok (.if_icmp .ge 23, 3) := by decide +kernel
theorem dX4_readSecret_30 : decode cX4_readSecret 30 = .ok (.aload_n 0, 1) := by decide +kernel
theorem dX4_readSecret_31 : decode cX4_readSecret 31 = .ok (.iload_n 1, 1) := by decide +kernel
theorem dX4_readSecret_32 : decode cX4_readSecret 32 = .ok (.bipush 44, 2) := by decide +kernel
theorem dX4_readSecret_34 : decode cX4_readSecret 34 = .ok (.invokevirtual 101, 3) := by decide +kernel
theorem dX4_readSecret_37 : decode cX4_readSecret 37 = .ok (.ifCond .eq 11, 3) := by decide +kernel
theorem dX4_readSecret_40 : decode cX4_readSecret 40 = .ok (.aload_n 0, 1) := by decide +kernel
theorem dX4_readSecret_41 : decode cX4_readSecret 41 = .ok (.iload_n 1, 1) := by decide +kernel
theorem dX4_readSecret_42 : decode cX4_readSecret 42 = .ok (.invokevirtual 105, 3) := by decide +kernel
theorem dX4_readSecret_45 : decode cX4_readSecret 45 = .ok (.ifCond .ne (-23), 3) := by decide +kernel
theorem dX4_readSecret_48 : decode cX4_readSecret 48 = .ok (.iconst 0, 1) := by decide +kernel
theorem dX4_readSecret_49 : decode cX4_readSecret 49 = .ok (.ireturn, 1) := by decide +kernel
theorem dX4_readSecret_50 : decode cX4_readSecret 50 = .ok (.aload_n 0, 1) := by decide +kernel
theorem dX4_readSecret_51 : decode cX4_readSecret 51 = .ok (.getfield 83, 3) := by decide +kernel
theorem dX4_readSecret_54 : decode cX4_readSecret 54 = .ok (.bipush 6, 2) := by decide +kernel
theorem dX4_readSecret_56 : decode cX4_readSecret 56 = .ok (.if_icmp .ge 23, 3) := by decide +kernel
theorem dX4_readSecret_59 : decode cX4_readSecret 59 = .ok (.aload_n 0, 1) := by decide +kernel
theorem dX4_readSecret_60 : decode cX4_readSecret 60 = .ok (.iload_n 1, 1) := by decide +kernel
theorem dX4_readSecret_61 : decode cX4_readSecret 61 = .ok (.bipush 44, 2) := by decide +kernel
theorem dX4_readSecret_63 : decode cX4_readSecret 63 = .ok (.invokevirtual 101, 3) := by decide +kernel
theorem dX4_readSecret_66 : decode cX4_readSecret 66 = .ok (.ifCond .eq 13, 3) := by decide +kernel
theorem dX4_readSecret_69 : decode cX4_readSecret 69 = .ok (.aload_n 0, 1) := by decide +kernel
theorem dX4_readSecret_70 : decode cX4_readSecret 70 = .ok (.iload_n 1, 1) := by decide +kernel
theorem dX4_readSecret_71 : decode cX4_readSecret 71 = .ok (.invokevirtual 105, 3) := by decide +kernel
theorem dX4_readSecret_74 : decode cX4_readSecret 74 = .ok (.ifCond .ne (-24), 3) := by decide +kernel
theorem dX4_readSecret_77 : decode cX4_readSecret 77 = .ok (.iconst 0, 1) := by decide +kernel
theorem dX4_readSecret_78 : decode cX4_readSecret 78 = .ok (.ireturn, 1) := by decide +kernel
theorem dX4_readSecret_79 : decode cX4_readSecret 79 = .ok (.aload_n 0, 1) := by decide +kernel
theorem dX4_readSecret_80 : decode cX4_readSecret 80 = .ok (.iload_n 1, 1) := by decide +kernel
theorem dX4_readSecret_81 : decode cX4_readSecret 81 = .ok (.bipush 59, 2) := by decide +kernel
theorem dX4_readSecret_83 : decode cX4_readSecret 83 = .ok (.invokevirtual 101, 3) := by decide +kernel
theorem dX4_readSecret_86 : decode cX4_readSecret 86 = .ok (.ifCond .ne 5, 3) := by decide +kernel
theorem dX4_readSecret_89 : decode cX4_readSecret 89 = .ok (.iconst 0, 1) := by decide +kernel
theorem dX4_readSecret_90 : decode cX4_readSecret 90 = .ok (.ireturn, 1) := by decide +kernel
theorem dX4_readSecret_91 : decode cX4_readSecret 91 = .ok (.aload_n 0, 1) := by decide +kernel
theorem dX4_readSecret_92 : decode cX4_readSecret 92 = .ok (.aload_n 0, 1) := by decide +kernel
theorem dX4_readSecret_93 : decode cX4_readSecret 93 = .ok (.iload_n 1, 1) := by decide +kernel
theorem dX4_readSecret_94 : decode cX4_readSecret 94 = .ok (.iconst 0, 1) := by decide +kernel
theorem dX4_readSecret_95 : decode cX4_readSecret 95 = .ok (.invokevirtual 108, 3) := by decide +kernel
theorem dX4_readSecret_98 : decode cX4_readSecret 98 = .ok (.putfield 86, 3) := by decide +kernel
theorem dX4_readSecret_101 : decode cX4_readSecret 101 = .ok (.aload_n 0, 1) := by decide +kernel
theorem dX4_readSecret_102 : decode cX4_readSecret 102 = .ok (.getfield 86, 3) := by decide +kernel
theorem dX4_readSecret_105 : decode cX4_readSecret 105 = .ok (.bipush (-9), 2) := by decide +kernel
theorem dX4_readSecret_107 : decode cX4_readSecret 107 = .ok (.if_icmp .eq 15, 3) := by decide +kernel
theorem dX4_readSecret_110 : decode cX4_readSecret 110 = .ok (.aload_n 0, 1) := by decide +kernel
theorem dX4_readSecret_111 : decode cX4_readSecret 111 = .ok (.iload_n 1, 1) := by decide +kernel
theorem dX4_readSecret_112 : decode cX4_readSecret 112 = .ok (.invokevirtual 112, 3) := by decide +kernel
theorem dX4_readSecret_115 : decode cX4_readSecret 115 = .ok (.ifCond .eq 7, 3) := by decide +kernel
theorem dX4_readSecret_118 : decode cX4_readSecret 118 = .ok (.iconst 1, 1) := by decide +kernel
theorem dX4_readSecret_119 : decode cX4_readSecret 119 = .ok (.goto 4, 3) := by decide +kernel
theorem dX4_readSecret_122 : decode cX4_readSecret 122 = .ok (.iconst 0, 1) := by decide +kernel
theorem dX4_readSecret_123 : decode cX4_readSecret 123 = .ok (.ireturn, 1) := by decide +kernel
set_option maxRecDepth 20000 in
theorem ggX4_readThePillars_X4_isSign : GoodIn wsX4_readThePillars wsX4_isSign := goodIn_r _ [8, 2, 9, 17, 18, 19, 20, 21, 22, 23, 24, 25, 26, 27, 28, 29, 30, 31, 32, 33, 34, 35, 36, 37, 38, 39] (by decide +kernel) (by decide +kernel)
set_option maxRecDepth 20000 in
theorem gX4_readThePillars_X4_isSign : GoodIn wsX4_readThePillars (wsV RX4 101 RX4 yX4_isSign wsX4_isSign) := goodIn_app (goodIn_of _ (by decide +kernel)) ggX4_readThePillars_X4_isSign
set_option maxRecDepth 20000 in
theorem ggX4_readThePillars_X4_digit : GoodIn wsX4_readThePillars wsX4_digit := goodIn_r _ [13, 2, 9, 14, 15, 7, 16, 17, 18, 19, 20, 21, 22, 23, 24, 25, 26, 27, 28, 29, 30, 31, 32, 33, 34, 35, 36, 37, 38, 39] (by decide +kernel) (by decide +kernel)
set_option maxRecDepth 20000 in
theorem gX4_readThePillars_X4_digit : GoodIn wsX4_readThePillars (wsV RX4 108 RX4 yX4_digit wsX4_digit) := goodIn_app (goodIn_of _ (by decide +kernel)) ggX4_readThePillars_X4_digit
theorem dX4_readThePillars_0 : decode cX4_readThePillars 0 = .ok (.aload_n 0, 1) := by decide +kernel
theorem dX4_readThePillars_1 : decode cX4_readThePillars 1 = .ok (.getfield 92, 3) := by decide +kernel
theorem dX4_readThePillars_4 : decode cX4_readThePillars 4 = .ok (.ifCond .eq 19, 3) := by decide +kernel
theorem dX4_readThePillars_7 : decode cX4_readThePillars 7 = .ok (.aload_n 0, 1) := by decide +kernel
theorem dX4_readThePillars_8 : decode cX4_readThePillars 8 = .ok (.getfield 92, 3) := by decide +kernel
theorem dX4_readThePillars_11 : decode cX4_readThePillars 11 = .ok (.iconst 5, 1) := by decide +kernel
theorem dX4_readThePillars_12 : decode cX4_readThePillars 12 = .ok (.if_icmp .ge 66, 3) := by decide +kernel
theorem dX4_readThePillars_15 : decode cX4_readThePillars 15 = .ok (.aload_n 0, 1) := by decide +kernel
theorem dX4_readThePillars_16 : decode cX4_readThePillars 16 = .ok (.getfield 62, 3) := by decide +kernel
theorem dX4_readThePillars_19 : decode cX4_readThePillars 19 = .ok (.iload_n 1, 1) := by decide +kernel
theorem dX4_readThePillars_20 : decode cX4_readThePillars 20 = .ok (.if_icmp .ge 58, 3) := by decide +kernel
theorem dX4_readThePillars_23 : decode cX4_readThePillars 23 = .ok (.aload_n 0, 1) := by decide +kernel
theorem dX4_readThePillars_24 : decode cX4_readThePillars 24 = .ok (.iload_n 1, 1) := by decide +kernel
theorem dX4_readThePillars_25 : decode cX4_readThePillars 25 = .ok (.bipush 47, 2) := by decide +kernel
theorem dX4_readThePillars_27 : decode cX4_readThePillars 27 = .ok (.invokevirtual 101, 3) := by decide +kernel
theorem dX4_readThePillars_30 : decode cX4_readThePillars 30 = .ok (.ifCond .ne 5, 3) := by decide +kernel
theorem dX4_readThePillars_33 : decode cX4_readThePillars 33 = .ok (.iconst 0, 1) := by decide +kernel
theorem dX4_readThePillars_34 : decode cX4_readThePillars 34 = .ok (.ireturn, 1) := by decide +kernel
theorem dX4_readThePillars_35 : decode cX4_readThePillars 35 = .ok (.aload_n 0, 1) := by decide +kernel
theorem dX4_readThePillars_36 : decode cX4_readThePillars 36 = .ok (.getfield 34, 3) := by decide +kernel
theorem dX4_readThePillars_39 : decode cX4_readThePillars 39 = .ok (.aload_n 0, 1) := by decide +kernel
theorem dX4_readThePillars_40 : decode cX4_readThePillars 40 = .ok (.getfield 92, 3) := by decide +kernel
theorem dX4_readThePillars_43 : decode cX4_readThePillars 43 = .ok (.aload_n 0, 1) := by decide +kernel
theorem dX4_readThePillars_44 : decode cX4_readThePillars 44 = .ok (.iload_n 1, 1) := by decide +kernel
theorem dX4_readThePillars_45 : decode cX4_readThePillars 45 = .ok (.iconst 1, 1) := by decide +kernel
theorem dX4_readThePillars_46 : decode cX4_readThePillars 46 = .ok (.invokevirtual 108, 3) := by decide +kernel
theorem dX4_readThePillars_49 : decode cX4_readThePillars 49 = .ok (.iastore, 1) := by decide +kernel
theorem dX4_readThePillars_50 : decode cX4_readThePillars 50 = .ok (.aload_n 0, 1) := by decide +kernel
theorem dX4_readThePillars_51 : decode cX4_readThePillars 51 = .ok (.dup, 1) := by decide +kernel
theorem dX4_readThePillars_52 : decode cX4_readThePillars 52 = .ok (.getfield 92, 3) := by decide +kernel
theorem dX4_readThePillars_55 : decode cX4_readThePillars 55 = .ok (.iconst 1, 1) := by decide +kernel
theorem dX4_readThePillars_56 : decode cX4_readThePillars 56 = .ok (.iadd, 1) := by decide +kernel
theorem dX4_readThePillars_57 : decode cX4_readThePillars 57 = .ok (.putfield 92, 3) := by decide +kernel
theorem dX4_readThePillars_60 : decode cX4_readThePillars 60 = .ok (.aload_n 0, 1) := by decide +kernel
theorem dX4_readThePillars_61 : decode cX4_readThePillars 61 = .ok (.getfield 34, 3) := by decide +kernel
theorem dX4_readThePillars_64 : decode cX4_readThePillars 64 = .ok (.aload_n 0, 1) := by decide +kernel
theorem dX4_readThePillars_65 : decode cX4_readThePillars 65 = .ok (.getfield 92, 3) := by decide +kernel
theorem dX4_readThePillars_68 : decode cX4_readThePillars 68 = .ok (.iconst 1, 1) := by decide +kernel
theorem dX4_readThePillars_69 : decode cX4_readThePillars 69 = .ok (.isub, 1) := by decide +kernel
theorem dX4_readThePillars_70 : decode cX4_readThePillars 70 = .ok (.iaload, 1) := by decide +kernel
theorem dX4_readThePillars_71 : decode cX4_readThePillars 71 = .ok (.bipush (-9), 2) := by decide +kernel
theorem dX4_readThePillars_73 : decode cX4_readThePillars 73 = .ok (.if_icmp .ne (-73), 3) := by decide +kernel
theorem dX4_readThePillars_76 : decode cX4_readThePillars 76 = .ok (.iconst 0, 1) := by decide +kernel
theorem dX4_readThePillars_77 : decode cX4_readThePillars 77 = .ok (.ireturn, 1) := by decide +kernel
theorem dX4_readThePillars_78 : decode cX4_readThePillars 78 = .ok (.aload_n 0, 1) := by decide +kernel
theorem dX4_readThePillars_79 : decode cX4_readThePillars 79 = .ok (.getfield 62, 3) := by decide +kernel
theorem dX4_readThePillars_82 : decode cX4_readThePillars 82 = .ok (.iload_n 1, 1) := by decide +kernel
theorem dX4_readThePillars_83 : decode cX4_readThePillars 83 = .ok (.if_icmp .ne 7, 3) := by decide +kernel
theorem dX4_readThePillars_86 : decode cX4_readThePillars 86 = .ok (.iconst 1, 1) := by decide +kernel
theorem dX4_readThePillars_87 : decode cX4_readThePillars 87 = .ok (.goto 4, 3) := by decide +kernel
theorem dX4_readThePillars_90 : decode cX4_readThePillars 90 = .ok (.iconst 0, 1) := by decide +kernel
theorem dX4_readThePillars_91 : decode cX4_readThePillars 91 = .ok (.ireturn, 1) := by decide +kernel
set_option maxRecDepth 20000 in
theorem ggX4_readAnswer_X4_digit : GoodIn wsX4_readAnswer wsX4_digit := goodIn_r _ [10, 1, 2, 11, 12, 9, 13, 14, 15, 16, 17, 18, 19, 20, 21, 22, 23, 24, 25, 26, 27, 28, 29, 30, 31, 32, 33, 34, 35, 36] (by decide +kernel) (by decide +kernel)
set_option maxRecDepth 20000 in
theorem gX4_readAnswer_X4_digit : GoodIn wsX4_readAnswer (wsV RX4 108 RX4 yX4_digit wsX4_digit) := goodIn_app (goodIn_of _ (by decide +kernel)) ggX4_readAnswer_X4_digit
theorem dX4_readAnswer_0 : decode cX4_readAnswer 0 = .ok (.aload_n 0, 1) := by decide +kernel
theorem dX4_readAnswer_1 : decode cX4_readAnswer 1 = .ok (.getfield 62, 3) := by decide +kernel
theorem dX4_readAnswer_4 : decode cX4_readAnswer 4 = .ok (.iload_n 1, 1) := by decide +kernel
theorem dX4_readAnswer_5 : decode cX4_readAnswer 5 = .ok (.if_icmp .ge 15, 3) := by decide +kernel
theorem dX4_readAnswer_8 : decode cX4_readAnswer 8 = .ok (.aload_n 0, 1) := by decide +kernel
theorem dX4_readAnswer_9 : decode cX4_readAnswer 9 = .ok (.getfield 16, 3) := by decide +kernel
theorem dX4_readAnswer_12 : decode cX4_readAnswer 12 = .ok (.aload_n 0, 1) := by decide +kernel
theorem dX4_readAnswer_13 : decode cX4_readAnswer 13 = .ok (.getfield 62, 3) := by decide +kernel
theorem dX4_readAnswer_16 : decode cX4_readAnswer 16 = .ok (.iaload, 1) := by decide +kernel
theorem dX4_readAnswer_17 : decode cX4_readAnswer 17 = .ok (.goto 4, 3) := by decide +kernel
theorem dX4_readAnswer_20 : decode cX4_readAnswer 20 = .ok (.iconst 0, 1) := by decide +kernel
theorem dX4_readAnswer_21 : decode cX4_readAnswer 21 = .ok (.istore_n 2, 1) := by decide +kernel
theorem dX4_readAnswer_22 : decode cX4_readAnswer 22 = .ok (.aload_n 0, 1) := by decide +kernel
theorem dX4_readAnswer_23 : decode cX4_readAnswer 23 = .ok (.getfield 28, 3) := by decide +kernel
theorem dX4_readAnswer_26 : decode cX4_readAnswer 26 = .ok (.aload_n 0, 1) := by decide +kernel
theorem dX4_readAnswer_27 : decode cX4_readAnswer 27 = .ok (.getfield 83, 3) := by decide +kernel
theorem dX4_readAnswer_30 : decode cX4_readAnswer 30 = .ok (.iload_n 2, 1) := by decide +kernel
theorem dX4_readAnswer_31 : decode cX4_readAnswer 31 = .ok (.bipush 112, 2) := by decide +kernel
theorem dX4_readAnswer_33 : decode cX4_readAnswer 33 = .ok (.if_icmp .ne 7, 3) := by decide +kernel
theorem dX4_readAnswer_36 : decode cX4_readAnswer 36 = .ok (.iconst 0, 1) := by decide +kernel
theorem dX4_readAnswer_37 : decode cX4_readAnswer 37 = .ok (.goto 25, 3) := by decide +kernel
theorem dX4_readAnswer_40 : decode cX4_readAnswer 40 = .ok (.iload_n 2, 1) := by decide +kernel
theorem dX4_readAnswer_41 : decode cX4_readAnswer 41 = .ok (.bipush 115, 2) := by decide +kernel
theorem dX4_readAnswer_43 : decode cX4_readAnswer 43 = .ok (.if_icmp .ne 7, 3) := by decide +kernel
theorem dX4_readAnswer_46 : decode cX4_readAnswer 46 = .ok (.iconst 1, 1) := by decide +kernel
theorem dX4_readAnswer_47 : decode cX4_readAnswer 47 = .ok (.goto 15, 3) := by decide +kernel
theorem dX4_readAnswer_50 : decode cX4_readAnswer 50 = .ok (.iload_n 2, 1) := by decide +kernel
theorem dX4_readAnswer_51 : decode cX4_readAnswer 51 = .ok (.bipush 118, 2) := by decide +kernel
theorem dX4_readAnswer_53 : decode cX4_readAnswer 53 = .ok (.if_icmp .ne 7, 3) := by decide +kernel
theorem dX4_readAnswer_56 : decode cX4_readAnswer 56 = .ok (.iconst 2, 1) := by decide +kernel
theorem dX4_readAnswer_57 : decode cX4_readAnswer 57 = .ok (.goto 5, 3) := by decide +kernel
theorem dX4_readAnswer_60 : decode cX4_readAnswer 60 = .ok (.bipush (-9), 2) := by decide +kernel
theorem dX4_readAnswer_62 : decode cX4_readAnswer 62 = .ok (.iastore, 1) := by decide +kernel
theorem dX4_readAnswer_63 : decode cX4_readAnswer 63 = .ok (.aload_n 0, 1) := by decide +kernel
theorem dX4_readAnswer_64 : decode cX4_readAnswer 64 = .ok (.getfield 28, 3) := by decide +kernel
theorem dX4_readAnswer_67 : decode cX4_readAnswer 67 = .ok (.aload_n 0, 1) := by decide +kernel
theorem dX4_readAnswer_68 : decode cX4_readAnswer 68 = .ok (.getfield 83, 3) := by decide +kernel
theorem dX4_readAnswer_71 : decode cX4_readAnswer 71 = .ok (.iaload, 1) := by decide +kernel
theorem dX4_readAnswer_72 : decode cX4_readAnswer 72 = .ok (.bipush (-9), 2) := by decide +kernel
theorem dX4_readAnswer_74 : decode cX4_readAnswer 74 = .ok (.if_icmp .ne 5, 3) := by decide +kernel
theorem dX4_readAnswer_77 : decode cX4_readAnswer 77 = .ok (.iconst 0, 1) := by decide +kernel
theorem dX4_readAnswer_78 : decode cX4_readAnswer 78 = .ok (.ireturn, 1) := by decide +kernel
theorem dX4_readAnswer_79 : decode cX4_readAnswer 79 = .ok (.aload_n 0, 1) := by decide +kernel
theorem dX4_readAnswer_80 : decode cX4_readAnswer 80 = .ok (.dup, 1) := by decide +kernel
theorem dX4_readAnswer_81 : decode cX4_readAnswer 81 = .ok (.getfield 62, 3) := by decide +kernel
theorem dX4_readAnswer_84 : decode cX4_readAnswer 84 = .ok (.iconst 1, 1) := by decide +kernel
theorem dX4_readAnswer_85 : decode cX4_readAnswer 85 = .ok (.iadd, 1) := by decide +kernel
theorem dX4_readAnswer_86 : decode cX4_readAnswer 86 = .ok (.putfield 62, 3) := by decide +kernel
theorem dX4_readAnswer_89 : decode cX4_readAnswer 89 = .ok (.aload_n 0, 1) := by decide +kernel
theorem dX4_readAnswer_90 : decode cX4_readAnswer 90 = .ok (.getfield 31, 3) := by decide +kernel
theorem dX4_readAnswer_93 : decode cX4_readAnswer 93 = .ok (.aload_n 0, 1) := by decide +kernel
theorem dX4_readAnswer_94 : decode cX4_readAnswer 94 = .ok (.getfield 83, 3) := by decide +kernel
theorem dX4_readAnswer_97 : decode cX4_readAnswer 97 = .ok (.aload_n 0, 1) := by decide +kernel
theorem dX4_readAnswer_98 : decode cX4_readAnswer 98 = .ok (.iload_n 1, 1) := by decide +kernel
theorem dX4_readAnswer_99 : decode cX4_readAnswer 99 = .ok (.iconst 0, 1) := by decide +kernel
theorem dX4_readAnswer_100 : decode cX4_readAnswer 100 = .ok (.invokevirtual 108, 3) := by decide +kernel
theorem dX4_readAnswer_103 : decode cX4_readAnswer 103 = .ok (.iastore, 1) := by decide +kernel
theorem dX4_readAnswer_104 : decode cX4_readAnswer 104 = .ok (.aload_n 0, 1) := by decide +kernel
theorem dX4_readAnswer_105 : decode cX4_readAnswer 105 = .ok (.dup, 1) := by decide +kernel
theorem dX4_readAnswer_106 : decode cX4_readAnswer 106 = .ok (.getfield 83, 3) := by decide +kernel
theorem dX4_readAnswer_109 : decode cX4_readAnswer 109 = .ok (.iconst 1, 1) := by decide +kernel
theorem dX4_readAnswer_110 : decode cX4_readAnswer 110 = .ok (.iadd, 1) := by decide +kernel
theorem dX4_readAnswer_111 : decode cX4_readAnswer 111 = .ok (.putfield 83, 3) := by decide +kernel
theorem dX4_readAnswer_114 : decode cX4_readAnswer 114 = .ok (.aload_n 0, 1) := by decide +kernel
theorem dX4_readAnswer_115 : decode cX4_readAnswer 115 = .ok (.getfield 31, 3) := by decide +kernel
theorem dX4_readAnswer_118 : decode cX4_readAnswer 118 = .ok (.aload_n 0, 1) := by decide +kernel
theorem dX4_readAnswer_119 : decode cX4_readAnswer 119 = .ok (.getfield 83, 3) := by decide +kernel
theorem dX4_readAnswer_122 : decode cX4_readAnswer 122 = .ok (.iconst 1, 1) := by decide +kernel
theorem dX4_readAnswer_123 : decode cX4_readAnswer 123 = .ok (.isub, 1) := by decide +kernel
theorem dX4_readAnswer_124 : decode cX4_readAnswer 124 = .ok (.iaload, 1) := by decide +kernel
theorem dX4_readAnswer_125 : decode cX4_readAnswer 125 = .ok (.bipush (-9), 2) := by decide +kernel
theorem dX4_readAnswer_127 : decode cX4_readAnswer 127 = .ok (.if_icmp .eq 7, 3) := by decide +kernel
theorem dX4_readAnswer_130 : decode cX4_readAnswer 130 = .ok (.iconst 1, 1) := by decide +kernel
theorem dX4_readAnswer_131 : decode cX4_readAnswer 131 = .ok (.goto 4, 3) := by decide +kernel
theorem dX4_readAnswer_134 : decode cX4_readAnswer 134 = .ok (.iconst 0, 1) := by decide +kernel
theorem dX4_readAnswer_135 : decode cX4_readAnswer 135 = .ok (.ireturn, 1) := by decide +kernel
set_option maxRecDepth 20000 in
theorem ggX4_ofAnswer_X4_isAnswer : GoodIn wsX4_ofAnswer wsX4_isAnswer := goodIn_r _ [7, 8, 9, 10, 11, 12, 13, 14, 15, 16, 17, 18, 19, 20, 21, 22, 23, 24, 25, 26, 27, 28, 29, 30, 31] (by decide +kernel) (by decide +kernel)
set_option maxRecDepth 20000 in
theorem gX4_ofAnswer_X4_isAnswer : GoodIn wsX4_ofAnswer (wsV RX4 115 RX4 yX4_isAnswer wsX4_isAnswer) := goodIn_app (goodIn_of _ (by decide +kernel)) ggX4_ofAnswer_X4_isAnswer
theorem dX4_ofAnswer_0 : decode cX4_ofAnswer 0 = .ok (.aload_n 0, 1) := by decide +kernel
theorem dX4_ofAnswer_1 : decode cX4_ofAnswer 1 = .ok (.iload_n 1, 1) := by decide +kernel
theorem dX4_ofAnswer_2 : decode cX4_ofAnswer 2 = .ok (.invokevirtual 115, 3) := by decide +kernel
theorem dX4_ofAnswer_5 : decode cX4_ofAnswer 5 = .ok (.ifCond .ne 5, 3) := by decide +kernel
theorem dX4_ofAnswer_8 : decode cX4_ofAnswer 8 = .ok (.iconst (-1), 1) := by decide +kernel
theorem dX4_ofAnswer_9 : decode cX4_ofAnswer 9 = .ok (.ireturn, 1) := by decide +kernel
theorem dX4_ofAnswer_10 : decode cX4_ofAnswer 10 = .ok (.iload_n 2, 1) := by decide +kernel
theorem dX4_ofAnswer_11 : decode cX4_ofAnswer 11 = .ok (.ifCond .ne 12, 3) := by decide +kernel
theorem dX4_ofAnswer_14 : decode cX4_ofAnswer 14 = .ok (.aload_n 0, 1) := by decide +kernel
theorem dX4_ofAnswer_15 : decode cX4_ofAnswer 15 = .ok (.getfield 19, 3) := by decide +kernel
theorem dX4_ofAnswer_18 : decode cX4_ofAnswer 18 = .ok (.iload_n 1, 1) := by decide +kernel
theorem dX4_ofAnswer_19 : decode cX4_ofAnswer 19 = .ok (.iaload, 1) := by decide +kernel
theorem dX4_ofAnswer_20 : decode cX4_ofAnswer 20 = .ok (.goto 19, 3) := by decide +kernel
theorem dX4_ofAnswer_23 : decode cX4_ofAnswer 23 = .ok (.iload_n 2, 1) := by decide +kernel
theorem dX4_ofAnswer_24 : decode cX4_ofAnswer 24 = .ok (.iconst 1, 1) := by decide +kernel
theorem dX4_ofAnswer_25 : decode cX4_ofAnswer 25 = .ok (.if_icmp .ne 12, 3) := by decide +kernel
theorem dX4_ofAnswer_28 : decode cX4_ofAnswer 28 = .ok (.aload_n 0, 1) := by decide +kernel
theorem dX4_ofAnswer_29 : decode cX4_ofAnswer 29 = .ok (.getfield 22, 3) := by decide +kernel
theorem dX4_ofAnswer_32 : decode cX4_ofAnswer 32 = .ok (.iload_n 1, 1) := by decide +kernel
theorem dX4_ofAnswer_33 : decode cX4_ofAnswer 33 = .ok (.iaload, 1) := by decide +kernel
theorem dX4_ofAnswer_34 : decode cX4_ofAnswer 34 = .ok (.goto 5, 3) := by decide +kernel
theorem dX4_ofAnswer_37 : decode cX4_ofAnswer 37 = .ok (.bipush (-2), 2) := by decide +kernel
theorem dX4_ofAnswer_39 : decode cX4_ofAnswer 39 = .ok (.ireturn, 1) := by decide +kernel
set_option maxRecDepth 20000 in
theorem ggX4_move_X4_isAnswer : GoodIn wsX4_move wsX4_isAnswer := goodIn_r _ [6, 7, 11, 12, 13, 14, 15, 16, 17, 18, 19, 20, 21, 22, 23, 24, 25, 26, 27, 28, 29, 30, 31, 32, 33] (by decide +kernel) (by decide +kernel)
set_option maxRecDepth 20000 in
theorem gX4_move_X4_isAnswer : GoodIn wsX4_move (wsV RX4 115 RX4 yX4_isAnswer wsX4_isAnswer) := goodIn_app (goodIn_of _ (by decide +kernel)) ggX4_move_X4_isAnswer
set_option maxRecDepth 20000 in
theorem ggX4_move_X4_within : GoodIn wsX4_move wsX4_within := goodIn_r _ [10] (by decide +kernel) (by decide +kernel)
set_option maxRecDepth 20000 in
theorem gX4_move_X4_within : GoodIn wsX4_move (va_wsS RX4 55 yX4_within wsX4_within) := goodIn_app (goodIn_of _ (by decide +kernel)) ggX4_move_X4_within
theorem dX4_move_0 : decode cX4_move 0 = .ok (.aload_n 0, 1) := by decide +kernel
theorem dX4_move_1 : decode cX4_move 1 = .ok (.iload_n 1, 1) := by decide +kernel
theorem dX4_move_2 : decode cX4_move 2 = .ok (.invokevirtual 115, 3) := by decide +kernel
theorem dX4_move_5 : decode cX4_move 5 = .ok (.ifCond .ne 5, 3) := by decide +kernel
theorem dX4_move_8 : decode cX4_move 8 = .ok (.iconst (-1), 1) := by decide +kernel
theorem dX4_move_9 : decode cX4_move 9 = .ok (.ireturn, 1) := by decide +kernel
theorem dX4_move_10 : decode cX4_move 10 = .ok (.iload_n 2, 1) := by decide +kernel
theorem dX4_move_11 : decode cX4_move 11 = .ok (.iconst 0, 1) := by decide +kernel
theorem dX4_move_12 : decode cX4_move 12 = .ok (.bipush 9, 2) := by decide +kernel
theorem dX4_move_14 : decode cX4_move 14 = .ok (.invokestatic 55, 3) := by decide +kernel
theorem dX4_move_17 : decode cX4_move 17 = .ok (.ifCond .ne 6, 3) := by decide +kernel
theorem dX4_move_20 : decode cX4_move 20 = .ok (.bipush (-2), 2) := by decide +kernel
theorem dX4_move_22 : decode cX4_move 22 = .ok (.ireturn, 1) := by decide +kernel
theorem dX4_move_23 : decode cX4_move 23 = .ok (.aload_n 0, 1) := by decide +kernel
theorem dX4_move_24 : decode cX4_move 24 = .ok (.getfield 22, 3) := by decide +kernel
theorem dX4_move_27 : decode cX4_move 27 = .ok (.iload_n 1, 1) := by decide +kernel
theorem dX4_move_28 : decode cX4_move 28 = .ok (.iaload, 1) := by decide +kernel
theorem dX4_move_29 : decode cX4_move 29 = .ok (.istore_n 3, 1) := by decide +kernel
theorem dX4_move_30 : decode cX4_move 30 = .ok (.aload_n 0, 1) := by decide +kernel
theorem dX4_move_31 : decode cX4_move 31 = .ok (.getfield 22, 3) := by decide +kernel
theorem dX4_move_34 : decode cX4_move 34 = .ok (.iload_n 1, 1) := by decide +kernel
theorem dX4_move_35 : decode cX4_move 35 = .ok (.iload_n 2, 1) := by decide +kernel
theorem dX4_move_36 : decode cX4_move 36 = .ok (.iastore, 1) := by decide +kernel
theorem dX4_move_37 : decode cX4_move 37 = .ok (.iload_n 3, 1) := by decide +kernel
theorem dX4_move_38 : decode cX4_move 38 = .ok (.ireturn, 1) := by decide +kernel
set_option maxRecDepth 20000 in
theorem ggX4_grow_X4_within : GoodIn wsX4_grow wsX4_within := goodIn_r _ [6] (by decide +kernel) (by decide +kernel)
set_option maxRecDepth 20000 in
theorem gX4_grow_X4_within : GoodIn wsX4_grow (va_wsS RX4 55 yX4_within wsX4_within) := goodIn_app (goodIn_of _ (by decide +kernel)) ggX4_grow_X4_within
theorem dX4_grow_0 : decode cX4_grow 0 = .ok (.iload_n 1, 1) := by decide +kernel
theorem dX4_grow_1 : decode cX4_grow 1 = .ok (.iconst 0, 1) := by decide +kernel
theorem dX4_grow_2 : decode cX4_grow 2 = .ok (.bipush 9, 2) := by decide +kernel
theorem dX4_grow_4 : decode cX4_grow 4 = .ok (.invokestatic 55, 3) := by decide +kernel
theorem dX4_grow_7 : decode cX4_grow 7 = .ok (.ifCond .ne 6, 3) := by decide +kernel
theorem dX4_grow_10 : decode cX4_grow 10 = .ok (.bipush (-2), 2) := by decide +kernel
theorem dX4_grow_12 : decode cX4_grow 12 = .ok (.ireturn, 1) := by decide +kernel
theorem dX4_grow_13 : decode cX4_grow 13 = .ok (.aload_n 0, 1) := by decide +kernel
theorem dX4_grow_14 : decode cX4_grow 14 = .ok (.getfield 59, 3) := by decide +kernel
theorem dX4_grow_17 : decode cX4_grow 17 = .ok (.ifCond .ne 6, 3) := by decide +kernel
theorem dX4_grow_20 : decode cX4_grow 20 = .ok (.bipush (-3), 2) := by decide +kernel
theorem dX4_grow_22 : decode cX4_grow 22 = .ok (.ireturn, 1) := by decide +kernel
theorem dX4_grow_23 : decode cX4_grow 23 = .ok (.aload_n 0, 1) := by decide +kernel
theorem dX4_grow_24 : decode cX4_grow 24 = .ok (.getfield 89, 3) := by decide +kernel
theorem dX4_grow_27 : decode cX4_grow 27 = .ok (.istore_n 2, 1) := by decide +kernel
theorem dX4_grow_28 : decode cX4_grow 28 = .ok (.aload_n 0, 1) := by decide +kernel
theorem dX4_grow_29 : decode cX4_grow 29 = .ok (.iload_n 1, 1) := by decide +kernel
theorem dX4_grow_30 : decode cX4_grow 30 = .ok (.putfield 89, 3) := by decide +kernel
theorem dX4_grow_33 : decode cX4_grow 33 = .ok (.iload_n 2, 1) := by decide +kernel
theorem dX4_grow_34 : decode cX4_grow 34 = .ok (.ireturn, 1) := by decide +kernel
theorem dX4_shownBy_0 : decode cX4_shownBy 0 = .ok (.iload_n 1, 1) := by decide +kernel
theorem dX4_shownBy_1 : decode cX4_shownBy 1 = .ok (.iload_n 2, 1) := by decide +kernel
theorem dX4_shownBy_2 : decode cX4_shownBy 2 = .ok (.if_icmp .ne 6, 3) := by decide +kernel
theorem dX4_shownBy_5 : decode cX4_shownBy 5 = .ok (.bipush (-9), 2) := by decide +kernel
theorem dX4_shownBy_7 : decode cX4_shownBy 7 = .ok (.ireturn, 1) := by decide +kernel
theorem dX4_shownBy_8 : decode cX4_shownBy 8 = .ok (.aload_n 0, 1) := by decide +kernel
theorem dX4_shownBy_9 : decode cX4_shownBy 9 = .ok (.getfield 22, 3) := by decide +kernel
theorem dX4_shownBy_12 : decode cX4_shownBy 12 = .ok (.iload_n 1, 1) := by decide +kernel
theorem dX4_shownBy_13 : decode cX4_shownBy 13 = .ok (.iaload, 1) := by decide +kernel
theorem dX4_shownBy_14 : decode cX4_shownBy 14 = .ok (.aload_n 0, 1) := by decide +kernel
theorem dX4_shownBy_15 : decode cX4_shownBy 15 = .ok (.getfield 22, 3) := by decide +kernel
theorem dX4_shownBy_18 : decode cX4_shownBy 18 = .ok (.iload_n 2, 1) := by decide +kernel
theorem dX4_shownBy_19 : decode cX4_shownBy 19 = .ok (.iaload, 1) := by decide +kernel
theorem dX4_shownBy_20 : decode cX4_shownBy 20 = .ok (.if_icmp .ge 19, 3) := by decide +kernel
theorem dX4_shownBy_23 : decode cX4_shownBy 23 = .ok (.aload_n 0, 1) := by decide +kernel
theorem dX4_shownBy_24 : decode cX4_shownBy 24 = .ok (.getfield 22, 3) := by decide +kernel
theorem dX4_shownBy_27 : decode cX4_shownBy 27 = .ok (.iload_n 2, 1) := by decide +kernel
theorem dX4_shownBy_28 : decode cX4_shownBy 28 = .ok (.iaload, 1) := by decide +kernel
theorem dX4_shownBy_29 : decode cX4_shownBy 29 = .ok (.aload_n 0, 1) := by decide +kernel
theorem dX4_shownBy_30 : decode cX4_shownBy 30 = .ok (.getfield 22, 3) := by decide +kernel
theorem dX4_shownBy_33 : decode cX4_shownBy 33 = .ok (.iload_n 1, 1) := by decide +kernel
theorem dX4_shownBy_34 : decode cX4_shownBy 34 = .ok (.iaload, 1) := by decide +kernel
theorem dX4_shownBy_35 : decode cX4_shownBy 35 = .ok (.isub, 1) := by decide +kernel
theorem dX4_shownBy_36 : decode cX4_shownBy 36 = .ok (.goto 16, 3) := by decide +kernel
theorem dX4_shownBy_39 : decode cX4_shownBy 39 = .ok (.aload_n 0, 1) := by decide +kernel
theorem dX4_shownBy_40 : decode cX4_shownBy 40 = .ok (.getfield 22, 3) := by decide +kernel
theorem dX4_shownBy_43 : decode cX4_shownBy 43 = .ok (.iload_n 1, 1) := by decide +kernel
theorem dX4_shownBy_44 : decode cX4_shownBy 44 = .ok (.iaload, 1) := by decide +kernel
theorem dX4_shownBy_45 : decode cX4_shownBy 45 = .ok (.aload_n 0, 1) := by decide +kernel
theorem dX4_shownBy_46 : decode cX4_shownBy 46 = .ok (.getfield 22, 3) := by decide +kernel
theorem dX4_shownBy_49 : decode cX4_shownBy 49 = .ok (.iload_n 2, 1) := by decide +kernel
theorem dX4_shownBy_50 : decode cX4_shownBy 50 = .ok (.iaload, 1) := by decide +kernel
theorem dX4_shownBy_51 : decode cX4_shownBy 51 = .ok (.isub, 1) := by decide +kernel
theorem dX4_shownBy_52 : decode cX4_shownBy 52 = .ok (.istore_n 3, 1) := by decide +kernel
theorem dX4_shownBy_53 : decode cX4_shownBy 53 = .ok (.aload_n 0, 1) := by decide +kernel
theorem dX4_shownBy_54 : decode cX4_shownBy 54 = .ok (.getfield 19, 3) := by decide +kernel
theorem dX4_shownBy_57 : decode cX4_shownBy 57 = .ok (.iload_n 1, 1) := by decide +kernel
theorem dX4_shownBy_58 : decode cX4_shownBy 58 = .ok (.iaload, 1) := by decide +kernel
theorem dX4_shownBy_59 : decode cX4_shownBy 59 = .ok (.ifCond .ne 7, 3) := by decide +kernel
theorem dX4_shownBy_62 : decode cX4_shownBy 62 = .ok (.iload_n 3, 1) := by decide +kernel
theorem dX4_shownBy_63 : decode cX4_shownBy 63 = .ok (.goto 22, 3) := by decide +kernel
theorem dX4_shownBy_66 : decode cX4_shownBy 66 = .ok (.aload_n 0, 1) := by decide +kernel
theorem dX4_shownBy_67 : decode cX4_shownBy 67 = .ok (.getfield 19, 3) := by decide +kernel
theorem dX4_shownBy_70 : decode cX4_shownBy 70 = .ok (.iload_n 1, 1) := by decide +kernel
theorem dX4_shownBy_71 : decode cX4_shownBy 71 = .ok (.iaload, 1) := by decide +kernel
theorem dX4_shownBy_72 : decode cX4_shownBy 72 = .ok (.iconst 1, 1) := by decide +kernel
theorem dX4_shownBy_73 : decode cX4_shownBy 73 = .ok (.if_icmp .ne 9, 3) := by decide +kernel
theorem dX4_shownBy_76 : decode cX4_shownBy 76 = .ok (.iload_n 3, 1) := by decide +kernel
theorem dX4_shownBy_77 : decode cX4_shownBy 77 = .ok (.iconst 1, 1) := by decide +kernel
theorem dX4_shownBy_78 : decode cX4_shownBy 78 = .ok (.iadd, 1) := by decide +kernel
theorem dX4_shownBy_79 : decode cX4_shownBy 79 = .ok (.goto 6, 3) := by decide +kernel
theorem dX4_shownBy_82 : decode cX4_shownBy 82 = .ok (.iload_n 3, 1) := by decide +kernel
theorem dX4_shownBy_83 : decode cX4_shownBy 83 = .ok (.iconst 2, 1) := by decide +kernel
theorem dX4_shownBy_84 : decode cX4_shownBy 84 = .ok (.idiv, 1) := by decide +kernel
theorem dX4_shownBy_85 : decode cX4_shownBy 85 = .ok (.ireturn, 1) := by decide +kernel
set_option maxRecDepth 20000 in
theorem ggX4_shown_X4_isAnswer : GoodIn wsX4_shown wsX4_isAnswer := goodIn_r _ [5, 6, 13, 14, 15, 16, 17, 18, 19, 20, 21, 22, 23, 24, 25, 26, 27, 28, 29, 30, 31, 32, 33, 34, 35] (by decide +kernel) (by decide +kernel)
set_option maxRecDepth 20000 in
theorem gX4_shown_X4_isAnswer : GoodIn wsX4_shown (wsV RX4 115 RX4 yX4_isAnswer wsX4_isAnswer) := goodIn_app (goodIn_of _ (by decide +kernel)) ggX4_shown_X4_isAnswer
set_option maxRecDepth 20000 in
theorem ggX4_shown_X4_shownBy : GoodIn wsX4_shown wsX4_shownBy := goodIn_r _ [10, 11, 12, 13, 14, 15, 16, 17, 18, 19, 20, 21, 22, 23, 24, 25, 26, 27, 28, 29, 30, 31, 32, 33, 34, 35] (by decide +kernel) (by decide +kernel)
set_option maxRecDepth 20000 in
theorem gX4_shown_X4_shownBy : GoodIn wsX4_shown (wsV RX4 118 RX4 yX4_shownBy wsX4_shownBy) := goodIn_app (goodIn_of _ (by decide +kernel)) ggX4_shown_X4_shownBy
theorem dX4_shown_0 : decode cX4_shown 0 = .ok (.aload_n 0, 1) := by decide +kernel
theorem dX4_shown_1 : decode cX4_shown 1 = .ok (.iload_n 1, 1) := by decide +kernel
theorem dX4_shown_2 : decode cX4_shown 2 = .ok (.invokevirtual 115, 3) := by decide +kernel
theorem dX4_shown_5 : decode cX4_shown 5 = .ok (.ifCond .eq 20, 3) := by decide +kernel
theorem dX4_shown_8 : decode cX4_shown 8 = .ok (.aload_n 0, 1) := by decide +kernel
theorem dX4_shown_9 : decode cX4_shown 9 = .ok (.iload_n 2, 1) := by decide +kernel
theorem dX4_shown_10 : decode cX4_shown 10 = .ok (.invokevirtual 115, 3) := by decide +kernel
theorem dX4_shown_13 : decode cX4_shown 13 = .ok (.ifCond .eq 12, 3) := by decide +kernel
theorem dX4_shown_16 : decode cX4_shown 16 = .ok (.aload_n 0, 1) := by decide +kernel
theorem dX4_shown_17 : decode cX4_shown 17 = .ok (.iload_n 1, 1) := by decide +kernel
theorem dX4_shown_18 : decode cX4_shown 18 = .ok (.iload_n 2, 1) := by decide +kernel
theorem dX4_shown_19 : decode cX4_shown 19 = .ok (.invokevirtual 118, 3) := by decide +kernel
theorem dX4_shown_22 : decode cX4_shown 22 = .ok (.goto 4, 3) := by decide +kernel
theorem dX4_shown_25 : decode cX4_shown 25 = .ok (.iconst (-1), 1) := by decide +kernel
theorem dX4_shown_26 : decode cX4_shown 26 = .ok (.ireturn, 1) := by decide +kernel
set_option maxRecDepth 20000 in
theorem ggX4_nights_X4_isAnswer : GoodIn wsX4_nights wsX4_isAnswer := goodIn_r _ [7, 8, 42, 43, 44, 45, 46, 47, 48, 49, 50, 51, 52, 53, 54, 55, 56, 57, 58, 59, 60, 61, 62, 63, 64] (by decide +kernel) (by decide +kernel)
set_option maxRecDepth 20000 in
theorem gX4_nights_X4_isAnswer : GoodIn wsX4_nights (wsV RX4 115 RX4 yX4_isAnswer wsX4_isAnswer) := goodIn_app (goodIn_of _ (by decide +kernel)) ggX4_nights_X4_isAnswer
set_option maxRecDepth 20000 in
theorem ggX4_nights_X4_isSheet : GoodIn wsX4_nights wsX4_isSheet := goodIn_r _ [11, 12, 13, 6, 14] (by decide +kernel) (by decide +kernel)
set_option maxRecDepth 20000 in
theorem gX4_nights_X4_isSheet : GoodIn wsX4_nights (va_wsS RX4 65 yX4_isSheet wsX4_isSheet) := goodIn_app (goodIn_of _ (by decide +kernel)) ggX4_nights_X4_isSheet
set_option maxRecDepth 20000 in
theorem ggX4_nights_X4_isSort : GoodIn wsX4_nights wsX4_isSort := goodIn_r _ [17, 12, 13, 6, 14] (by decide +kernel) (by decide +kernel)
set_option maxRecDepth 20000 in
theorem gX4_nights_X4_isSort : GoodIn wsX4_nights (va_wsS RX4 69 yX4_isSort wsX4_isSort) := goodIn_app (goodIn_of _ (by decide +kernel)) ggX4_nights_X4_isSort
set_option maxRecDepth 20000 in
theorem ggX4_nights_X4_within : GoodIn wsX4_nights wsX4_within := goodIn_r _ [14] (by decide +kernel) (by decide +kernel)
set_option maxRecDepth 20000 in
theorem gX4_nights_X4_within : GoodIn wsX4_nights (va_wsS RX4 55 yX4_within wsX4_within) := goodIn_app (goodIn_of _ (by decide +kernel)) ggX4_nights_X4_within
set_option maxRecDepth 20000 in
theorem ggX4_nights_X4_against : GoodIn wsX4_nights wsX4_against := goodIn_r _ [21, 22, 23, 42, 43, 44, 45, 46, 47, 48, 49, 50, 51, 52, 53, 54, 55, 56, 57, 58, 59, 60, 61, 62, 63, 64] (by decide +kernel) (by decide +kernel)
set_option maxRecDepth 20000 in
theorem gX4_nights_X4_against : GoodIn wsX4_nights (wsV RX4 72 RX4 yX4_against wsX4_against) := goodIn_app (goodIn_of _ (by decide +kernel)) ggX4_nights_X4_against
set_option maxRecDepth 20000 in
theorem ggX4_nights_X4_fails : GoodIn wsX4_nights wsX4_fails := goodIn_r _ [27, 1, 42, 43, 44, 45, 46, 47, 48, 49, 50, 51, 52, 53, 54, 55, 56, 57, 58, 59, 60, 61, 62, 63, 64] (by decide +kernel) (by decide +kernel)
set_option maxRecDepth 20000 in
theorem gX4_nights_X4_fails : GoodIn wsX4_nights (wsV RX4 76 RX4 yX4_fails wsX4_fails) := goodIn_app (goodIn_of _ (by decide +kernel)) ggX4_nights_X4_fails
set_option maxRecDepth 20000 in
theorem ggX4_nights_X4_tellNights : GoodIn wsX4_nights wsX4_tellNights := goodIn_r _ [31, 8, 2, 32, 33, 34, 6, 35, 36, 37, 38, 39, 40, 41, 42, 43, 44, 45, 46, 47, 48, 49, 50, 51, 52, 53, 54, 55, 56, 57, 58, 59, 60, 61, 62, 63, 64] (by decide +kernel) (by decide +kernel)
set_option maxRecDepth 20000 in
theorem gX4_nights_X4_tellNights : GoodIn wsX4_nights (wsV RX4 121 RX4 yX4_tellNights wsX4_tellNights) := goodIn_app (goodIn_of _ (by decide +kernel)) ggX4_nights_X4_tellNights
theorem dX4_nights_0 : decode cX4_nights 0 = .ok (.aload_n 0, 1) := by decide +kernel
theorem dX4_nights_1 : decode cX4_nights 1 = .ok (.iconst 0, 1) := by decide +kernel
theorem dX4_nights_2 : decode cX4_nights 2 = .ok (.putfield 49, 3) := by decide +kernel
theorem dX4_nights_5 : decode cX4_nights 5 = .ok (.aload_n 0, 1) := by decide +kernel
theorem dX4_nights_6 : decode cX4_nights 6 = .ok (.iload_n 1, 1) := by decide +kernel
theorem dX4_nights_7 : decode cX4_nights 7 = .ok (.invokevirtual 115, 3) := by decide +kernel
theorem dX4_nights_10 : decode cX4_nights 10 = .ok (.ifCond .eq 10, 3) := by decide +kernel
theorem dX4_nights_13 : decode cX4_nights 13 = .ok (.iload_n 2, 1) := by decide +kernel
theorem dX4_nights_14 : decode cX4_nights 14 = .ok (.invokestatic 65, 3) := by decide +kernel
theorem dX4_nights_17 : decode cX4_nights 17 = .ok (.ifCond .ne 5, 3) := by decide +kernel
theorem dX4_nights_20 : decode cX4_nights 20 = .ok (.iconst (-1), 1) := by decide +kernel
theorem dX4_nights_21 : decode cX4_nights 21 = .ok (.ireturn, 1) := by decide +kernel
theorem dX4_nights_22 : decode cX4_nights 22 = .ok (.iload_n 3, 1) := by decide +kernel
theorem dX4_nights_23 : decode cX4_nights 23 = .ok (.invokestatic 69, 3) := by decide +kernel
theorem dX4_nights_26 : decode cX4_nights 26 = .ok (.ifCond .eq 24, 3) := by decide +kernel
theorem dX4_nights_29 : decode cX4_nights 29 = .ok (.iload 5, 2) := by decide +kernel
theorem dX4_nights_31 : decode cX4_nights 31 = .ok (.iconst 0, 1) := by decide +kernel
theorem dX4_nights_32 : decode cX4_nights 32 = .ok (.bipush 20, 2) := by decide +kernel
theorem dX4_nights_34 : decode cX4_nights 34 = .ok (.invokestatic 55, 3) := by decide +kernel
theorem dX4_nights_37 : decode cX4_nights 37 = .ok (.ifCond .eq 13, 3) := by decide +kernel
theorem dX4_nights_40 : decode cX4_nights 40 = .ok (.iload 6, 2) := by decide +kernel
theorem dX4_nights_42 : decode cX4_nights 42 = .ok (.iconst 0, 1) := by decide +kernel
theorem dX4_nights_43 : decode cX4_nights 43 = .ok (.iconst 2, 1) := by decide +kernel
theorem dX4_nights_44 : decode cX4_nights 44 = .ok (.invokestatic 55, 3) := by decide +kernel
theorem dX4_nights_47 : decode cX4_nights 47 = .ok (.ifCond .ne 6, 3) := by decide +kernel
theorem dX4_nights_50 : decode cX4_nights 50 = .ok (.bipush (-2), 2) := by decide +kernel
theorem dX4_nights_52 : decode cX4_nights 52 = .ok (.ireturn, 1) := by decide +kernel
theorem dX4_nights_53 : decode cX4_nights 53 = .ok (.aload_n 0, 1) := by decide +kernel
theorem dX4_nights_54 : decode cX4_nights 54 = .ok (.iload_n 2, 1) := by decide +kernel
theorem dX4_nights_55 : decode cX4_nights 55 = .ok (.iload_n 3, 1) := by decide +kernel
theorem dX4_nights_56 : decode cX4_nights 56 = .ok (.iload 4, 2) := by decide +kernel
theorem dX4_nights_58 : decode cX4_nights 58 = .ok (.iload 5, 2) := by decide +kernel
theorem dX4_nights_60 : decode cX4_nights 60 = .ok (.invokevirtual 72, 3) := by decide +kernel
theorem dX4_nights_63 : decode cX4_nights 63 = .ok (.istore 7, 2) := by decide +kernel
theorem dX4_nights_65 : decode cX4_nights 65 = .ok (.iload 7, 2) := by decide +kernel
theorem dX4_nights_67 : decode cX4_nights 67 = .ok (.ifCond .eq 10, 3) := by decide +kernel
theorem dX4_nights_70 : decode cX4_nights 70 = .ok (.aload_n 0, 1) := by decide +kernel
theorem dX4_nights_71 : decode cX4_nights 71 = .ok (.iload 7, 2) := by decide +kernel
theorem dX4_nights_73 : decode cX4_nights 73 = .ok (.invokevirtual 76, 3) := by decide +kernel
theorem dX4_nights_76 : decode cX4_nights 76 = .ok (.ireturn, 1) := by decide +kernel
theorem dX4_nights_77 : decode cX4_nights 77 = .ok (.bipush 60, 2) := by decide +kernel
theorem dX4_nights_79 : decode cX4_nights 79 = .ok (.iload_n 2, 1) := by decide +kernel
theorem dX4_nights_80 : decode cX4_nights 80 = .ok (.imul, 1) := by decide +kernel
theorem dX4_nights_81 : decode cX4_nights 81 = .ok (.iload 4, 2) := by decide +kernel
theorem dX4_nights_83 : decode cX4_nights 83 = .ok (.iadd, 1) := by decide +kernel
theorem dX4_nights_84 : decode cX4_nights 84 = .ok (.istore 8, 2) := by decide +kernel
theorem dX4_nights_86 : decode cX4_nights 86 = .ok (.iconst 0, 1) := by decide +kernel
theorem dX4_nights_87 : decode cX4_nights 87 = .ok (.istore 9, 2) := by decide +kernel
theorem dX4_nights_89 : decode cX4_nights 89 = .ok (.iload 9, 2) := by decide +kernel
theorem dX4_nights_91 : decode cX4_nights 91 = .ok (.iload 5, 2) := by decide +kernel
theorem dX4_nights_93 : decode cX4_nights 93 = .ok (.if_icmp .ge 28, 3) := by decide +kernel
theorem dX4_nights_96 : decode cX4_nights 96 = .ok (.aload_n 0, 1) := by decide +kernel
theorem dX4_nights_97 : decode cX4_nights 97 = .ok (.aload_n 0, 1) := by decide +kernel
theorem dX4_nights_98 : decode cX4_nights 98 = .ok (.getfield 16, 3) := by decide +kernel
theorem dX4_nights_101 : decode cX4_nights 101 = .ok (.iload 8, 2) := by decide +kernel
theorem dX4_nights_103 : decode cX4_nights 103 = .ok (.iload 9, 2) := by decide +kernel
theorem dX4_nights_105 : decode cX4_nights 105 = .ok (.iadd, 1) := by decide +kernel
theorem dX4_nights_106 : decode cX4_nights 106 = .ok (.iaload, 1) := by decide +kernel
theorem dX4_nights_107 : decode cX4_nights 107 = .ok (.invokevirtual 115, 3) := by decide +kernel
theorem dX4_nights_110 : decode cX4_nights 110 = .ok (.ifCond .ne 5, 3) := by decide +kernel
theorem dX4_nights_113 : decode cX4_nights 113 = .ok (.iconst (-1), 1) := by decide +kernel
theorem dX4_nights_114 : decode cX4_nights 114 = .ok (.ireturn, 1) := by decide +kernel
theorem dX4_nights_115 : decode cX4_nights 115 = .ok (.iinc 9 1, 3) := by decide +kernel
theorem dX4_nights_118 : decode cX4_nights 118 = .ok (.goto (-29), 3) := by decide +kernel
theorem dX4_nights_121 : decode cX4_nights 121 = .ok (.aload_n 0, 1) := by decide +kernel
theorem dX4_nights_122 : decode cX4_nights 122 = .ok (.iload_n 1, 1) := by decide +kernel
theorem dX4_nights_123 : decode cX4_nights 123 = .ok (.iload 8, 2) := by decide +kernel
theorem dX4_nights_125 : decode cX4_nights 125 = .ok (.iload 5, 2) := by decide +kernel
theorem dX4_nights_127 : decode cX4_nights 127 = .ok (.iload 6, 2) := by decide +kernel
theorem dX4_nights_129 : decode cX4_nights 129 = .ok (.invokevirtual 121, 3) := by decide +kernel
theorem dX4_nights_132 : decode cX4_nights 132 = .ok (.ireturn, 1) := by decide +kernel
set_option maxRecDepth 20000 in
theorem ggX4_tellNights_X4_shownBy : GoodIn wsX4_tellNights wsX4_shownBy := goodIn_r _ [7, 8, 9, 14, 15, 16, 17, 18, 19, 20, 21, 22, 23, 24, 25, 26, 27, 28, 29, 30, 31, 32, 33, 34, 35, 36] (by decide +kernel) (by decide +kernel)
set_option maxRecDepth 20000 in
theorem gX4_tellNights_X4_shownBy : GoodIn wsX4_tellNights (wsV RX4 118 RX4 yX4_shownBy wsX4_shownBy) := goodIn_app (goodIn_of _ (by decide +kernel)) ggX4_tellNights_X4_shownBy
set_option maxRecDepth 20000 in
theorem ggX4_tellNights_X4_group : GoodIn wsX4_tellNights wsX4_group := goodIn_r _ [13, 1, 3, 4, 5, 6, 7, 8, 9, 14, 15, 16, 17, 18, 19, 20, 21, 22, 23, 24, 25, 26, 27, 28, 29, 30, 31, 32, 33, 34, 35, 36] (by decide +kernel) (by decide +kernel)
set_option maxRecDepth 20000 in
theorem gX4_tellNights_X4_group : GoodIn wsX4_tellNights (wsV RX4 124 RX4 yX4_group wsX4_group) := goodIn_app (goodIn_of _ (by decide +kernel)) ggX4_tellNights_X4_group
theorem dX4_tellNights_0 : decode cX4_tellNights 0 = .ok (.iconst 1, 1) := by decide +kernel
theorem dX4_tellNights_1 : decode cX4_tellNights 1 = .ok (.aload_n 0, 1) := by decide +kernel
theorem dX4_tellNights_2 : decode cX4_tellNights 2 = .ok (.getfield 59, 3) := by decide +kernel
theorem dX4_tellNights_5 : decode cX4_tellNights 5 = .ok (.ishl, 1) := by decide +kernel
theorem dX4_tellNights_6 : decode cX4_tellNights 6 = .ok (.iconst 1, 1) := by decide +kernel
theorem dX4_tellNights_7 : decode cX4_tellNights 7 = .ok (.isub, 1) := by decide +kernel
theorem dX4_tellNights_8 : decode cX4_tellNights 8 = .ok (.istore 5, 2) := by decide +kernel
theorem dX4_tellNights_10 : decode cX4_tellNights 10 = .ok (.bipush (-9), 2) := by decide +kernel
theorem dX4_tellNights_12 : decode cX4_tellNights 12 = .ok (.istore 6, 2) := by decide +kernel
theorem dX4_tellNights_14 : decode cX4_tellNights 14 = .ok (.bipush (-9), 2) := by decide +kernel
theorem dX4_tellNights_16 : decode cX4_tellNights 16 = .ok (.istore 7, 2) := by decide +kernel
theorem dX4_tellNights_18 : decode cX4_tellNights 18 = .ok (.iconst 0, 1) := by decide +kernel
theorem dX4_tellNights_19 : decode cX4_tellNights 19 = .ok (.istore 8, 2) := by decide +kernel
theorem dX4_tellNights_21 : decode cX4_tellNights 21 = .ok (.iload 8, 2) := by decide +kernel
theorem dX4_tellNights_23 : decode cX4_tellNights 23 = .ok (.iload_n 3, 1) := by decide +kernel
theorem dX4_tellNights_24 : decode cX4_tellNights 24 = .ok (.if_icmp .ge 66, 3) := by decide +kernel
theorem dX4_tellNights_27 : decode cX4_tellNights 27 = .ok (.iload 6, 2) := by decide +kernel
theorem dX4_tellNights_29 : decode cX4_tellNights 29 = .ok (.bipush (-9), 2) := by decide +kernel
theorem dX4_tellNights_31 : decode cX4_tellNights 31 = .ok (.if_icmp .ne 59, 3) := by decide +kernel
theorem dX4_tellNights_34 : decode cX4_tellNights 34 = .ok (.aload_n 0, 1) := by decide +kernel
theorem dX4_tellNights_35 : decode cX4_tellNights 35 = .ok (.getfield 16, 3) := by decide +kernel
theorem dX4_tellNights_38 : decode cX4_tellNights 38 = .ok (.iload_n 2, 1) := by decide +kernel
theorem dX4_tellNights_39 : decode cX4_tellNights 39 = .ok (.iload 8, 2) := by decide +kernel
theorem dX4_tellNights_41 : decode cX4_tellNights 41 = .ok (.iadd, 1) := by decide +kernel
theorem dX4_tellNights_42 : decode cX4_tellNights 42 = .ok (.iaload, 1) := by decide +kernel
theorem dX4_tellNights_43 : decode cX4_tellNights 43 = .ok (.istore 9, 2) := by decide +kernel
theorem dX4_tellNights_45 : decode cX4_tellNights 45 = .ok (.aload_n 0, 1) := by decide +kernel
theorem dX4_tellNights_46 : decode cX4_tellNights 46 = .ok (.iload 9, 2) := by decide +kernel
theorem dX4_tellNights_48 : decode cX4_tellNights 48 = .ok (.iload_n 1, 1) := by decide +kernel
theorem dX4_tellNights_49 : decode cX4_tellNights 49 = .ok (.invokevirtual 118, 3) := by decide +kernel
theorem dX4_tellNights_52 : decode cX4_tellNights 52 = .ok (.istore 7, 2) := by decide +kernel
theorem dX4_tellNights_54 : decode cX4_tellNights 54 = .ok (.iload 5, 2) := by decide +kernel
theorem dX4_tellNights_56 : decode cX4_tellNights 56 = .ok (.aload_n 0, 1) := by decide +kernel
theorem dX4_tellNights_57 : decode cX4_tellNights 57 = .ok (.iload 9, 2) := by decide +kernel
theorem dX4_tellNights_59 : decode cX4_tellNights 59 = .ok (.iload 7, 2) := by decide +kernel
theorem dX4_tellNights_61 : decode cX4_tellNights 61 = .ok (.iload 5, 2) := by decide +kernel
theorem dX4_tellNights_63 : decode cX4_tellNights 63 = .ok (.invokevirtual 124, 3) := by decide +kernel
theorem dX4_tellNights_66 : decode cX4_tellNights 66 = .ok (.iand, 1) := by decide +kernel
theorem dX4_tellNights_67 : decode cX4_tellNights 67 = .ok (.istore 5, 2) := by decide +kernel
theorem dX4_tellNights_69 : decode cX4_tellNights 69 = .ok (.iload 9, 2) := by decide +kernel
theorem dX4_tellNights_71 : decode cX4_tellNights 71 = .ok (.iload_n 1, 1) := by decide +kernel
theorem dX4_tellNights_72 : decode cX4_tellNights 72 = .ok (.if_icmp .ne 8, 3) := by decide +kernel
theorem dX4_tellNights_75 : decode cX4_tellNights 75 = .ok (.iload 8, 2) := by decide +kernel
theorem dX4_tellNights_77 : decode cX4_tellNights 77 = .ok (.goto 5, 3) := by decide +kernel
theorem dX4_tellNights_80 : decode cX4_tellNights 80 = .ok (.bipush (-9), 2) := by decide +kernel
theorem dX4_tellNights_82 : decode cX4_tellNights 82 = .ok (.istore 6, 2) := by decide +kernel
theorem dX4_tellNights_84 : decode cX4_tellNights 84 = .ok (.iinc 8 1, 3) := by decide +kernel
theorem dX4_tellNights_87 : decode cX4_tellNights 87 = .ok (.goto (-66), 3) := by decide +kernel
theorem dX4_tellNights_90 : decode cX4_tellNights 90 = .ok (.iload 4, 2) := by decide +kernel
theorem dX4_tellNights_92 : decode cX4_tellNights 92 = .ok (.ifCond .ne 8, 3) := by decide +kernel
theorem dX4_tellNights_95 : decode cX4_tellNights 95 = .ok (.iload 5, 2) := by decide +kernel
theorem dX4_tellNights_97 : decode cX4_tellNights 97 = .ok (.goto 16, 3) := by decide +kernel
theorem dX4_tellNights_100 : decode cX4_tellNights 100 = .ok (.iload 4, 2) := by decide +kernel
theorem dX4_tellNights_102 : decode cX4_tellNights 102 = .ok (.iconst 1, 1) := by decide +kernel
theorem dX4_tellNights_103 : decode cX4_tellNights 103 = .ok (.if_icmp .ne 8, 3) := by decide +kernel
theorem dX4_tellNights_106 : decode cX4_tellNights 106 = .ok (.iload 6, 2) := by decide +kernel
theorem dX4_tellNights_108 : decode cX4_tellNights 108 = .ok (.goto 5, 3) := by decide +kernel
theorem dX4_tellNights_111 : decode cX4_tellNights 111 = .ok (.iload 7, 2) := by decide +kernel
theorem dX4_tellNights_113 : decode cX4_tellNights 113 = .ok (.ireturn, 1) := by decide +kernel
set_option maxRecDepth 20000 in
theorem ggX4_group_X4_shownBy : GoodIn wsX4_group wsX4_shownBy := goodIn_r _ [6, 7, 8, 9, 10, 11, 12, 13, 14, 15, 16, 17, 18, 19, 20, 21, 22, 23, 24, 25, 26, 27, 28, 29, 30, 31] (by decide +kernel) (by decide +kernel)
set_option maxRecDepth 20000 in
theorem gX4_group_X4_shownBy : GoodIn wsX4_group (wsV RX4 118 RX4 yX4_shownBy wsX4_shownBy) := goodIn_app (goodIn_of _ (by decide +kernel)) ggX4_group_X4_shownBy
theorem dX4_group_0 : decode cX4_group 0 = .ok (.iconst 0, 1) := by decide +kernel
theorem dX4_group_1 : decode cX4_group 1 = .ok (.istore 4, 2) := by decide +kernel
theorem dX4_group_3 : decode cX4_group 3 = .ok (.iconst 0, 1) := by decide +kernel
theorem dX4_group_4 : decode cX4_group 4 = .ok (.istore 5, 2) := by decide +kernel
theorem dX4_group_6 : decode cX4_group 6 = .ok (.iload 5, 2) := by decide +kernel
theorem dX4_group_8 : decode cX4_group 8 = .ok (.aload_n 0, 1) := by decide +kernel
theorem dX4_group_9 : decode cX4_group 9 = .ok (.getfield 59, 3) := by decide +kernel
theorem dX4_group_12 : decode cX4_group 12 = .ok (.if_icmp .ge 43, 3) := by decide +kernel
theorem dX4_group_15 : decode cX4_group 15 = .ok (.iload 4, 2) := by decide +kernel
theorem dX4_group_17 : decode cX4_group 17 = .ok (.iload_n 3, 1) := by decide +kernel
theorem dX4_group_18 : decode cX4_group 18 = .ok (.iload 5, 2) := by decide +kernel
theorem dX4_group_20 : decode cX4_group 20 = .ok (.ishr, 1) := by decide +kernel
theorem dX4_group_21 : decode cX4_group 21 = .ok (.iconst 1, 1) := by decide +kernel
theorem dX4_group_22 : decode cX4_group 22 = .ok (.iand, 1) := by decide +kernel
theorem dX4_group_23 : decode cX4_group 23 = .ok (.iconst 1, 1) := by decide +kernel
theorem dX4_group_24 : decode cX4_group 24 = .ok (.if_icmp .ne 21, 3) := by decide +kernel
theorem dX4_group_27 : decode cX4_group 27 = .ok (.aload_n 0, 1) := by decide +kernel
theorem dX4_group_28 : decode cX4_group 28 = .ok (.iload_n 1, 1) := by decide +kernel
theorem dX4_group_29 : decode cX4_group 29 = .ok (.iload 5, 2) := by decide +kernel
theorem dX4_group_31 : decode cX4_group 31 = .ok (.invokevirtual 118, 3) := by decide +kernel
theorem dX4_group_34 : decode cX4_group 34 = .ok (.iload_n 2, 1) := by decide +kernel
theorem dX4_group_35 : decode cX4_group 35 = .ok (.if_icmp .ne 10, 3) := by decide +kernel
theorem dX4_group_38 : decode cX4_group 38 = .ok (.iconst 1, 1) := by decide +kernel
theorem dX4_group_39 : decode cX4_group 39 = .ok (.iload 5, 2) := by decide +kernel
theorem dX4_group_41 : decode cX4_group 41 = .ok (.ishl, 1) := by decide +kernel
theorem dX4_group_42 : decode cX4_group 42 = .ok (.goto 4, 3) := by decide +kernel
theorem dX4_group_45 : decode cX4_group 45 = .ok (.iconst 0, 1) := by decide +kernel
theorem dX4_group_46 : decode cX4_group 46 = .ok (.ior, 1) := by decide +kernel
theorem dX4_group_47 : decode cX4_group 47 = .ok (.istore 4, 2) := by decide +kernel
theorem dX4_group_49 : decode cX4_group 49 = .ok (.iinc 5 1, 3) := by decide +kernel
theorem dX4_group_52 : decode cX4_group 52 = .ok (.goto (-46), 3) := by decide +kernel
theorem dX4_group_55 : decode cX4_group 55 = .ok (.iload 4, 2) := by decide +kernel
theorem dX4_group_57 : decode cX4_group 57 = .ok (.ireturn, 1) := by decide +kernel
set_option maxRecDepth 20000 in
theorem ggX4_worstBy_X4_group : GoodIn wsX4_worstBy wsX4_group := goodIn_r _ [6, 7, 8, 9, 10, 5, 11, 12, 13, 14, 15, 16, 17, 18, 19, 20, 21, 22, 23, 24, 25, 26, 27, 28, 29, 30, 31, 32, 33, 34, 35, 36] (by decide +kernel) (by decide +kernel)
set_option maxRecDepth 20000 in
theorem gX4_worstBy_X4_group : GoodIn wsX4_worstBy (wsV RX4 124 RX4 yX4_group wsX4_group) := goodIn_app (goodIn_of _ (by decide +kernel)) ggX4_worstBy_X4_group
theorem dX4_worstBy_0 : decode cX4_worstBy 0 = .ok (.iconst 0, 1) := by decide +kernel
theorem dX4_worstBy_1 : decode cX4_worstBy 1 = .ok (.istore_n 3, 1) := by decide +kernel
theorem dX4_worstBy_2 : decode cX4_worstBy 2 = .ok (.iconst 0, 1) := by decide +kernel
theorem dX4_worstBy_3 : decode cX4_worstBy 3 = .ok (.istore 4, 2) := by decide +kernel
theorem dX4_worstBy_5 : decode cX4_worstBy 5 = .ok (.iload 4, 2) := by decide +kernel
theorem dX4_worstBy_7 : decode cX4_worstBy 7 = .ok (.bipush 10, 2) := by decide +kernel
theorem dX4_worstBy_9 : decode cX4_worstBy 9 = .ok (.if_icmp .gt 51, 3) := by decide +kernel
theorem dX4_worstBy_12 : decode cX4_worstBy 12 = .ok (.aload_n 0, 1) := by decide +kernel
theorem dX4_worstBy_13 : decode cX4_worstBy 13 = .ok (.iload_n 1, 1) := by decide +kernel
theorem dX4_worstBy_14 : decode cX4_worstBy 14 = .ok (.iload 4, 2) := by decide +kernel
theorem dX4_worstBy_16 : decode cX4_worstBy 16 = .ok (.iload_n 2, 1) := by decide +kernel
theorem dX4_worstBy_17 : decode cX4_worstBy 17 = .ok (.invokevirtual 124, 3) := by decide +kernel
theorem dX4_worstBy_20 : decode cX4_worstBy 20 = .ok (.istore 5, 2) := by decide +kernel
theorem dX4_worstBy_22 : decode cX4_worstBy 22 = .ok (.iload 5, 2) := by decide +kernel
theorem dX4_worstBy_24 : decode cX4_worstBy 24 = .ok (.iload_n 2, 1) := by decide +kernel
theorem dX4_worstBy_25 : decode cX4_worstBy 25 = .ok (.if_icmp .ne 6, 3) := by decide +kernel
theorem dX4_worstBy_28 : decode cX4_worstBy 28 = .ok (.bipush (-9), 2) := by decide +kernel
theorem dX4_worstBy_30 : decode cX4_worstBy 30 = .ok (.ireturn, 1) := by decide +kernel
theorem dX4_worstBy_31 : decode cX4_worstBy 31 = .ok (.aload_n 0, 1) := by decide +kernel
theorem dX4_worstBy_32 : decode cX4_worstBy 32 = .ok (.getfield 37, 3) := by decide +kernel
theorem dX4_worstBy_35 : decode cX4_worstBy 35 = .ok (.iload 5, 2) := by decide +kernel
theorem dX4_worstBy_37 : decode cX4_worstBy 37 = .ok (.iaload, 1) := by decide +kernel
theorem dX4_worstBy_38 : decode cX4_worstBy 38 = .ok (.iload_n 3, 1) := by decide +kernel
theorem dX4_worstBy_39 : decode cX4_worstBy 39 = .ok (.if_icmp .le 13, 3) := by decide +kernel
theorem dX4_worstBy_42 : decode cX4_worstBy 42 = .ok (.aload_n 0, 1) := by decide +kernel
theorem dX4_worstBy_43 : decode cX4_worstBy 43 = .ok (.getfield 37, 3) := by decide +kernel
theorem dX4_worstBy_46 : decode cX4_worstBy 46 = .ok (.iload 5, 2) := by decide +kernel
theorem dX4_worstBy_48 : decode cX4_worstBy 48 = .ok (.iaload, 1) := by decide +kernel
theorem dX4_worstBy_49 : decode cX4_worstBy 49 = .ok (.goto 4, 3) := by decide +kernel
theorem dX4_worstBy_52 : decode cX4_worstBy 52 = .ok (.iload_n 3, 1) := by decide +kernel
theorem dX4_worstBy_53 : decode cX4_worstBy 53 = .ok (.istore_n 3, 1) := by decide +kernel
theorem dX4_worstBy_54 : decode cX4_worstBy 54 = .ok (.iinc 4 1, 3) := by decide +kernel
theorem dX4_worstBy_57 : decode cX4_worstBy 57 = .ok (.goto (-52), 3) := by decide +kernel
theorem dX4_worstBy_60 : decode cX4_worstBy 60 = .ok (.iload_n 3, 1) := by decide +kernel
theorem dX4_worstBy_61 : decode cX4_worstBy 61 = .ok (.iconst 1, 1) := by decide +kernel
theorem dX4_worstBy_62 : decode cX4_worstBy 62 = .ok (.iadd, 1) := by decide +kernel
theorem dX4_worstBy_63 : decode cX4_worstBy 63 = .ok (.ireturn, 1) := by decide +kernel
theorem dX4_size_0 : decode cX4_size 0 = .ok (.iconst 0, 1) := by decide +kernel
theorem dX4_size_1 : decode cX4_size 1 = .ok (.istore_n 1, 1) := by decide +kernel
theorem dX4_size_2 : decode cX4_size 2 = .ok (.iload_n 0, 1) := by decide +kernel
theorem dX4_size_3 : decode cX4_size 3 = .ok (.istore_n 2, 1) := by decide +kernel
theorem dX4_size_4 : decode cX4_size 4 = .ok (.iload_n 2, 1) := by decide +kernel
theorem dX4_size_5 : decode cX4_size 5 = .ok (.ifCond .le 16, 3) := by decide +kernel
theorem dX4_size_8 : decode cX4_size 8 = .ok (.iload_n 1, 1) := by decide +kernel
theorem dX4_size_9 : decode cX4_size 9 = .ok (.iload_n 2, 1) := by decide +kernel
theorem dX4_size_10 : decode cX4_size 10 = .ok (.iconst 1, 1) := by decide +kernel
theorem dX4_size_11 : decode cX4_size 11 = .ok (.iand, 1) := by decide +kernel
theorem dX4_size_12 : decode cX4_size 12 = .ok (.iadd, 1) := by decide +kernel
theorem dX4_size_13 : decode cX4_size 13 = .ok (.istore_n 1, 1) := by decide +kernel
theorem dX4_size_14 : decode cX4_size 14 = .ok (.iload_n 2, 1) := by decide +kernel
theorem dX4_size_15 : decode cX4_size 15 = .ok (.iconst 1, 1) := by decide +kernel
theorem dX4_size_16 : decode cX4_size 16 = .ok (.ishr, 1) := by decide +kernel
theorem dX4_size_17 : decode cX4_size 17 = .ok (.istore_n 2, 1) := by decide +kernel
theorem dX4_size_18 : decode cX4_size 18 = .ok (.goto (-14), 3) := by decide +kernel
theorem dX4_size_21 : decode cX4_size 21 = .ok (.iload_n 1, 1) := by decide +kernel
theorem dX4_size_22 : decode cX4_size 22 = .ok (.ireturn, 1) := by decide +kernel
set_option maxRecDepth 20000 in
theorem ggX4_sumBy_X4_size : GoodIn wsX4_sumBy wsX4_size := goodIn_r _ [5] (by decide +kernel) (by decide +kernel)
set_option maxRecDepth 20000 in
theorem gX4_sumBy_X4_size : GoodIn wsX4_sumBy (va_wsS RX4 128 yX4_size wsX4_size) := goodIn_app (goodIn_of _ (by decide +kernel)) ggX4_sumBy_X4_size
set_option maxRecDepth 20000 in
theorem ggX4_sumBy_X4_group : GoodIn wsX4_sumBy wsX4_group := goodIn_r _ [9, 10, 11, 12, 13, 4, 14, 15, 16, 17, 18, 19, 20, 21, 22, 23, 24, 25, 26, 27, 28, 29, 30, 31, 32, 33, 34, 35, 36, 37, 38, 39] (by decide +kernel) (by decide +kernel)
set_option maxRecDepth 20000 in
theorem gX4_sumBy_X4_group : GoodIn wsX4_sumBy (wsV RX4 124 RX4 yX4_group wsX4_group) := goodIn_app (goodIn_of _ (by decide +kernel)) ggX4_sumBy_X4_group
theorem dX4_sumBy_0 : decode cX4_sumBy 0 = .ok (.iload_n 2, 1) := by decide +kernel
theorem dX4_sumBy_1 : decode cX4_sumBy 1 = .ok (.invokestatic 128, 3) := by decide +kernel
theorem dX4_sumBy_4 : decode cX4_sumBy 4 = .ok (.istore_n 3, 1) := by decide +kernel
theorem dX4_sumBy_5 : decode cX4_sumBy 5 = .ok (.iconst 0, 1) := by decide +kernel
theorem dX4_sumBy_6 : decode cX4_sumBy 6 = .ok (.istore 4, 2) := by decide +kernel
theorem dX4_sumBy_8 : decode cX4_sumBy 8 = .ok (.iload 4, 2) := by decide +kernel
theorem dX4_sumBy_10 : decode cX4_sumBy 10 = .ok (.bipush 10, 2) := by decide +kernel
theorem dX4_sumBy_12 : decode cX4_sumBy 12 = .ok (.if_icmp .gt 38, 3) := by decide +kernel
theorem dX4_sumBy_15 : decode cX4_sumBy 15 = .ok (.aload_n 0, 1) := by decide +kernel
theorem dX4_sumBy_16 : decode cX4_sumBy 16 = .ok (.iload_n 1, 1) := by decide +kernel
theorem dX4_sumBy_17 : decode cX4_sumBy 17 = .ok (.iload 4, 2) := by decide +kernel
theorem dX4_sumBy_19 : decode cX4_sumBy 19 = .ok (.iload_n 2, 1) := by decide +kernel
theorem dX4_sumBy_20 : decode cX4_sumBy 20 = .ok (.invokevirtual 124, 3) := by decide +kernel
theorem dX4_sumBy_23 : decode cX4_sumBy 23 = .ok (.istore 5, 2) := by decide +kernel
theorem dX4_sumBy_25 : decode cX4_sumBy 25 = .ok (.iload 5, 2) := by decide +kernel
theorem dX4_sumBy_27 : decode cX4_sumBy 27 = .ok (.iload_n 2, 1) := by decide +kernel
theorem dX4_sumBy_28 : decode cX4_sumBy 28 = .ok (.if_icmp .ne 6, 3) := by decide +kernel
theorem dX4_sumBy_31 : decode cX4_sumBy 31 = .ok (.bipush (-9), 2) := by decide +kernel
theorem dX4_sumBy_33 : decode cX4_sumBy 33 = .ok (.ireturn, 1) := by decide +kernel
theorem dX4_sumBy_34 : decode cX4_sumBy 34 = .ok (.iload_n 3, 1) := by decide +kernel
theorem dX4_sumBy_35 : decode cX4_sumBy 35 = .ok (.aload_n 0, 1) := by decide +kernel
theorem dX4_sumBy_36 : decode cX4_sumBy 36 = .ok (.getfield 40, 3) := by decide +kernel
theorem dX4_sumBy_39 : decode cX4_sumBy 39 = .ok (.iload 5, 2) := by decide +kernel
theorem dX4_sumBy_41 : decode cX4_sumBy 41 = .ok (.iaload, 1) := by decide +kernel
theorem dX4_sumBy_42 : decode cX4_sumBy 42 = .ok (.iadd, 1) := by decide +kernel
theorem dX4_sumBy_43 : decode cX4_sumBy 43 = .ok (.istore_n 3, 1) := by decide +kernel
theorem dX4_sumBy_44 : decode cX4_sumBy 44 = .ok (.iinc 4 1, 3) := by decide +kernel
theorem dX4_sumBy_47 : decode cX4_sumBy 47 = .ok (.goto (-39), 3) := by decide +kernel
theorem dX4_sumBy_50 : decode cX4_sumBy 50 = .ok (.iload_n 3, 1) := by decide +kernel
theorem dX4_sumBy_51 : decode cX4_sumBy 51 = .ok (.ireturn, 1) := by decide +kernel
set_option maxRecDepth 20000 in
theorem ggX4_findWorst_X4_worstBy : GoodIn wsX4_findWorst wsX4_worstBy := goodIn_r _ [8, 1, 9, 10, 11, 7, 12, 3, 13, 14, 15, 16, 17, 18, 26, 27, 28, 29, 30, 31, 32, 33, 34, 35, 36, 37, 38, 39, 40, 41, 42, 43, 44, 45, 46, 47, 48] (by decide +kernel) (by decide +kernel)
set_option maxRecDepth 20000 in
theorem gX4_findWorst_X4_worstBy : GoodIn wsX4_findWorst (wsV RX4 131 RX4 yX4_worstBy wsX4_worstBy) := goodIn_app (goodIn_of _ (by decide +kernel)) ggX4_findWorst_X4_worstBy
set_option maxRecDepth 20000 in
theorem ggX4_findWorst_X4_sumBy : GoodIn wsX4_findWorst wsX4_sumBy := goodIn_r _ [22, 2, 23, 24, 7, 25, 9, 10, 11, 12, 3, 13, 14, 15, 16, 17, 18, 26, 27, 28, 29, 30, 31, 32, 33, 34, 35, 36, 37, 38, 39, 40, 41, 42, 43, 44, 45, 46, 47, 48] (by decide +kernel) (by decide +kernel)
set_option maxRecDepth 20000 in
theorem gX4_findWorst_X4_sumBy : GoodIn wsX4_findWorst (wsV RX4 134 RX4 yX4_sumBy wsX4_sumBy) := goodIn_app (goodIn_of _ (by decide +kernel)) ggX4_findWorst_X4_sumBy
theorem dX4_findWorst_0 : decode cX4_findWorst 0 = .ok (.aload_n 0, 1) := by decide +kernel
theorem dX4_findWorst_1 : decode cX4_findWorst 1 = .ok (.getfield 37, 3) := by decide +kernel
theorem dX4_findWorst_4 : decode cX4_findWorst 4 = .ok (.iconst 0, 1) := by decide +kernel
theorem dX4_findWorst_5 : decode cX4_findWorst 5 = .ok (.iconst 0, 1) := by decide +kernel
theorem dX4_findWorst_6 : decode cX4_findWorst 6 = .ok (.iastore, 1) := by decide +kernel
theorem dX4_findWorst_7 : decode cX4_findWorst 7 = .ok (.aload_n 0, 1) := by decide +kernel
theorem dX4_findWorst_8 : decode cX4_findWorst 8 = .ok (.getfield 40, 3) := by decide +kernel
theorem dX4_findWorst_11 : decode cX4_findWorst 11 = .ok (.iconst 0, 1) := by decide +kernel
theorem dX4_findWorst_12 : decode cX4_findWorst 12 = .ok (.iconst 0, 1) := by decide +kernel
theorem dX4_findWorst_13 : decode cX4_findWorst 13 = .ok (.iastore, 1) := by decide +kernel
theorem dX4_findWorst_14 : decode cX4_findWorst 14 = .ok (.iconst 1, 1) := by decide +kernel
theorem dX4_findWorst_15 : decode cX4_findWorst 15 = .ok (.istore_n 2, 1) := by decide +kernel
theorem dX4_findWorst_16 : decode cX4_findWorst 16 = .ok (.iload_n 2, 1) := by decide +kernel
theorem dX4_findWorst_17 : decode cX4_findWorst 17 = .ok (.iload_n 1, 1) := by decide +kernel
theorem dX4_findWorst_18 : decode cX4_findWorst 18 = .ok (.if_icmp .gt 149, 3) := by decide +kernel
theorem dX4_findWorst_21 : decode cX4_findWorst 21 = .ok (.aload_n 0, 1) := by decide +kernel
theorem dX4_findWorst_22 : decode cX4_findWorst 22 = .ok (.getfield 37, 3) := by decide +kernel
theorem dX4_findWorst_25 : decode cX4_findWorst 25 = .ok (.iload_n 2, 1) := by decide +kernel
theorem dX4_findWorst_26 : decode cX4_findWorst 26 = .ok (.bipush (-9), 2) := by decide +kernel
theorem dX4_findWorst_28 : decode cX4_findWorst 28 = .ok (.iastore, 1) := by decide +kernel
theorem dX4_findWorst_29 : decode cX4_findWorst 29 = .ok (.aload_n 0, 1) := by decide +kernel
theorem dX4_findWorst_30 : decode cX4_findWorst 30 = .ok (.getfield 40, 3) := by decide +kernel
theorem dX4_findWorst_33 : decode cX4_findWorst 33 = .ok (.iload_n 2, 1) := by decide +kernel
theorem dX4_findWorst_34 : decode cX4_findWorst 34 = .ok (.bipush (-9), 2) := by decide +kernel
theorem dX4_findWorst_36 : decode cX4_findWorst 36 = .ok (.iastore, 1) := by decide +kernel
theorem dX4_findWorst_37 : decode cX4_findWorst 37 = .ok (.iconst 0, 1) := by decide +kernel
theorem dX4_findWorst_38 : decode cX4_findWorst 38 = .ok (.istore_n 3, 1) := by decide +kernel
theorem dX4_findWorst_39 : decode cX4_findWorst 39 = .ok (.iload_n 3, 1) := by decide +kernel
theorem dX4_findWorst_40 : decode cX4_findWorst 40 = .ok (.aload_n 0, 1) := by decide +kernel
theorem dX4_findWorst_41 : decode cX4_findWorst 41 = .ok (.getfield 59, 3) := by decide +kernel
theorem dX4_findWorst_44 : decode cX4_findWorst 44 = .ok (.if_icmp .ge 117, 3) := by decide +kernel
theorem dX4_findWorst_47 : decode cX4_findWorst 47 = .ok (.aload_n 0, 1) := by decide +kernel
theorem dX4_findWorst_48 : decode cX4_findWorst 48 = .ok (.iload_n 3, 1) := by decide +kernel
theorem dX4_findWorst_49 : decode cX4_findWorst 49 = .ok (.iload_n 2, 1) := by decide +kernel
theorem dX4_findWorst_50 : decode cX4_findWorst 50 = .ok (.invokevirtual 131, 3) := by decide +kernel
theorem dX4_findWorst_53 : decode cX4_findWorst 53 = .ok (.istore 4, 2) := by decide +kernel
theorem dX4_findWorst_55 : decode cX4_findWorst 55 = .ok (.aload_n 0, 1) := by decide +kernel
theorem dX4_findWorst_56 : decode cX4_findWorst 56 = .ok (.iload_n 3, 1) := by decide +kernel
theorem dX4_findWorst_57 : decode cX4_findWorst 57 = .ok (.iload_n 2, 1) := by decide +kernel
theorem dX4_findWorst_58 : decode cX4_findWorst 58 = .ok (.invokevirtual 134, 3) := by decide +kernel
theorem dX4_findWorst_61 : decode cX4_findWorst 61 = .ok (.istore 5, 2) := by decide +kernel
theorem dX4_findWorst_63 : decode cX4_findWorst 63 = .ok (.aload_n 0, 1) := by decide +kernel
theorem dX4_findWorst_64 : decode cX4_findWorst 64 = .ok (.getfield 37, 3) := by decide +kernel
theorem dX4_findWorst_67 : decode cX4_findWorst 67 = .ok (.iload_n 2, 1) := by decide +kernel
theorem dX4_findWorst_68 : decode cX4_findWorst 68 = .ok (.iload 4, 2) := by decide +kernel
theorem dX4_findWorst_70 : decode cX4_findWorst 70 = .ok (.bipush (-9), 2) := by decide +kernel
theorem dX4_findWorst_72 : decode cX4_findWorst 72 = .ok (.if_icmp .eq 30, 3) := by decide +kernel
theorem dX4_findWorst_75 : decode cX4_findWorst 75 = .ok (.aload_n 0, 1) := by decide +kernel
theorem dX4_findWorst_76 : decode cX4_findWorst 76 = .ok (.getfield 37, 3) := by decide +kernel
theorem dX4_findWorst_79 : decode cX4_findWorst 79 = .ok (.iload_n 2, 1) := by decide +kernel
theorem dX4_findWorst_80 : decode cX4_findWorst 80 = .ok (.iaload, 1) := by decide +kernel
theorem dX4_findWorst_81 : decode cX4_findWorst 81 = .ok (.bipush (-9), 2) := by decide +kernel
theorem dX4_findWorst_83 : decode cX4_findWorst 83 = .ok (.if_icmp .eq 14, 3) := by decide +kernel
theorem dX4_findWorst_86 : decode cX4_findWorst 86 = .ok (.iload 4, 2) := by decide +kernel
theorem dX4_findWorst_88 : decode cX4_findWorst 88 = .ok (.aload_n 0, 1) := by decide +kernel
theorem dX4_findWorst_89 : decode cX4_findWorst 89 = .ok (.getfield 37, 3) := by decide +kernel
theorem dX4_findWorst_92 : decode cX4_findWorst 92 = .ok (.iload_n 2, 1) := by decide +kernel
theorem dX4_findWorst_93 : decode cX4_findWorst 93 = .ok (.iaload, 1) := by decide +kernel
theorem dX4_findWorst_94 : decode cX4_findWorst 94 = .ok (.if_icmp .ge 8, 3) := by decide +kernel
theorem dX4_findWorst_97 : decode cX4_findWorst 97 = .ok (.iload 4, 2) := by decide +kernel
theorem dX4_findWorst_99 : decode cX4_findWorst 99 = .ok (.goto 9, 3) := by decide +kernel
theorem dX4_findWorst_102 : decode cX4_findWorst 102 = .ok (.aload_n 0, 1) := by decide +kernel
theorem dX4_findWorst_103 : decode cX4_findWorst 103 = .ok (.getfield 37, 3) := by decide +kernel
theorem dX4_findWorst_106 : decode cX4_findWorst 106 = .ok (.iload_n 2, 1) := by decide +kernel
theorem dX4_findWorst_107 : decode cX4_findWorst 107 = .ok (.iaload, 1) := by decide +kernel
theorem dX4_findWorst_108 : decode cX4_findWorst 108 = .ok (.iastore, 1) := by decide +kernel
theorem dX4_findWorst_109 : decode cX4_findWorst 109 = .ok (.aload_n 0, 1) := by decide +kernel
theorem dX4_findWorst_110 : decode cX4_findWorst 110 = .ok (.getfield 40, 3) := by decide +kernel
theorem dX4_findWorst_113 : decode cX4_findWorst 113 = .ok (.iload_n 2, 1) := by decide +kernel
theorem dX4_findWorst_114 : decode cX4_findWorst 114 = .ok (.iload 5, 2) := by decide +kernel
theorem dX4_findWorst_116 : decode cX4_findWorst 116 = .ok (.bipush (-9), 2) := by decide +kernel
theorem dX4_findWorst_118 : decode cX4_findWorst 118 = .ok (.if_icmp .eq 30, 3) := by decide +kernel
theorem dX4_findWorst_121 : decode cX4_findWorst 121 = .ok (.aload_n 0, 1) := by decide +kernel
theorem dX4_findWorst_122 : decode cX4_findWorst 122 = .ok (.getfield 40, 3) := by decide +kernel
theorem dX4_findWorst_125 : decode cX4_findWorst 125 = .ok (.iload_n 2, 1) := by decide +kernel
theorem dX4_findWorst_126 : decode cX4_findWorst 126 = .ok (.iaload, 1) := by decide +kernel
theorem dX4_findWorst_127 : decode cX4_findWorst 127 = .ok (.bipush (-9), 2) := by decide +kernel
theorem dX4_findWorst_129 : decode cX4_findWorst 129 = .ok (.if_icmp .eq 14, 3) := by decide +kernel
theorem dX4_findWorst_132 : decode cX4_findWorst 132 = .ok (.iload 5, 2) := by decide +kernel
theorem dX4_findWorst_134 : decode cX4_findWorst 134 = .ok (.aload_n 0, 1) := by decide +kernel
theorem dX4_findWorst_135 : decode cX4_findWorst 135 = .ok (.getfield 40, 3) := by decide +kernel
theorem dX4_findWorst_138 : decode cX4_findWorst 138 = .ok (.iload_n 2, 1) := by decide +kernel
theorem dX4_findWorst_139 : decode cX4_findWorst 139 = .ok (.iaload, 1) := by decide +kernel
theorem dX4_findWorst_140 : decode cX4_findWorst 140 = .ok (.if_icmp .ge 8, 3) := by decide +kernel
theorem dX4_findWorst_143 : decode cX4_findWorst 143 = .ok (.iload 5, 2) := by decide +kernel
theorem dX4_findWorst_145 : decode cX4_findWorst 145 = .ok (.goto 9, 3) := by decide +kernel
theorem dX4_findWorst_148 : decode cX4_findWorst 148 = .ok (.aload_n 0, 1) := by decide +kernel
theorem dX4_findWorst_149 : decode cX4_findWorst 149 = .ok (.getfield 40, 3) := by decide +kernel
theorem dX4_findWorst_152 : decode cX4_findWorst 152 = .ok (.iload_n 2, 1) := by decide +kernel
theorem dX4_findWorst_153 : decode cX4_findWorst 153 = .ok (.iaload, 1) := by decide +kernel
theorem dX4_findWorst_154 : decode cX4_findWorst 154 = .ok (.iastore, 1) := by decide +kernel
theorem dX4_findWorst_155 : decode cX4_findWorst 155 = .ok (.iinc 3 1, 3) := by decide +kernel
theorem dX4_findWorst_158 : decode cX4_findWorst 158 = .ok (.goto (-119), 3) := by decide +kernel
theorem dX4_findWorst_161 : decode cX4_findWorst 161 = .ok (.iinc 2 1, 3) := by decide +kernel
theorem dX4_findWorst_164 : decode cX4_findWorst 164 = .ok (.goto (-148), 3) := by decide +kernel
theorem dX4_findWorst_167 : decode cX4_findWorst 167 = .ok (.return_, 1) := by decide +kernel
set_option maxRecDepth 20000 in
theorem ggX4_worst_X4_isSet : GoodIn wsX4_worst wsX4_isSet := goodIn_r _ [7, 1, 34, 35, 36, 37, 38, 39, 40, 41, 42, 43, 44, 45, 46, 47, 48, 49, 50, 51, 52, 53, 54, 55, 56] (by decide +kernel) (by decide +kernel)
set_option maxRecDepth 20000 in
theorem gX4_worst_X4_isSet : GoodIn wsX4_worst (wsV RX4 137 RX4 yX4_isSet wsX4_isSet) := goodIn_app (goodIn_of _ (by decide +kernel)) ggX4_worst_X4_isSet
set_option maxRecDepth 20000 in
theorem ggX4_worst_X4_findWorst : GoodIn wsX4_worst wsX4_findWorst := goodIn_r _ [11, 2, 12, 1, 13, 14, 15, 6, 16, 17, 18, 19, 20, 21, 22, 23, 24, 25, 26, 27, 28, 29, 30, 31, 32, 33, 34, 35, 36, 37, 38, 39, 40, 41, 42, 43, 44, 45, 46, 47, 48, 49, 50, 51, 52, 53, 54, 55, 56] (by decide +kernel) (by decide +kernel)
set_option maxRecDepth 20000 in
theorem gX4_worst_X4_findWorst : GoodIn wsX4_worst (wsV RX4 140 RX4 yX4_findWorst wsX4_findWorst) := goodIn_app (goodIn_of _ (by decide +kernel)) ggX4_worst_X4_findWorst
theorem dX4_worst_0 : decode cX4_worst 0 = .ok (.aload_n 0, 1) := by decide +kernel
theorem dX4_worst_1 : decode cX4_worst 1 = .ok (.getfield 59, 3) := by decide +kernel
theorem dX4_worst_4 : decode cX4_worst 4 = .ok (.ifCond .ne 6, 3) := by decide +kernel
theorem dX4_worst_7 : decode cX4_worst 7 = .ok (.bipush (-3), 2) := by decide +kernel
theorem dX4_worst_9 : decode cX4_worst 9 = .ok (.ireturn, 1) := by decide +kernel
theorem dX4_worst_10 : decode cX4_worst 10 = .ok (.aload_n 0, 1) := by decide +kernel
theorem dX4_worst_11 : decode cX4_worst 11 = .ok (.iload_n 1, 1) := by decide +kernel
theorem dX4_worst_12 : decode cX4_worst 12 = .ok (.invokevirtual 137, 3) := by decide +kernel
theorem dX4_worst_15 : decode cX4_worst 15 = .ok (.ifCond .ne 6, 3) := by decide +kernel
theorem dX4_worst_18 : decode cX4_worst 18 = .ok (.bipush (-2), 2) := by decide +kernel
theorem dX4_worst_20 : decode cX4_worst 20 = .ok (.ireturn, 1) := by decide +kernel
theorem dX4_worst_21 : decode cX4_worst 21 = .ok (.aload_n 0, 1) := by decide +kernel
theorem dX4_worst_22 : decode cX4_worst 22 = .ok (.iload_n 1, 1) := by decide +kernel
theorem dX4_worst_23 : decode cX4_worst 23 = .ok (.invokevirtual 140, 3) := by decide +kernel
theorem dX4_worst_26 : decode cX4_worst 26 = .ok (.aload_n 0, 1) := by decide +kernel
theorem dX4_worst_27 : decode cX4_worst 27 = .ok (.getfield 37, 3) := by decide +kernel
theorem dX4_worst_30 : decode cX4_worst 30 = .ok (.iload_n 1, 1) := by decide +kernel
theorem dX4_worst_31 : decode cX4_worst 31 = .ok (.iaload, 1) := by decide +kernel
theorem dX4_worst_32 : decode cX4_worst 32 = .ok (.ireturn, 1) := by decide +kernel
set_option maxRecDepth 20000 in
theorem ggX4_askOf_X4_worstBy : GoodIn wsX4_askOf wsX4_worstBy := goodIn_r _ [7, 2, 8, 9, 10, 6, 11, 1, 12, 13, 14, 15, 16, 17, 18, 19, 20, 21, 22, 23, 24, 25, 26, 27, 28, 29, 30, 31, 32, 33, 34, 35, 36, 37, 38, 39, 40] (by decide +kernel) (by decide +kernel)
set_option maxRecDepth 20000 in
theorem gX4_askOf_X4_worstBy : GoodIn wsX4_askOf (wsV RX4 131 RX4 yX4_worstBy wsX4_worstBy) := goodIn_app (goodIn_of _ (by decide +kernel)) ggX4_askOf_X4_worstBy
theorem dX4_askOf_0 : decode cX4_askOf 0 = .ok (.iconst 0, 1) := by decide +kernel
theorem dX4_askOf_1 : decode cX4_askOf 1 = .ok (.istore_n 2, 1) := by decide +kernel
theorem dX4_askOf_2 : decode cX4_askOf 2 = .ok (.iload_n 2, 1) := by decide +kernel
theorem dX4_askOf_3 : decode cX4_askOf 3 = .ok (.aload_n 0, 1) := by decide +kernel
theorem dX4_askOf_4 : decode cX4_askOf 4 = .ok (.getfield 59, 3) := by decide +kernel
theorem dX4_askOf_7 : decode cX4_askOf 7 = .ok (.if_icmp .ge 30, 3) := by decide +kernel
theorem dX4_askOf_10 : decode cX4_askOf 10 = .ok (.iload_n 1, 1) := by decide +kernel
theorem dX4_askOf_11 : decode cX4_askOf 11 = .ok (.ifCond .eq 26, 3) := by decide +kernel
theorem dX4_askOf_14 : decode cX4_askOf 14 = .ok (.aload_n 0, 1) := by decide +kernel
theorem dX4_askOf_15 : decode cX4_askOf 15 = .ok (.iload_n 2, 1) := by decide +kernel
theorem dX4_askOf_16 : decode cX4_askOf 16 = .ok (.iload_n 1, 1) := by decide +kernel
theorem dX4_askOf_17 : decode cX4_askOf 17 = .ok (.invokevirtual 131, 3) := by decide +kernel
theorem dX4_askOf_20 : decode cX4_askOf 20 = .ok (.aload_n 0, 1) := by decide +kernel
theorem dX4_askOf_21 : decode cX4_askOf 21 = .ok (.getfield 37, 3) := by decide +kernel
theorem dX4_askOf_24 : decode cX4_askOf 24 = .ok (.iload_n 1, 1) := by decide +kernel
theorem dX4_askOf_25 : decode cX4_askOf 25 = .ok (.iaload, 1) := by decide +kernel
theorem dX4_askOf_26 : decode cX4_askOf 26 = .ok (.if_icmp .ne 5, 3) := by decide +kernel
theorem dX4_askOf_29 : decode cX4_askOf 29 = .ok (.iload_n 2, 1) := by decide +kernel
theorem dX4_askOf_30 : decode cX4_askOf 30 = .ok (.ireturn, 1) := by decide +kernel
theorem dX4_askOf_31 : decode cX4_askOf 31 = .ok (.iinc 2 1, 3) := by decide +kernel
theorem dX4_askOf_34 : decode cX4_askOf 34 = .ok (.goto (-32), 3) := by decide +kernel
theorem dX4_askOf_37 : decode cX4_askOf 37 = .ok (.bipush (-9), 2) := by decide +kernel
theorem dX4_askOf_39 : decode cX4_askOf 39 = .ok (.ireturn, 1) := by decide +kernel
set_option maxRecDepth 20000 in
theorem ggX4_ask_X4_isSet : GoodIn wsX4_ask wsX4_isSet := goodIn_r _ [6, 1, 38, 39, 40, 41, 42, 43, 44, 45, 46, 47, 48, 49, 50, 51, 52, 53, 54, 55, 56, 57, 58, 59, 60] (by decide +kernel) (by decide +kernel)
set_option maxRecDepth 20000 in
theorem gX4_ask_X4_isSet : GoodIn wsX4_ask (wsV RX4 137 RX4 yX4_isSet wsX4_isSet) := goodIn_app (goodIn_of _ (by decide +kernel)) ggX4_ask_X4_isSet
set_option maxRecDepth 20000 in
theorem ggX4_ask_X4_findWorst : GoodIn wsX4_ask wsX4_findWorst := goodIn_r _ [10, 11, 12, 1, 13, 14, 15, 5, 16, 17, 18, 19, 20, 21, 22, 23, 24, 25, 26, 27, 28, 29, 30, 31, 32, 33, 38, 39, 40, 41, 42, 43, 44, 45, 46, 47, 48, 49, 50, 51, 52, 53, 54, 55, 56, 57, 58, 59, 60] (by decide +kernel) (by decide +kernel)
set_option maxRecDepth 20000 in
theorem gX4_ask_X4_findWorst : GoodIn wsX4_ask (wsV RX4 140 RX4 yX4_findWorst wsX4_findWorst) := goodIn_app (goodIn_of _ (by decide +kernel)) ggX4_ask_X4_findWorst
set_option maxRecDepth 20000 in
theorem ggX4_ask_X4_askOf : GoodIn wsX4_ask wsX4_askOf := goodIn_r _ [37, 1, 11, 13, 14, 15, 5, 16, 17, 18, 19, 20, 21, 22, 23, 24, 25, 26, 38, 39, 40, 41, 42, 43, 44, 45, 46, 47, 48, 49, 50, 51, 52, 53, 54, 55, 56, 57, 58, 59, 60] (by decide +kernel) (by decide +kernel)
set_option maxRecDepth 20000 in
theorem gX4_ask_X4_askOf : GoodIn wsX4_ask (wsV RX4 144 RX4 yX4_askOf wsX4_askOf) := goodIn_app (goodIn_of _ (by decide +kernel)) ggX4_ask_X4_askOf
theorem dX4_ask_0 : decode cX4_ask 0 = .ok (.aload_n 0, 1) := by decide +kernel
theorem dX4_ask_1 : decode cX4_ask 1 = .ok (.getfield 59, 3) := by decide +kernel
theorem dX4_ask_4 : decode cX4_ask 4 = .ok (.ifCond .ne 6, 3) := by decide +kernel
theorem dX4_ask_7 : decode cX4_ask 7 = .ok (.bipush (-3), 2) := by decide +kernel
theorem dX4_ask_9 : decode cX4_ask 9 = .ok (.ireturn, 1) := by decide +kernel
theorem dX4_ask_10 : decode cX4_ask 10 = .ok (.aload_n 0, 1) := by decide +kernel
theorem dX4_ask_11 : decode cX4_ask 11 = .ok (.iload_n 1, 1) := by decide +kernel
theorem dX4_ask_12 : decode cX4_ask 12 = .ok (.invokevirtual 137, 3) := by decide +kernel
theorem dX4_ask_15 : decode cX4_ask 15 = .ok (.ifCond .ne 6, 3) := by decide +kernel
theorem dX4_ask_18 : decode cX4_ask 18 = .ok (.bipush (-2), 2) := by decide +kernel
theorem dX4_ask_20 : decode cX4_ask 20 = .ok (.ireturn, 1) := by decide +kernel
theorem dX4_ask_21 : decode cX4_ask 21 = .ok (.aload_n 0, 1) := by decide +kernel
theorem dX4_ask_22 : decode cX4_ask 22 = .ok (.iload_n 1, 1) := by decide +kernel
theorem dX4_ask_23 : decode cX4_ask 23 = .ok (.invokevirtual 140, 3) := by decide +kernel
theorem dX4_ask_26 : decode cX4_ask 26 = .ok (.aload_n 0, 1) := by decide +kernel
theorem dX4_ask_27 : decode cX4_ask 27 = .ok (.iload_n 1, 1) := by decide +kernel
theorem dX4_ask_28 : decode cX4_ask 28 = .ok (.invokevirtual 144, 3) := by decide +kernel
theorem dX4_ask_31 : decode cX4_ask 31 = .ok (.ireturn, 1) := by decide +kernel
theorem dX4_inLeastTerms_0 : decode cX4_inLeastTerms 0 = .ok (.lload_n 0, 1) := by decide +kernel
theorem dX4_inLeastTerms_1 : decode cX4_inLeastTerms 1 = .ok (.lstore 5, 2) := by decide +kernel
theorem dX4_inLeastTerms_3 : decode cX4_inLeastTerms 3 = .ok (.lload_n 2, 1) := by decide +kernel
theorem dX4_inLeastTerms_4 : decode cX4_inLeastTerms 4 = .ok (.lstore 7, 2) := by decide +kernel
theorem dX4_inLeastTerms_6 : decode cX4_inLeastTerms 6 = .ok (.lload 7, 2) := by decide +kernel
theorem dX4_inLeastTerms_8 : decode cX4_inLeastTerms 8 = .ok (.lconst 0, 1) := by decide +kernel
theorem dX4_inLeastTerms_9 : decode cX4_inLeastTerms 9 = .ok (.lcmp, 1) := by decide +kernel
theorem dX4_inLeastTerms_10 : decode cX4_inLeastTerms 10 = .ok (.ifCond .eq 21, 3) := by decide +kernel
theorem dX4_inLeastTerms_13 : decode cX4_inLeastTerms 13 = .ok (.lload 5, 2) := by decide +kernel
theorem dX4_inLeastTerms_15 : decode cX4_inLeastTerms 15 = .ok (.lload 7, 2) := by decide +kernel
theorem dX4_inLeastTerms_17 : decode cX4_inLeastTerms 17 = .ok (.lrem, 1) := by decide +kernel
theorem dX4_inLeastTerms_18 : decode cX4_inLeastTerms 18 = .ok (.lstore 9, 2) := by decide +kernel
theorem dX4_inLeastTerms_20 : decode cX4_inLeastTerms 20 = .ok (.lload 7, 2) := by decide +kernel
theorem dX4_inLeastTerms_22 : decode cX4_inLeastTerms 22 = .ok (.lstore 5, 2) := by decide +kernel
theorem dX4_inLeastTerms_24 : decode cX4_inLeastTerms 24 = .ok (.lload 9, 2) := by decide +kernel
theorem dX4_inLeastTerms_26 : decode cX4_inLeastTerms 26 = .ok (.lstore 7, 2) := by decide +kernel
theorem dX4_inLeastTerms_28 : decode cX4_inLeastTerms 28 = .ok (.goto (-22), 3) := by decide +kernel
theorem dX4_inLeastTerms_31 : decode cX4_inLeastTerms 31 = .ok (.iload 4, 2) := by decide +kernel
theorem dX4_inLeastTerms_33 : decode cX4_inLeastTerms 33 = .ok (.ifCond .ne 10, 3) := by decide +kernel
theorem dX4_inLeastTerms_36 : decode cX4_inLeastTerms 36 = .ok (.lload_n 0, 1) := by decide +kernel
theorem dX4_inLeastTerms_37 : decode cX4_inLeastTerms 37 = .ok (.lload 5, 2) := by decide +kernel
theorem dX4_inLeastTerms_39 : decode cX4_inLeastTerms 39 = .ok (.ldiv, 1) := by decide +kernel
theorem dX4_inLeastTerms_40 : decode cX4_inLeastTerms 40 = .ok (.goto 7, 3) := by decide +kernel
theorem dX4_inLeastTerms_43 : decode cX4_inLeastTerms 43 = .ok (.lload_n 2, 1) := by decide +kernel
theorem dX4_inLeastTerms_44 : decode cX4_inLeastTerms 44 = .ok (.lload 5, 2) := by decide +kernel
theorem dX4_inLeastTerms_46 : decode cX4_inLeastTerms 46 = .ok (.ldiv, 1) := by decide +kernel
theorem dX4_inLeastTerms_47 : decode cX4_inLeastTerms 47 = .ok (.lreturn, 1) := by decide +kernel
set_option maxRecDepth 20000 in
theorem ggX4_mean_X4_isSet : GoodIn wsX4_mean wsX4_isSet := goodIn_r _ [8, 1, 41, 42, 43, 44, 45, 46, 47, 48, 49, 50, 51, 52, 53, 54, 55, 56, 57, 58, 59, 60, 61, 62, 63] (by decide +kernel) (by decide +kernel)
set_option maxRecDepth 20000 in
theorem gX4_mean_X4_isSet : GoodIn wsX4_mean (wsV RX4 137 RX4 yX4_isSet wsX4_isSet) := goodIn_app (goodIn_of _ (by decide +kernel)) ggX4_mean_X4_isSet
set_option maxRecDepth 20000 in
theorem ggX4_mean_X4_within : GoodIn wsX4_mean wsX4_within := goodIn_r _ [11] (by decide +kernel) (by decide +kernel)
set_option maxRecDepth 20000 in
theorem gX4_mean_X4_within : GoodIn wsX4_mean (va_wsS RX4 55 yX4_within wsX4_within) := goodIn_app (goodIn_of _ (by decide +kernel)) ggX4_mean_X4_within
set_option maxRecDepth 20000 in
theorem ggX4_mean_X4_findWorst : GoodIn wsX4_mean wsX4_findWorst := goodIn_r _ [15, 16, 3, 1, 17, 18, 19, 7, 20, 21, 22, 23, 24, 25, 26, 27, 28, 29, 30, 31, 32, 33, 34, 35, 36, 37, 41, 42, 43, 44, 45, 46, 47, 48, 49, 50, 51, 52, 53, 54, 55, 56, 57, 58, 59, 60, 61, 62, 63] (by decide +kernel) (by decide +kernel)
set_option maxRecDepth 20000 in
theorem gX4_mean_X4_findWorst : GoodIn wsX4_mean (wsV RX4 140 RX4 yX4_findWorst wsX4_findWorst) := goodIn_app (goodIn_of _ (by decide +kernel)) ggX4_mean_X4_findWorst
set_option maxRecDepth 20000 in
theorem ggX4_mean_X4_size : GoodIn wsX4_mean wsX4_size := goodIn_r _ [37] (by decide +kernel) (by decide +kernel)
set_option maxRecDepth 20000 in
theorem gX4_mean_X4_size : GoodIn wsX4_mean (va_wsS RX4 128 yX4_size wsX4_size) := goodIn_app (goodIn_of _ (by decide +kernel)) ggX4_mean_X4_size
set_option maxRecDepth 20000 in
theorem ggX4_mean_X4_inLeastTerms : GoodIn wsX4_mean wsX4_inLeastTerms := goodIn_r _ [40] (by decide +kernel) (by decide +kernel)
set_option maxRecDepth 20000 in
theorem gX4_mean_X4_inLeastTerms : GoodIn wsX4_mean (va_wsS RX4 147 yX4_inLeastTerms wsX4_inLeastTerms) := goodIn_app (goodIn_of _ (by decide +kernel)) ggX4_mean_X4_inLeastTerms
theorem dX4_mean_0 : decode cX4_mean 0 = .ok (.aload_n 0, 1) := by decide +kernel
theorem dX4_mean_1 : decode cX4_mean 1 = .ok (.getfield 59, 3) := by decide +kernel
theorem dX4_mean_4 : decode cX4_mean 4 = .ok (.ifCond .eq 24, 3) := by decide +kernel
theorem dX4_mean_7 : decode cX4_mean 7 = .ok (.iload_n 1, 1) := by decide +kernel
theorem dX4_mean_8 : decode cX4_mean 8 = .ok (.ifCond .eq 20, 3) := by decide +kernel
theorem dX4_mean_11 : decode cX4_mean 11 = .ok (.aload_n 0, 1) := by decide +kernel
theorem dX4_mean_12 : decode cX4_mean 12 = .ok (.iload_n 1, 1) := by decide +kernel
theorem dX4_mean_13 : decode cX4_mean 13 = .ok (.invokevirtual 137, 3) := by decide +kernel
theorem dX4_mean_16 : decode cX4_mean 16 = .ok (.ifCond .eq 12, 3) := by decide +kernel
theorem dX4_mean_19 : decode cX4_mean 19 = .ok (.iload_n 2, 1) := by decide +kernel
theorem dX4_mean_20 : decode cX4_mean 20 = .ok (.iconst 0, 1) := by decide +kernel
theorem dX4_mean_21 : decode cX4_mean 21 = .ok (.iconst 1, 1) := by decide +kernel
theorem dX4_mean_22 : decode cX4_mean 22 = .ok (.invokestatic 55, 3) := by decide +kernel
theorem dX4_mean_25 : decode cX4_mean 25 = .ok (.ifCond .ne 7, 3) := by decide +kernel
theorem dX4_mean_28 : decode cX4_mean 28 = .ok (.ldc2_w 53, 3) := by decide +kernel
theorem dX4_mean_31 : decode cX4_mean 31 = .ok (.lreturn, 1) := by decide +kernel
theorem dX4_mean_32 : decode cX4_mean 32 = .ok (.aload_n 0, 1) := by decide +kernel
theorem dX4_mean_33 : decode cX4_mean 33 = .ok (.iload_n 1, 1) := by decide +kernel
theorem dX4_mean_34 : decode cX4_mean 34 = .ok (.invokevirtual 140, 3) := by decide +kernel
theorem dX4_mean_37 : decode cX4_mean 37 = .ok (.aload_n 0, 1) := by decide +kernel
theorem dX4_mean_38 : decode cX4_mean 38 = .ok (.getfield 40, 3) := by decide +kernel
theorem dX4_mean_41 : decode cX4_mean 41 = .ok (.iload_n 1, 1) := by decide +kernel
theorem dX4_mean_42 : decode cX4_mean 42 = .ok (.iaload, 1) := by decide +kernel
theorem dX4_mean_43 : decode cX4_mean 43 = .ok (.i2l, 1) := by decide +kernel
theorem dX4_mean_44 : decode cX4_mean 44 = .ok (.iload_n 1, 1) := by decide +kernel
theorem dX4_mean_45 : decode cX4_mean 45 = .ok (.invokestatic 128, 3) := by decide +kernel
theorem dX4_mean_48 : decode cX4_mean 48 = .ok (.i2l, 1) := by decide +kernel
theorem dX4_mean_49 : decode cX4_mean 49 = .ok (.iload_n 2, 1) := by decide +kernel
theorem dX4_mean_50 : decode cX4_mean 50 = .ok (.invokestatic 147, 3) := by decide +kernel
theorem dX4_mean_53 : decode cX4_mean 53 = .ok (.lreturn, 1) := by decide +kernel
set_option maxRecDepth 20000 in
theorem ggX4_parts_X4_isAnswer : GoodIn wsX4_parts wsX4_isAnswer := goodIn_r _ [5, 6, 21, 22, 23, 24, 25, 26, 27, 28, 29, 30, 31, 32, 33, 34, 35, 36, 37, 38, 39, 40, 41, 42, 43] (by decide +kernel) (by decide +kernel)
set_option maxRecDepth 20000 in
theorem gX4_parts_X4_isAnswer : GoodIn wsX4_parts (wsV RX4 115 RX4 yX4_isAnswer wsX4_isAnswer) := goodIn_app (goodIn_of _ (by decide +kernel)) ggX4_parts_X4_isAnswer
set_option maxRecDepth 20000 in
theorem ggX4_parts_X4_isSet : GoodIn wsX4_parts wsX4_isSet := goodIn_r _ [10, 6, 21, 22, 23, 24, 25, 26, 27, 28, 29, 30, 31, 32, 33, 34, 35, 36, 37, 38, 39, 40, 41, 42, 43] (by decide +kernel) (by decide +kernel)
set_option maxRecDepth 20000 in
theorem gX4_parts_X4_isSet : GoodIn wsX4_parts (wsV RX4 137 RX4 yX4_isSet wsX4_isSet) := goodIn_app (goodIn_of _ (by decide +kernel)) ggX4_parts_X4_isSet
set_option maxRecDepth 20000 in
theorem ggX4_parts_X4_group : GoodIn wsX4_parts wsX4_group := goodIn_r _ [14, 6, 15, 16, 17, 4, 18, 19, 20, 21, 22, 23, 24, 25, 26, 27, 28, 29, 30, 31, 32, 33, 34, 35, 36, 37, 38, 39, 40, 41, 42, 43] (by decide +kernel) (by decide +kernel)
set_option maxRecDepth 20000 in
theorem gX4_parts_X4_group : GoodIn wsX4_parts (wsV RX4 124 RX4 yX4_group wsX4_group) := goodIn_app (goodIn_of _ (by decide +kernel)) ggX4_parts_X4_group
theorem dX4_parts_0 : decode cX4_parts 0 = .ok (.aload_n 0, 1) := by decide +kernel
theorem dX4_parts_1 : decode cX4_parts 1 = .ok (.iload_n 1, 1) := by decide +kernel
theorem dX4_parts_2 : decode cX4_parts 2 = .ok (.invokevirtual 115, 3) := by decide +kernel
theorem dX4_parts_5 : decode cX4_parts 5 = .ok (.ifCond .ne 5, 3) := by decide +kernel
theorem dX4_parts_8 : decode cX4_parts 8 = .ok (.iconst (-1), 1) := by decide +kernel
theorem dX4_parts_9 : decode cX4_parts 9 = .ok (.ireturn, 1) := by decide +kernel
theorem dX4_parts_10 : decode cX4_parts 10 = .ok (.aload_n 0, 1) := by decide +kernel
theorem dX4_parts_11 : decode cX4_parts 11 = .ok (.iload_n 2, 1) := by decide +kernel
theorem dX4_parts_12 : decode cX4_parts 12 = .ok (.invokevirtual 137, 3) := by decide +kernel
theorem dX4_parts_15 : decode cX4_parts 15 = .ok (.ifCond .ne 6, 3) := by decide +kernel
theorem dX4_parts_18 : decode cX4_parts 18 = .ok (.bipush (-2), 2) := by decide +kernel
theorem dX4_parts_20 : decode cX4_parts 20 = .ok (.ireturn, 1) := by decide +kernel
theorem dX4_parts_21 : decode cX4_parts 21 = .ok (.iload_n 2, 1) := by decide +kernel
theorem dX4_parts_22 : decode cX4_parts 22 = .ok (.iload_n 1, 1) := by decide +kernel
theorem dX4_parts_23 : decode cX4_parts 23 = .ok (.ishr, 1) := by decide +kernel
theorem dX4_parts_24 : decode cX4_parts 24 = .ok (.iconst 1, 1) := by decide +kernel
theorem dX4_parts_25 : decode cX4_parts 25 = .ok (.iand, 1) := by decide +kernel
theorem dX4_parts_26 : decode cX4_parts 26 = .ok (.iconst 1, 1) := by decide +kernel
theorem dX4_parts_27 : decode cX4_parts 27 = .ok (.if_icmp .ne 7, 3) := by decide +kernel
theorem dX4_parts_30 : decode cX4_parts 30 = .ok (.iconst 1, 1) := by decide +kernel
theorem dX4_parts_31 : decode cX4_parts 31 = .ok (.goto 4, 3) := by decide +kernel
theorem dX4_parts_34 : decode cX4_parts 34 = .ok (.iconst 0, 1) := by decide +kernel
theorem dX4_parts_35 : decode cX4_parts 35 = .ok (.istore_n 3, 1) := by decide +kernel
theorem dX4_parts_36 : decode cX4_parts 36 = .ok (.iconst 0, 1) := by decide +kernel
theorem dX4_parts_37 : decode cX4_parts 37 = .ok (.istore 4, 2) := by decide +kernel
theorem dX4_parts_39 : decode cX4_parts 39 = .ok (.iload 4, 2) := by decide +kernel
theorem dX4_parts_41 : decode cX4_parts 41 = .ok (.bipush 10, 2) := by decide +kernel
theorem dX4_parts_43 : decode cX4_parts 43 = .ok (.if_icmp .gt 28, 3) := by decide +kernel
theorem dX4_parts_46 : decode cX4_parts 46 = .ok (.iload_n 3, 1) := by decide +kernel
theorem dX4_parts_47 : decode cX4_parts 47 = .ok (.aload_n 0, 1) := by decide +kernel
theorem dX4_parts_48 : decode cX4_parts 48 = .ok (.iload_n 1, 1) := by decide +kernel
theorem dX4_parts_49 : decode cX4_parts 49 = .ok (.iload 4, 2) := by decide +kernel
theorem dX4_parts_51 : decode cX4_parts 51 = .ok (.iload_n 2, 1) := by decide +kernel
theorem dX4_parts_52 : decode cX4_parts 52 = .ok (.invokevirtual 124, 3) := by decide +kernel
theorem dX4_parts_55 : decode cX4_parts 55 = .ok (.ifCond .ne 7, 3) := by decide +kernel
theorem dX4_parts_58 : decode cX4_parts 58 = .ok (.iconst 0, 1) := by decide +kernel
theorem dX4_parts_59 : decode cX4_parts 59 = .ok (.goto 4, 3) := by decide +kernel
theorem dX4_parts_62 : decode cX4_parts 62 = .ok (.iconst 1, 1) := by decide +kernel
theorem dX4_parts_63 : decode cX4_parts 63 = .ok (.iadd, 1) := by decide +kernel
theorem dX4_parts_64 : decode cX4_parts 64 = .ok (.istore_n 3, 1) := by decide +kernel
theorem dX4_parts_65 : decode cX4_parts 65 = .ok (.iinc 4 1, 3) := by decide +kernel
theorem dX4_parts_68 : decode cX4_parts 68 = .ok (.goto (-29), 3) := by decide +kernel
theorem dX4_parts_71 : decode cX4_parts 71 = .ok (.iload_n 3, 1) := by decide +kernel
theorem dX4_parts_72 : decode cX4_parts 72 = .ok (.ireturn, 1) := by decide +kernel
theorem dX4_months_0 : decode cX4_months 0 = .ok (.aload_n 0, 1) := by decide +kernel
theorem dX4_months_1 : decode cX4_months 1 = .ok (.getfield 59, 3) := by decide +kernel
theorem dX4_months_4 : decode cX4_months 4 = .ok (.ifCond .ne 6, 3) := by decide +kernel
theorem dX4_months_7 : decode cX4_months 7 = .ok (.bipush (-3), 2) := by decide +kernel
theorem dX4_months_9 : decode cX4_months 9 = .ok (.ireturn, 1) := by decide +kernel
theorem dX4_months_10 : decode cX4_months 10 = .ok (.iload_n 1, 1) := by decide +kernel
theorem dX4_months_11 : decode cX4_months 11 = .ok (.ifCond .lt 13, 3) := by decide +kernel
theorem dX4_months_14 : decode cX4_months 14 = .ok (.iload_n 1, 1) := by decide +kernel
theorem dX4_months_15 : decode cX4_months 15 = .ok (.iconst 1, 1) := by decide +kernel
theorem dX4_months_16 : decode cX4_months 16 = .ok (.aload_n 0, 1) := by decide +kernel
theorem dX4_months_17 : decode cX4_months 17 = .ok (.getfield 95, 3) := by decide +kernel
theorem dX4_months_20 : decode cX4_months 20 = .ok (.ishl, 1) := by decide +kernel
theorem dX4_months_21 : decode cX4_months 21 = .ok (.if_icmp .lt 6, 3) := by decide +kernel
theorem dX4_months_24 : decode cX4_months 24 = .ok (.bipush (-2), 2) := by decide +kernel
theorem dX4_months_26 : decode cX4_months 26 = .ok (.ireturn, 1) := by decide +kernel
theorem dX4_months_27 : decode cX4_months 27 = .ok (.iconst 0, 1) := by decide +kernel
theorem dX4_months_28 : decode cX4_months 28 = .ok (.istore_n 2, 1) := by decide +kernel
theorem dX4_months_29 : decode cX4_months 29 = .ok (.iconst 0, 1) := by decide +kernel
theorem dX4_months_30 : decode cX4_months 30 = .ok (.istore_n 3, 1) := by decide +kernel
theorem dX4_months_31 : decode cX4_months 31 = .ok (.iload_n 3, 1) := by decide +kernel
theorem dX4_months_32 : decode cX4_months 32 = .ok (.aload_n 0, 1) := by decide +kernel
theorem dX4_months_33 : decode cX4_months 33 = .ok (.getfield 95, 3) := by decide +kernel
theorem dX4_months_36 : decode cX4_months 36 = .ok (.if_icmp .ge 31, 3) := by decide +kernel
theorem dX4_months_39 : decode cX4_months 39 = .ok (.iload_n 2, 1) := by decide +kernel
theorem dX4_months_40 : decode cX4_months 40 = .ok (.iload_n 1, 1) := by decide +kernel
theorem dX4_months_41 : decode cX4_months 41 = .ok (.iload_n 3, 1) := by decide +kernel
theorem dX4_months_42 : decode cX4_months 42 = .ok (.ishr, 1) := by decide +kernel
theorem dX4_months_43 : decode cX4_months 43 = .ok (.iconst 1, 1) := by decide +kernel
theorem dX4_months_44 : decode cX4_months 44 = .ok (.iand, 1) := by decide +kernel
theorem dX4_months_45 : decode cX4_months 45 = .ok (.iconst 1, 1) := by decide +kernel
theorem dX4_months_46 : decode cX4_months 46 = .ok (.if_icmp .ne 12, 3) := by decide +kernel
theorem dX4_months_49 : decode cX4_months 49 = .ok (.aload_n 0, 1) := by decide +kernel
theorem dX4_months_50 : decode cX4_months 50 = .ok (.getfield 25, 3) := by decide +kernel
theorem dX4_months_53 : decode cX4_months 53 = .ok (.iload_n 3, 1) := by decide +kernel
theorem dX4_months_54 : decode cX4_months 54 = .ok (.iaload, 1) := by decide +kernel
theorem dX4_months_55 : decode cX4_months 55 = .ok (.goto 4, 3) := by decide +kernel
theorem dX4_months_58 : decode cX4_months 58 = .ok (.iconst 0, 1) := by decide +kernel
theorem dX4_months_59 : decode cX4_months 59 = .ok (.iadd, 1) := by decide +kernel
theorem dX4_months_60 : decode cX4_months 60 = .ok (.istore_n 2, 1) := by decide +kernel
theorem dX4_months_61 : decode cX4_months 61 = .ok (.iinc 3 1, 3) := by decide +kernel
theorem dX4_months_64 : decode cX4_months 64 = .ok (.goto (-33), 3) := by decide +kernel
theorem dX4_months_67 : decode cX4_months 67 = .ok (.iconst 0, 1) := by decide +kernel
theorem dX4_months_68 : decode cX4_months 68 = .ok (.istore_n 3, 1) := by decide +kernel
theorem dX4_months_69 : decode cX4_months 69 = .ok (.iload_n 3, 1) := by decide +kernel
theorem dX4_months_70 : decode cX4_months 70 = .ok (.bipush 99, 2) := by decide +kernel
theorem dX4_months_72 : decode cX4_months 72 = .ok (.if_icmp .gt 19, 3) := by decide +kernel
theorem dX4_months_75 : decode cX4_months 75 = .ok (.aload_n 0, 1) := by decide +kernel
theorem dX4_months_76 : decode cX4_months 76 = .ok (.getfield 89, 3) := by decide +kernel
theorem dX4_months_79 : decode cX4_months 79 = .ok (.iload_n 3, 1) := by decide +kernel
theorem dX4_months_80 : decode cX4_months 80 = .ok (.imul, 1) := by decide +kernel
theorem dX4_months_81 : decode cX4_months 81 = .ok (.iload_n 2, 1) := by decide +kernel
theorem dX4_months_82 : decode cX4_months 82 = .ok (.if_icmp .ge 9, 3) := by decide +kernel
theorem dX4_months_85 : decode cX4_months 85 = .ok (.iinc 3 1, 3) := by decide +kernel
theorem dX4_months_88 : decode cX4_months 88 = .ok (.goto (-19), 3) := by decide +kernel
theorem dX4_months_91 : decode cX4_months 91 = .ok (.iload_n 3, 1) := by decide +kernel
theorem dX4_months_92 : decode cX4_months 92 = .ok (.bipush 99, 2) := by decide +kernel
theorem dX4_months_94 : decode cX4_months 94 = .ok (.if_icmp .le 8, 3) := by decide +kernel
theorem dX4_months_97 : decode cX4_months 97 = .ok (.bipush (-9), 2) := by decide +kernel
theorem dX4_months_99 : decode cX4_months 99 = .ok (.goto 4, 3) := by decide +kernel
theorem dX4_months_102 : decode cX4_months 102 = .ok (.iload_n 3, 1) := by decide +kernel
theorem dX4_months_103 : decode cX4_months 103 = .ok (.ireturn, 1) := by decide +kernel
set_option maxRecDepth 20000 in
theorem ggX4_down_X4_within : GoodIn wsX4_down wsX4_within := goodIn_r _ [8] (by decide +kernel) (by decide +kernel)
set_option maxRecDepth 20000 in
theorem gX4_down_X4_within : GoodIn wsX4_down (va_wsS RX4 55 yX4_within wsX4_within) := goodIn_app (goodIn_of _ (by decide +kernel)) ggX4_down_X4_within
theorem dX4_down_0 : decode cX4_down 0 = .ok (.aload_n 0, 1) := by decide +kernel
theorem dX4_down_1 : decode cX4_down 1 = .ok (.getfield 59, 3) := by decide +kernel
theorem dX4_down_4 : decode cX4_down 4 = .ok (.ifCond .ne 6, 3) := by decide +kernel
theorem dX4_down_7 : decode cX4_down 7 = .ok (.bipush (-3), 2) := by decide +kernel
theorem dX4_down_9 : decode cX4_down 9 = .ok (.ireturn, 1) := by decide +kernel
theorem dX4_down_10 : decode cX4_down 10 = .ok (.iload_n 1, 1) := by decide +kernel
theorem dX4_down_11 : decode cX4_down 11 = .ok (.iconst 0, 1) := by decide +kernel
theorem dX4_down_12 : decode cX4_down 12 = .ok (.bipush 99, 2) := by decide +kernel
theorem dX4_down_14 : decode cX4_down 14 = .ok (.invokestatic 55, 3) := by decide +kernel
theorem dX4_down_17 : decode cX4_down 17 = .ok (.ifCond .ne 6, 3) := by decide +kernel
theorem dX4_down_20 : decode cX4_down 20 = .ok (.bipush (-2), 2) := by decide +kernel
theorem dX4_down_22 : decode cX4_down 22 = .ok (.ireturn, 1) := by decide +kernel
theorem dX4_down_23 : decode cX4_down 23 = .ok (.bipush (-9), 2) := by decide +kernel
theorem dX4_down_25 : decode cX4_down 25 = .ok (.istore_n 2, 1) := by decide +kernel
theorem dX4_down_26 : decode cX4_down 26 = .ok (.iconst 0, 1) := by decide +kernel
theorem dX4_down_27 : decode cX4_down 27 = .ok (.istore_n 3, 1) := by decide +kernel
theorem dX4_down_28 : decode cX4_down 28 = .ok (.iconst 0, 1) := by decide +kernel
theorem dX4_down_29 : decode cX4_down 29 = .ok (.istore 4, 2) := by decide +kernel
theorem dX4_down_31 : decode cX4_down 31 = .ok (.iload 4, 2) := by decide +kernel
theorem dX4_down_33 : decode cX4_down 33 = .ok (.aload_n 0, 1) := by decide +kernel
theorem dX4_down_34 : decode cX4_down 34 = .ok (.getfield 95, 3) := by decide +kernel
theorem dX4_down_37 : decode cX4_down 37 = .ok (.if_icmp .ge 76, 3) := by decide +kernel
theorem dX4_down_40 : decode cX4_down 40 = .ok (.iload 4, 2) := by decide +kernel
theorem dX4_down_42 : decode cX4_down 42 = .ok (.iconst 1, 1) := by decide +kernel
theorem dX4_down_43 : decode cX4_down 43 = .ok (.iadd, 1) := by decide +kernel
theorem dX4_down_44 : decode cX4_down 44 = .ok (.istore 5, 2) := by decide +kernel
theorem dX4_down_46 : decode cX4_down 46 = .ok (.iload 5, 2) := by decide +kernel
theorem dX4_down_48 : decode cX4_down 48 = .ok (.aload_n 0, 1) := by decide +kernel
theorem dX4_down_49 : decode cX4_down 49 = .ok (.getfield 95, 3) := by decide +kernel
theorem dX4_down_52 : decode cX4_down 52 = .ok (.if_icmp .ge 55, 3) := by decide +kernel
theorem dX4_down_55 : decode cX4_down 55 = .ok (.aload_n 0, 1) := by decide +kernel
theorem dX4_down_56 : decode cX4_down 56 = .ok (.getfield 25, 3) := by decide +kernel
theorem dX4_down_59 : decode cX4_down 59 = .ok (.iload 4, 2) := by decide +kernel
theorem dX4_down_61 : decode cX4_down 61 = .ok (.iaload, 1) := by decide +kernel
theorem dX4_down_62 : decode cX4_down 62 = .ok (.aload_n 0, 1) := by decide +kernel
theorem dX4_down_63 : decode cX4_down 63 = .ok (.getfield 25, 3) := by decide +kernel
theorem dX4_down_66 : decode cX4_down 66 = .ok (.iload 5, 2) := by decide +kernel
theorem dX4_down_68 : decode cX4_down 68 = .ok (.iaload, 1) := by decide +kernel
theorem dX4_down_69 : decode cX4_down 69 = .ok (.iadd, 1) := by decide +kernel
theorem dX4_down_70 : decode cX4_down 70 = .ok (.istore 6, 2) := by decide +kernel
theorem dX4_down_72 : decode cX4_down 72 = .ok (.iload 6, 2) := by decide +kernel
theorem dX4_down_74 : decode cX4_down 74 = .ok (.aload_n 0, 1) := by decide +kernel
theorem dX4_down_75 : decode cX4_down 75 = .ok (.getfield 89, 3) := by decide +kernel
theorem dX4_down_78 : decode cX4_down 78 = .ok (.iload_n 1, 1) := by decide +kernel
theorem dX4_down_79 : decode cX4_down 79 = .ok (.imul, 1) := by decide +kernel
theorem dX4_down_80 : decode cX4_down 80 = .ok (.if_icmp .gt 21, 3) := by decide +kernel
theorem dX4_down_83 : decode cX4_down 83 = .ok (.iload 6, 2) := by decide +kernel
theorem dX4_down_85 : decode cX4_down 85 = .ok (.iload_n 3, 1) := by decide +kernel
theorem dX4_down_86 : decode cX4_down 86 = .ok (.if_icmp .le 15, 3) := by decide +kernel
theorem dX4_down_89 : decode cX4_down 89 = .ok (.bipush 10, 2) := by decide +kernel
theorem dX4_down_91 : decode cX4_down 91 = .ok (.iload 4, 2) := by decide +kernel
theorem dX4_down_93 : decode cX4_down 93 = .ok (.imul, 1) := by decide +kernel
theorem dX4_down_94 : decode cX4_down 94 = .ok (.iload 5, 2) := by decide +kernel
theorem dX4_down_96 : decode cX4_down 96 = .ok (.iadd, 1) := by decide +kernel
theorem dX4_down_97 : decode cX4_down 97 = .ok (.istore_n 2, 1) := by decide +kernel
theorem dX4_down_98 : decode cX4_down 98 = .ok (.iload 6, 2) := by decide +kernel
theorem dX4_down_100 : decode cX4_down 100 = .ok (.istore_n 3, 1) := by decide +kernel
theorem dX4_down_101 : decode cX4_down 101 = .ok (.iinc 5 1, 3) := by decide +kernel
theorem dX4_down_104 : decode cX4_down 104 = .ok (.goto (-58), 3) := by decide +kernel
theorem dX4_down_107 : decode cX4_down 107 = .ok (.iinc 4 1, 3) := by decide +kernel
theorem dX4_down_110 : decode cX4_down 110 = .ok (.goto (-79), 3) := by decide +kernel
theorem dX4_down_113 : decode cX4_down 113 = .ok (.iload_n 2, 1) := by decide +kernel
theorem dX4_down_114 : decode cX4_down 114 = .ok (.ireturn, 1) := by decide +kernel
set_option maxRecDepth 20000 in
theorem ggX4_reading_X4_isAnswer : GoodIn wsX4_reading wsX4_isAnswer := goodIn_r _ [8, 9, 13, 14, 15, 16, 17, 18, 19, 20, 21, 22, 23, 24, 25, 26, 27, 28, 29, 30, 31, 32, 33, 34, 35] (by decide +kernel) (by decide +kernel)
set_option maxRecDepth 20000 in
theorem gX4_reading_X4_isAnswer : GoodIn wsX4_reading (wsV RX4 115 RX4 yX4_isAnswer wsX4_isAnswer) := goodIn_app (goodIn_of _ (by decide +kernel)) ggX4_reading_X4_isAnswer
set_option maxRecDepth 20000 in
theorem ggX4_reading_X4_within : GoodIn wsX4_reading wsX4_within := goodIn_r _ [12] (by decide +kernel) (by decide +kernel)
set_option maxRecDepth 20000 in
theorem gX4_reading_X4_within : GoodIn wsX4_reading (va_wsS RX4 55 yX4_within wsX4_within) := goodIn_app (goodIn_of _ (by decide +kernel)) ggX4_reading_X4_within
theorem dX4_reading_0 : decode cX4_reading 0 = .ok (.aload_n 0, 1) := by decide +kernel
theorem dX4_reading_1 : decode cX4_reading 1 = .ok (.iload_n 1, 1) := by decide +kernel
theorem dX4_reading_2 : decode cX4_reading 2 = .ok (.invokevirtual 115, 3) := by decide +kernel
theorem dX4_reading_5 : decode cX4_reading 5 = .ok (.ifCond .ne 5, 3) := by decide +kernel
theorem dX4_reading_8 : decode cX4_reading 8 = .ok (.iconst (-1), 1) := by decide +kernel
theorem dX4_reading_9 : decode cX4_reading 9 = .ok (.ireturn, 1) := by decide +kernel
theorem dX4_reading_10 : decode cX4_reading 10 = .ok (.iload_n 2, 1) := by decide +kernel
theorem dX4_reading_11 : decode cX4_reading 11 = .ok (.bipush (-9), 2) := by decide +kernel
theorem dX4_reading_13 : decode cX4_reading 13 = .ok (.if_icmp .eq 16, 3) := by decide +kernel
theorem dX4_reading_16 : decode cX4_reading 16 = .ok (.iload_n 2, 1) := by decide +kernel
theorem dX4_reading_17 : decode cX4_reading 17 = .ok (.iconst 0, 1) := by decide +kernel
theorem dX4_reading_18 : decode cX4_reading 18 = .ok (.bipush 10, 2) := by decide +kernel
theorem dX4_reading_20 : decode cX4_reading 20 = .ok (.invokestatic 55, 3) := by decide +kernel
theorem dX4_reading_23 : decode cX4_reading 23 = .ok (.ifCond .ne 6, 3) := by decide +kernel
theorem dX4_reading_26 : decode cX4_reading 26 = .ok (.bipush (-2), 2) := by decide +kernel
theorem dX4_reading_28 : decode cX4_reading 28 = .ok (.ireturn, 1) := by decide +kernel
theorem dX4_reading_29 : decode cX4_reading 29 = .ok (.aload_n 0, 1) := by decide +kernel
theorem dX4_reading_30 : decode cX4_reading 30 = .ok (.getfield 98, 3) := by decide +kernel
theorem dX4_reading_33 : decode cX4_reading 33 = .ok (.bipush 8, 2) := by decide +kernel
theorem dX4_reading_35 : decode cX4_reading 35 = .ok (.if_icmp .ne 6, 3) := by decide +kernel
theorem dX4_reading_38 : decode cX4_reading 38 = .ok (.bipush (-4), 2) := by decide +kernel
theorem dX4_reading_40 : decode cX4_reading 40 = .ok (.ireturn, 1) := by decide +kernel
theorem dX4_reading_41 : decode cX4_reading 41 = .ok (.aload_n 0, 1) := by decide +kernel
theorem dX4_reading_42 : decode cX4_reading 42 = .ok (.getfield 43, 3) := by decide +kernel
theorem dX4_reading_45 : decode cX4_reading 45 = .ok (.aload_n 0, 1) := by decide +kernel
theorem dX4_reading_46 : decode cX4_reading 46 = .ok (.getfield 98, 3) := by decide +kernel
theorem dX4_reading_49 : decode cX4_reading 49 = .ok (.iload_n 1, 1) := by decide +kernel
theorem dX4_reading_50 : decode cX4_reading 50 = .ok (.iastore, 1) := by decide +kernel
theorem dX4_reading_51 : decode cX4_reading 51 = .ok (.aload_n 0, 1) := by decide +kernel
theorem dX4_reading_52 : decode cX4_reading 52 = .ok (.getfield 46, 3) := by decide +kernel
theorem dX4_reading_55 : decode cX4_reading 55 = .ok (.aload_n 0, 1) := by decide +kernel
theorem dX4_reading_56 : decode cX4_reading 56 = .ok (.getfield 98, 3) := by decide +kernel
theorem dX4_reading_59 : decode cX4_reading 59 = .ok (.iload_n 2, 1) := by decide +kernel
theorem dX4_reading_60 : decode cX4_reading 60 = .ok (.iastore, 1) := by decide +kernel
theorem dX4_reading_61 : decode cX4_reading 61 = .ok (.aload_n 0, 1) := by decide +kernel
theorem dX4_reading_62 : decode cX4_reading 62 = .ok (.dup, 1) := by decide +kernel
theorem dX4_reading_63 : decode cX4_reading 63 = .ok (.getfield 98, 3) := by decide +kernel
theorem dX4_reading_66 : decode cX4_reading 66 = .ok (.iconst 1, 1) := by decide +kernel
theorem dX4_reading_67 : decode cX4_reading 67 = .ok (.iadd, 1) := by decide +kernel
theorem dX4_reading_68 : decode cX4_reading 68 = .ok (.putfield 98, 3) := by decide +kernel
theorem dX4_reading_71 : decode cX4_reading 71 = .ok (.aload_n 0, 1) := by decide +kernel
theorem dX4_reading_72 : decode cX4_reading 72 = .ok (.getfield 98, 3) := by decide +kernel
theorem dX4_reading_75 : decode cX4_reading 75 = .ok (.iconst 1, 1) := by decide +kernel
theorem dX4_reading_76 : decode cX4_reading 76 = .ok (.isub, 1) := by decide +kernel
theorem dX4_reading_77 : decode cX4_reading 77 = .ok (.ireturn, 1) := by decide +kernel
set_option maxRecDepth 20000 in
theorem ggX4_back_X4_within : GoodIn wsX4_back wsX4_within := goodIn_r _ [5] (by decide +kernel) (by decide +kernel)
set_option maxRecDepth 20000 in
theorem gX4_back_X4_within : GoodIn wsX4_back (va_wsS RX4 55 yX4_within wsX4_within) := goodIn_app (goodIn_of _ (by decide +kernel)) ggX4_back_X4_within
theorem dX4_back_0 : decode cX4_back 0 = .ok (.iload_n 1, 1) := by decide +kernel
theorem dX4_back_1 : decode cX4_back 1 = .ok (.iconst 0, 1) := by decide +kernel
theorem dX4_back_2 : decode cX4_back 2 = .ok (.aload_n 0, 1) := by decide +kernel
theorem dX4_back_3 : decode cX4_back 3 = .ok (.getfield 98, 3) := by decide +kernel
theorem dX4_back_6 : decode cX4_back 6 = .ok (.invokestatic 55, 3) := by decide +kernel
theorem dX4_back_9 : decode cX4_back 9 = .ok (.ifCond .ne 6, 3) := by decide +kernel
theorem dX4_back_12 : decode cX4_back 12 = .ok (.bipush (-2), 2) := by decide +kernel
theorem dX4_back_14 : decode cX4_back 14 = .ok (.ireturn, 1) := by decide +kernel
theorem dX4_back_15 : decode cX4_back 15 = .ok (.aload_n 0, 1) := by decide +kernel
theorem dX4_back_16 : decode cX4_back 16 = .ok (.dup, 1) := by decide +kernel
theorem dX4_back_17 : decode cX4_back 17 = .ok (.getfield 98, 3) := by decide +kernel
theorem dX4_back_20 : decode cX4_back 20 = .ok (.iload_n 1, 1) := by decide +kernel
theorem dX4_back_21 : decode cX4_back 21 = .ok (.isub, 1) := by decide +kernel
theorem dX4_back_22 : decode cX4_back 22 = .ok (.putfield 98, 3) := by decide +kernel
theorem dX4_back_25 : decode cX4_back 25 = .ok (.aload_n 0, 1) := by decide +kernel
theorem dX4_back_26 : decode cX4_back 26 = .ok (.getfield 98, 3) := by decide +kernel
theorem dX4_back_29 : decode cX4_back 29 = .ok (.ireturn, 1) := by decide +kernel
set_option maxRecDepth 20000 in
theorem ggX4_leftSet_X4_group : GoodIn wsX4_leftSet wsX4_group := goodIn_r _ [9, 1, 10, 11, 12, 8, 13, 14, 15, 16, 17, 18, 19, 20, 21, 22, 23, 24, 25, 26, 27, 28, 29, 30, 31, 32, 33, 34, 35, 36, 37, 38] (by decide +kernel) (by decide +kernel)
set_option maxRecDepth 20000 in
theorem gX4_leftSet_X4_group : GoodIn wsX4_leftSet (wsV RX4 124 RX4 yX4_group wsX4_group) := goodIn_app (goodIn_of _ (by decide +kernel)) ggX4_leftSet_X4_group
theorem dX4_leftSet_0 : decode cX4_leftSet 0 = .ok (.iconst 1, 1) := by decide +kernel
theorem dX4_leftSet_1 : decode cX4_leftSet 1 = .ok (.aload_n 0, 1) := by decide +kernel
theorem dX4_leftSet_2 : decode cX4_leftSet 2 = .ok (.getfield 59, 3) := by decide +kernel
theorem dX4_leftSet_5 : decode cX4_leftSet 5 = .ok (.ishl, 1) := by decide +kernel
theorem dX4_leftSet_6 : decode cX4_leftSet 6 = .ok (.iconst 1, 1) := by decide +kernel
theorem dX4_leftSet_7 : decode cX4_leftSet 7 = .ok (.isub, 1) := by decide +kernel
theorem dX4_leftSet_8 : decode cX4_leftSet 8 = .ok (.istore_n 1, 1) := by decide +kernel
theorem dX4_leftSet_9 : decode cX4_leftSet 9 = .ok (.iconst 0, 1) := by decide +kernel
theorem dX4_leftSet_10 : decode cX4_leftSet 10 = .ok (.istore_n 2, 1) := by decide +kernel
theorem dX4_leftSet_11 : decode cX4_leftSet 11 = .ok (.iload_n 2, 1) := by decide +kernel
theorem dX4_leftSet_12 : decode cX4_leftSet 12 = .ok (.aload_n 0, 1) := by decide +kernel
theorem dX4_leftSet_13 : decode cX4_leftSet 13 = .ok (.getfield 98, 3) := by decide +kernel
theorem dX4_leftSet_16 : decode cX4_leftSet 16 = .ok (.if_icmp .ge 27, 3) := by decide +kernel
theorem dX4_leftSet_19 : decode cX4_leftSet 19 = .ok (.aload_n 0, 1) := by decide +kernel
theorem dX4_leftSet_20 : decode cX4_leftSet 20 = .ok (.aload_n 0, 1) := by decide +kernel
theorem dX4_leftSet_21 : decode cX4_leftSet 21 = .ok (.getfield 43, 3) := by decide +kernel
theorem dX4_leftSet_24 : decode cX4_leftSet 24 = .ok (.iload_n 2, 1) := by decide +kernel
theorem dX4_leftSet_25 : decode cX4_leftSet 25 = .ok (.iaload, 1) := by decide +kernel
theorem dX4_leftSet_26 : decode cX4_leftSet 26 = .ok (.aload_n 0, 1) := by decide +kernel
theorem dX4_leftSet_27 : decode cX4_leftSet 27 = .ok (.getfield 46, 3) := by decide +kernel
theorem dX4_leftSet_30 : decode cX4_leftSet 30 = .ok (.iload_n 2, 1) := by decide +kernel
theorem dX4_leftSet_31 : decode cX4_leftSet 31 = .ok (.iaload, 1) := by decide +kernel
theorem dX4_leftSet_32 : decode cX4_leftSet 32 = .ok (.iload_n 1, 1) := by decide +kernel
theorem dX4_leftSet_33 : decode cX4_leftSet 33 = .ok (.invokevirtual 124, 3) := by decide +kernel
theorem dX4_leftSet_36 : decode cX4_leftSet 36 = .ok (.istore_n 1, 1) := by decide +kernel
theorem dX4_leftSet_37 : decode cX4_leftSet 37 = .ok (.iinc 2 1, 3) := by decide +kernel
theorem dX4_leftSet_40 : decode cX4_leftSet 40 = .ok (.goto (-29), 3) := by decide +kernel
theorem dX4_leftSet_43 : decode cX4_leftSet 43 = .ok (.iload_n 1, 1) := by decide +kernel
theorem dX4_leftSet_44 : decode cX4_leftSet 44 = .ok (.ireturn, 1) := by decide +kernel
set_option maxRecDepth 20000 in
theorem ggX4_left_X4_leftSet : GoodIn wsX4_left wsX4_leftSet := goodIn_r _ [6, 1, 7, 8, 9, 10, 11, 12, 5, 13, 14, 15, 16, 17, 18, 19, 20, 21, 22, 23, 24, 25, 26, 27, 28, 29, 30, 31, 32, 33, 34, 35, 36, 37, 38, 39, 40, 41, 42] (by decide +kernel) (by decide +kernel)
set_option maxRecDepth 20000 in
theorem gX4_left_X4_leftSet : GoodIn wsX4_left (wsV RX4 151 RX4 yX4_leftSet wsX4_leftSet) := goodIn_app (goodIn_of _ (by decide +kernel)) ggX4_left_X4_leftSet
theorem dX4_left_0 : decode cX4_left 0 = .ok (.aload_n 0, 1) := by decide +kernel
theorem dX4_left_1 : decode cX4_left 1 = .ok (.getfield 59, 3) := by decide +kernel
theorem dX4_left_4 : decode cX4_left 4 = .ok (.ifCond .ne 8, 3) := by decide +kernel
theorem dX4_left_7 : decode cX4_left 7 = .ok (.bipush (-3), 2) := by decide +kernel
theorem dX4_left_9 : decode cX4_left 9 = .ok (.goto 7, 3) := by decide +kernel
theorem dX4_left_12 : decode cX4_left 12 = .ok (.aload_n 0, 1) := by decide +kernel
theorem dX4_left_13 : decode cX4_left 13 = .ok (.invokevirtual 151, 3) := by decide +kernel
theorem dX4_left_16 : decode cX4_left 16 = .ok (.ireturn, 1) := by decide +kernel
set_option maxRecDepth 20000 in
theorem ggX4_kinds_X4_isAnswer : GoodIn wsX4_kinds wsX4_isAnswer := goodIn_r _ [6, 7, 24, 25, 26, 27, 28, 29, 30, 31, 32, 33, 34, 35, 36, 37, 38, 39, 40, 41, 42, 43, 44, 45, 46] (by decide +kernel) (by decide +kernel)
set_option maxRecDepth 20000 in
theorem gX4_kinds_X4_isAnswer : GoodIn wsX4_kinds (wsV RX4 115 RX4 yX4_isAnswer wsX4_isAnswer) := goodIn_app (goodIn_of _ (by decide +kernel)) ggX4_kinds_X4_isAnswer
set_option maxRecDepth 20000 in
theorem ggX4_kinds_X4_leftSet : GoodIn wsX4_kinds wsX4_leftSet := goodIn_r _ [11, 7, 12, 13, 14, 15, 16, 17, 5, 18, 19, 20, 21, 22, 23, 1, 24, 25, 26, 27, 28, 29, 30, 31, 32, 33, 34, 35, 36, 37, 38, 39, 40, 41, 42, 43, 44, 45, 46] (by decide +kernel) (by decide +kernel)
set_option maxRecDepth 20000 in
theorem gX4_kinds_X4_leftSet : GoodIn wsX4_kinds (wsV RX4 151 RX4 yX4_leftSet wsX4_leftSet) := goodIn_app (goodIn_of _ (by decide +kernel)) ggX4_kinds_X4_leftSet
theorem dX4_kinds_0 : decode cX4_kinds 0 = .ok (.aload_n 0, 1) := by decide +kernel
theorem dX4_kinds_1 : decode cX4_kinds 1 = .ok (.iload_n 1, 1) := by decide +kernel
theorem dX4_kinds_2 : decode cX4_kinds 2 = .ok (.invokevirtual 115, 3) := by decide +kernel
theorem dX4_kinds_5 : decode cX4_kinds 5 = .ok (.ifCond .ne 5, 3) := by decide +kernel
theorem dX4_kinds_8 : decode cX4_kinds 8 = .ok (.iconst (-1), 1) := by decide +kernel
theorem dX4_kinds_9 : decode cX4_kinds 9 = .ok (.ireturn, 1) := by decide +kernel
theorem dX4_kinds_10 : decode cX4_kinds 10 = .ok (.aload_n 0, 1) := by decide +kernel
theorem dX4_kinds_11 : decode cX4_kinds 11 = .ok (.getfield 19, 3) := by decide +kernel
theorem dX4_kinds_14 : decode cX4_kinds 14 = .ok (.iload_n 1, 1) := by decide +kernel
theorem dX4_kinds_15 : decode cX4_kinds 15 = .ok (.iaload, 1) := by decide +kernel
theorem dX4_kinds_16 : decode cX4_kinds 16 = .ok (.istore_n 2, 1) := by decide +kernel
theorem dX4_kinds_17 : decode cX4_kinds 17 = .ok (.iconst 0, 1) := by decide +kernel
theorem dX4_kinds_18 : decode cX4_kinds 18 = .ok (.istore_n 3, 1) := by decide +kernel
theorem dX4_kinds_19 : decode cX4_kinds 19 = .ok (.iconst 0, 1) := by decide +kernel
theorem dX4_kinds_20 : decode cX4_kinds 20 = .ok (.istore 4, 2) := by decide +kernel
theorem dX4_kinds_22 : decode cX4_kinds 22 = .ok (.iload 4, 2) := by decide +kernel
theorem dX4_kinds_24 : decode cX4_kinds 24 = .ok (.iconst 3, 1) := by decide +kernel
theorem dX4_kinds_25 : decode cX4_kinds 25 = .ok (.if_icmp .ge 35, 3) := by decide +kernel
theorem dX4_kinds_28 : decode cX4_kinds 28 = .ok (.aload_n 0, 1) := by decide +kernel
theorem dX4_kinds_29 : decode cX4_kinds 29 = .ok (.getfield 19, 3) := by decide +kernel
theorem dX4_kinds_32 : decode cX4_kinds 32 = .ok (.iload_n 1, 1) := by decide +kernel
theorem dX4_kinds_33 : decode cX4_kinds 33 = .ok (.iload 4, 2) := by decide +kernel
theorem dX4_kinds_35 : decode cX4_kinds 35 = .ok (.iastore, 1) := by decide +kernel
theorem dX4_kinds_36 : decode cX4_kinds 36 = .ok (.iload_n 3, 1) := by decide +kernel
theorem dX4_kinds_37 : decode cX4_kinds 37 = .ok (.aload_n 0, 1) := by decide +kernel
theorem dX4_kinds_38 : decode cX4_kinds 38 = .ok (.invokevirtual 151, 3) := by decide +kernel
theorem dX4_kinds_41 : decode cX4_kinds 41 = .ok (.ifCond .eq 10, 3) := by decide +kernel
theorem dX4_kinds_44 : decode cX4_kinds 44 = .ok (.iconst 1, 1) := by decide +kernel
theorem dX4_kinds_45 : decode cX4_kinds 45 = .ok (.iload 4, 2) := by decide +kernel
theorem dX4_kinds_47 : decode cX4_kinds 47 = .ok (.ishl, 1) := by decide +kernel
theorem dX4_kinds_48 : decode cX4_kinds 48 = .ok (.goto 4, 3) := by decide +kernel
theorem dX4_kinds_51 : decode cX4_kinds 51 = .ok (.iconst 0, 1) := by decide +kernel
theorem dX4_kinds_52 : decode cX4_kinds 52 = .ok (.ior, 1) := by decide +kernel
theorem dX4_kinds_53 : decode cX4_kinds 53 = .ok (.istore_n 3, 1) := by decide +kernel
theorem dX4_kinds_54 : decode cX4_kinds 54 = .ok (.iinc 4 1, 3) := by decide +kernel
theorem dX4_kinds_57 : decode cX4_kinds 57 = .ok (.goto (-35), 3) := by decide +kernel
theorem dX4_kinds_60 : decode cX4_kinds 60 = .ok (.aload_n 0, 1) := by decide +kernel
theorem dX4_kinds_61 : decode cX4_kinds 61 = .ok (.getfield 19, 3) := by decide +kernel
theorem dX4_kinds_64 : decode cX4_kinds 64 = .ok (.iload_n 1, 1) := by decide +kernel
theorem dX4_kinds_65 : decode cX4_kinds 65 = .ok (.iload_n 2, 1) := by decide +kernel
theorem dX4_kinds_66 : decode cX4_kinds 66 = .ok (.iastore, 1) := by decide +kernel
theorem dX4_kinds_67 : decode cX4_kinds 67 = .ok (.iload_n 3, 1) := by decide +kernel
theorem dX4_kinds_68 : decode cX4_kinds 68 = .ok (.ireturn, 1) := by decide +kernel
set_option maxRecDepth 20000 in
theorem ggX4_places_X4_isAnswer : GoodIn wsX4_places wsX4_isAnswer := goodIn_r _ [6, 7, 24, 25, 26, 27, 28, 29, 30, 31, 32, 33, 34, 35, 36, 37, 38, 39, 40, 41, 42, 43, 44, 45, 46] (by decide +kernel) (by decide +kernel)
set_option maxRecDepth 20000 in
theorem gX4_places_X4_isAnswer : GoodIn wsX4_places (wsV RX4 115 RX4 yX4_isAnswer wsX4_isAnswer) := goodIn_app (goodIn_of _ (by decide +kernel)) ggX4_places_X4_isAnswer
set_option maxRecDepth 20000 in
theorem ggX4_places_X4_leftSet : GoodIn wsX4_places wsX4_leftSet := goodIn_r _ [11, 7, 12, 13, 14, 15, 16, 17, 5, 18, 19, 20, 21, 22, 1, 23, 24, 25, 26, 27, 28, 29, 30, 31, 32, 33, 34, 35, 36, 37, 38, 39, 40, 41, 42, 43, 44, 45, 46] (by decide +kernel) (by decide +kernel)
set_option maxRecDepth 20000 in
theorem gX4_places_X4_leftSet : GoodIn wsX4_places (wsV RX4 151 RX4 yX4_leftSet wsX4_leftSet) := goodIn_app (goodIn_of _ (by decide +kernel)) ggX4_places_X4_leftSet
theorem dX4_places_0 : decode cX4_places 0 = .ok (.aload_n 0, 1) := by decide +kernel
theorem dX4_places_1 : decode cX4_places 1 = .ok (.iload_n 1, 1) := by decide +kernel
theorem dX4_places_2 : decode cX4_places 2 = .ok (.invokevirtual 115, 3) := by decide +kernel
theorem dX4_places_5 : decode cX4_places 5 = .ok (.ifCond .ne 5, 3) := by decide +kernel
theorem dX4_places_8 : decode cX4_places 8 = .ok (.iconst (-1), 1) := by decide +kernel
theorem dX4_places_9 : decode cX4_places 9 = .ok (.ireturn, 1) := by decide +kernel
theorem dX4_places_10 : decode cX4_places 10 = .ok (.aload_n 0, 1) := by decide +kernel
theorem dX4_places_11 : decode cX4_places 11 = .ok (.getfield 22, 3) := by decide +kernel
theorem dX4_places_14 : decode cX4_places 14 = .ok (.iload_n 1, 1) := by decide +kernel
theorem dX4_places_15 : decode cX4_places 15 = .ok (.iaload, 1) := by decide +kernel
theorem dX4_places_16 : decode cX4_places 16 = .ok (.istore_n 2, 1) := by decide +kernel
theorem dX4_places_17 : decode cX4_places 17 = .ok (.iconst 0, 1) := by decide +kernel
theorem dX4_places_18 : decode cX4_places 18 = .ok (.istore_n 3, 1) := by decide +kernel
theorem dX4_places_19 : decode cX4_places 19 = .ok (.iconst 0, 1) := by decide +kernel
theorem dX4_places_20 : decode cX4_places 20 = .ok (.istore 4, 2) := by decide +kernel
theorem dX4_places_22 : decode cX4_places 22 = .ok (.iload 4, 2) := by decide +kernel
theorem dX4_places_24 : decode cX4_places 24 = .ok (.bipush 9, 2) := by decide +kernel
theorem dX4_places_26 : decode cX4_places 26 = .ok (.if_icmp .gt 35, 3) := by decide +kernel
theorem dX4_places_29 : decode cX4_places 29 = .ok (.aload_n 0, 1) := by decide +kernel
theorem dX4_places_30 : decode cX4_places 30 = .ok (.getfield 22, 3) := by decide +kernel
theorem dX4_places_33 : decode cX4_places 33 = .ok (.iload_n 1, 1) := by decide +kernel
theorem dX4_places_34 : decode cX4_places 34 = .ok (.iload 4, 2) := by decide +kernel
theorem dX4_places_36 : decode cX4_places 36 = .ok (.iastore, 1) := by decide +kernel
theorem dX4_places_37 : decode cX4_places 37 = .ok (.iload_n 3, 1) := by decide +kernel
theorem dX4_places_38 : decode cX4_places 38 = .ok (.aload_n 0, 1) := by decide +kernel
theorem dX4_places_39 : decode cX4_places 39 = .ok (.invokevirtual 151, 3) := by decide +kernel
theorem dX4_places_42 : decode cX4_places 42 = .ok (.ifCond .eq 10, 3) := by decide +kernel
theorem dX4_places_45 : decode cX4_places 45 = .ok (.iconst 1, 1) := by decide +kernel
theorem dX4_places_46 : decode cX4_places 46 = .ok (.iload 4, 2) := by decide +kernel
theorem dX4_places_48 : decode cX4_places 48 = .ok (.ishl, 1) := by decide +kernel
theorem dX4_places_49 : decode cX4_places 49 = .ok (.goto 4, 3) := by decide +kernel
theorem dX4_places_52 : decode cX4_places 52 = .ok (.iconst 0, 1) := by decide +kernel
theorem dX4_places_53 : decode cX4_places 53 = .ok (.ior, 1) := by decide +kernel
theorem dX4_places_54 : decode cX4_places 54 = .ok (.istore_n 3, 1) := by decide +kernel
theorem dX4_places_55 : decode cX4_places 55 = .ok (.iinc 4 1, 3) := by decide +kernel
theorem dX4_places_58 : decode cX4_places 58 = .ok (.goto (-36), 3) := by decide +kernel
theorem dX4_places_61 : decode cX4_places 61 = .ok (.aload_n 0, 1) := by decide +kernel
theorem dX4_places_62 : decode cX4_places 62 = .ok (.getfield 22, 3) := by decide +kernel
theorem dX4_places_65 : decode cX4_places 65 = .ok (.iload_n 1, 1) := by decide +kernel
theorem dX4_places_66 : decode cX4_places 66 = .ok (.iload_n 2, 1) := by decide +kernel
theorem dX4_places_67 : decode cX4_places 67 = .ok (.iastore, 1) := by decide +kernel
theorem dX4_places_68 : decode cX4_places 68 = .ok (.iload_n 3, 1) := by decide +kernel
theorem dX4_places_69 : decode cX4_places 69 = .ok (.ireturn, 1) := by decide +kernel
set_option maxRecDepth 20000 in
theorem ggX4_isBound_X4_askOf : GoodIn wsX4_isBound wsX4_askOf := goodIn_r _ [6, 1, 7, 8, 9, 10, 5, 11, 12, 13, 14, 15, 16, 17, 18, 19, 20, 21, 22, 23, 24, 25, 26, 27, 28, 29, 30, 31, 32, 33, 34, 35, 36, 37, 38, 39, 40, 41, 42, 43, 44] (by decide +kernel) (by decide +kernel)
set_option maxRecDepth 20000 in
theorem gX4_isBound_X4_askOf : GoodIn wsX4_isBound (wsV RX4 144 RX4 yX4_askOf wsX4_askOf) := goodIn_app (goodIn_of _ (by decide +kernel)) ggX4_isBound_X4_askOf
set_option maxRecDepth 20000 in
theorem ggX4_isBound_X4_shownBy : GoodIn wsX4_isBound wsX4_shownBy := goodIn_r _ [19, 20, 21, 22, 23, 24, 25, 26, 27, 28, 29, 30, 31, 32, 33, 34, 35, 36, 37, 38, 39, 40, 41, 42, 43, 44] (by decide +kernel) (by decide +kernel)
set_option maxRecDepth 20000 in
theorem gX4_isBound_X4_shownBy : GoodIn wsX4_isBound (wsV RX4 118 RX4 yX4_shownBy wsX4_shownBy) := goodIn_app (goodIn_of _ (by decide +kernel)) ggX4_isBound_X4_shownBy
set_option maxRecDepth 20000 in
theorem ggX4_isBound_X4_group : GoodIn wsX4_isBound wsX4_group := goodIn_r _ [15, 1, 16, 17, 18, 5, 19, 20, 21, 22, 23, 24, 25, 26, 27, 28, 29, 30, 31, 32, 33, 34, 35, 36, 37, 38, 39, 40, 41, 42, 43, 44] (by decide +kernel) (by decide +kernel)
set_option maxRecDepth 20000 in
theorem gX4_isBound_X4_group : GoodIn wsX4_isBound (wsV RX4 124 RX4 yX4_group wsX4_group) := goodIn_app (goodIn_of _ (by decide +kernel)) ggX4_isBound_X4_group
theorem dX4_isBound_0 : decode cX4_isBound 0 = .ok (.iconst 1, 1) := by decide +kernel
theorem dX4_isBound_1 : decode cX4_isBound 1 = .ok (.aload_n 0, 1) := by decide +kernel
theorem dX4_isBound_2 : decode cX4_isBound 2 = .ok (.getfield 59, 3) := by decide +kernel
theorem dX4_isBound_5 : decode cX4_isBound 5 = .ok (.ishl, 1) := by decide +kernel
theorem dX4_isBound_6 : decode cX4_isBound 6 = .ok (.iconst 1, 1) := by decide +kernel
theorem dX4_isBound_7 : decode cX4_isBound 7 = .ok (.isub, 1) := by decide +kernel
theorem dX4_isBound_8 : decode cX4_isBound 8 = .ok (.istore_n 3, 1) := by decide +kernel
theorem dX4_isBound_9 : decode cX4_isBound 9 = .ok (.iconst 0, 1) := by decide +kernel
theorem dX4_isBound_10 : decode cX4_isBound 10 = .ok (.istore 4, 2) := by decide +kernel
theorem dX4_isBound_12 : decode cX4_isBound 12 = .ok (.iload 4, 2) := by decide +kernel
theorem dX4_isBound_14 : decode cX4_isBound 14 = .ok (.iload_n 2, 1) := by decide +kernel
theorem dX4_isBound_15 : decode cX4_isBound 15 = .ok (.if_icmp .ge 39, 3) := by decide +kernel
theorem dX4_isBound_18 : decode cX4_isBound 18 = .ok (.aload_n 0, 1) := by decide +kernel
theorem dX4_isBound_19 : decode cX4_isBound 19 = .ok (.iload_n 3, 1) := by decide +kernel
theorem dX4_isBound_20 : decode cX4_isBound 20 = .ok (.invokevirtual 144, 3) := by decide +kernel
theorem dX4_isBound_23 : decode cX4_isBound 23 = .ok (.istore 5, 2) := by decide +kernel
theorem dX4_isBound_25 : decode cX4_isBound 25 = .ok (.iload 5, 2) := by decide +kernel
theorem dX4_isBound_27 : decode cX4_isBound 27 = .ok (.iload_n 1, 1) := by decide +kernel
theorem dX4_isBound_28 : decode cX4_isBound 28 = .ok (.if_icmp .ne 5, 3) := by decide +kernel
theorem dX4_isBound_31 : decode cX4_isBound 31 = .ok (.iconst 1, 1) := by decide +kernel
theorem dX4_isBound_32 : decode cX4_isBound 32 = .ok (.ireturn, 1) := by decide +kernel
theorem dX4_isBound_33 : decode cX4_isBound 33 = .ok (.aload_n 0, 1) := by decide +kernel
theorem dX4_isBound_34 : decode cX4_isBound 34 = .ok (.iload 5, 2) := by decide +kernel
theorem dX4_isBound_36 : decode cX4_isBound 36 = .ok (.aload_n 0, 1) := by decide +kernel
theorem dX4_isBound_37 : decode cX4_isBound 37 = .ok (.iload 5, 2) := by decide +kernel
theorem dX4_isBound_39 : decode cX4_isBound 39 = .ok (.iload_n 1, 1) := by decide +kernel
theorem dX4_isBound_40 : decode cX4_isBound 40 = .ok (.invokevirtual 118, 3) := by decide +kernel
theorem dX4_isBound_43 : decode cX4_isBound 43 = .ok (.iload_n 3, 1) := by decide +kernel
theorem dX4_isBound_44 : decode cX4_isBound 44 = .ok (.invokevirtual 124, 3) := by decide +kernel
theorem dX4_isBound_47 : decode cX4_isBound 47 = .ok (.istore_n 3, 1) := by decide +kernel
theorem dX4_isBound_48 : decode cX4_isBound 48 = .ok (.iinc 4 1, 3) := by decide +kernel
theorem dX4_isBound_51 : decode cX4_isBound 51 = .ok (.goto (-39), 3) := by decide +kernel
theorem dX4_isBound_54 : decode cX4_isBound 54 = .ok (.iconst 0, 1) := by decide +kernel
theorem dX4_isBound_55 : decode cX4_isBound 55 = .ok (.ireturn, 1) := by decide +kernel
set_option maxRecDepth 20000 in
theorem ggX4_odds_X4_within : GoodIn wsX4_odds wsX4_within := goodIn_r _ [6] (by decide +kernel) (by decide +kernel)
set_option maxRecDepth 20000 in
theorem gX4_odds_X4_within : GoodIn wsX4_odds (va_wsS RX4 55 yX4_within wsX4_within) := goodIn_app (goodIn_of _ (by decide +kernel)) ggX4_odds_X4_within
set_option maxRecDepth 20000 in
theorem ggX4_odds_X4_findWorst : GoodIn wsX4_odds wsX4_findWorst := goodIn_r _ [10, 11, 12, 1, 13, 14, 15, 5, 16, 17, 18, 19, 20, 21, 22, 23, 24, 25, 26, 27, 28, 29, 30, 31, 32, 33, 45, 46, 47, 48, 49, 50, 51, 52, 53, 54, 55, 56, 57, 58, 59, 60, 61, 62, 63, 64, 65, 66, 67] (by decide +kernel) (by decide +kernel)
set_option maxRecDepth 20000 in
theorem gX4_odds_X4_findWorst : GoodIn wsX4_odds (wsV RX4 140 RX4 yX4_findWorst wsX4_findWorst) := goodIn_app (goodIn_of _ (by decide +kernel)) ggX4_odds_X4_findWorst
set_option maxRecDepth 20000 in
theorem ggX4_odds_X4_isBound : GoodIn wsX4_odds wsX4_isBound := goodIn_r _ [37, 1, 38, 39, 40, 5, 41, 11, 13, 14, 15, 16, 17, 18, 19, 20, 21, 22, 23, 24, 25, 26, 45, 46, 47, 48, 49, 50, 51, 52, 53, 54, 55, 56, 57, 58, 59, 60, 61, 62, 63, 64, 65, 66, 67] (by decide +kernel) (by decide +kernel)
set_option maxRecDepth 20000 in
theorem gX4_odds_X4_isBound : GoodIn wsX4_odds (wsV RX4 155 RX4 yX4_isBound wsX4_isBound) := goodIn_app (goodIn_of _ (by decide +kernel)) ggX4_odds_X4_isBound
set_option maxRecDepth 20000 in
theorem ggX4_odds_X4_inLeastTerms : GoodIn wsX4_odds wsX4_inLeastTerms := goodIn_r _ [44] (by decide +kernel) (by decide +kernel)
set_option maxRecDepth 20000 in
theorem gX4_odds_X4_inLeastTerms : GoodIn wsX4_odds (va_wsS RX4 147 yX4_inLeastTerms wsX4_inLeastTerms) := goodIn_app (goodIn_of _ (by decide +kernel)) ggX4_odds_X4_inLeastTerms
theorem dX4_odds_0 : decode cX4_odds 0 = .ok (.aload_n 0, 1) := by decide +kernel
theorem dX4_odds_1 : decode cX4_odds 1 = .ok (.getfield 59, 3) := by decide +kernel
theorem dX4_odds_4 : decode cX4_odds 4 = .ok (.ifCond .eq 22, 3) := by decide +kernel
theorem dX4_odds_7 : decode cX4_odds 7 = .ok (.iload_n 1, 1) := by decide +kernel
theorem dX4_odds_8 : decode cX4_odds 8 = .ok (.iconst 0, 1) := by decide +kernel
theorem dX4_odds_9 : decode cX4_odds 9 = .ok (.bipush 9, 2) := by decide +kernel
theorem dX4_odds_11 : decode cX4_odds 11 = .ok (.invokestatic 55, 3) := by decide +kernel
theorem dX4_odds_14 : decode cX4_odds 14 = .ok (.ifCond .eq 12, 3) := by decide +kernel
theorem dX4_odds_17 : decode cX4_odds 17 = .ok (.iload_n 2, 1) := by decide +kernel
theorem dX4_odds_18 : decode cX4_odds 18 = .ok (.iconst 0, 1) := by decide +kernel
theorem dX4_odds_19 : decode cX4_odds 19 = .ok (.iconst 1, 1) := by decide +kernel
theorem dX4_odds_20 : decode cX4_odds 20 = .ok (.invokestatic 55, 3) := by decide +kernel
theorem dX4_odds_23 : decode cX4_odds 23 = .ok (.ifCond .ne 7, 3) := by decide +kernel
theorem dX4_odds_26 : decode cX4_odds 26 = .ok (.ldc2_w 53, 3) := by decide +kernel
theorem dX4_odds_29 : decode cX4_odds 29 = .ok (.lreturn, 1) := by decide +kernel
theorem dX4_odds_30 : decode cX4_odds 30 = .ok (.aload_n 0, 1) := by decide +kernel
theorem dX4_odds_31 : decode cX4_odds 31 = .ok (.iconst 1, 1) := by decide +kernel
theorem dX4_odds_32 : decode cX4_odds 32 = .ok (.aload_n 0, 1) := by decide +kernel
theorem dX4_odds_33 : decode cX4_odds 33 = .ok (.getfield 59, 3) := by decide +kernel
theorem dX4_odds_36 : decode cX4_odds 36 = .ok (.ishl, 1) := by decide +kernel
theorem dX4_odds_37 : decode cX4_odds 37 = .ok (.iconst 1, 1) := by decide +kernel
theorem dX4_odds_38 : decode cX4_odds 38 = .ok (.isub, 1) := by decide +kernel
theorem dX4_odds_39 : decode cX4_odds 39 = .ok (.invokevirtual 140, 3) := by decide +kernel
theorem dX4_odds_42 : decode cX4_odds 42 = .ok (.iconst 0, 1) := by decide +kernel
theorem dX4_odds_43 : decode cX4_odds 43 = .ok (.istore_n 3, 1) := by decide +kernel
theorem dX4_odds_44 : decode cX4_odds 44 = .ok (.iconst 0, 1) := by decide +kernel
theorem dX4_odds_45 : decode cX4_odds 45 = .ok (.istore 4, 2) := by decide +kernel
theorem dX4_odds_47 : decode cX4_odds 47 = .ok (.iload 4, 2) := by decide +kernel
theorem dX4_odds_49 : decode cX4_odds 49 = .ok (.aload_n 0, 1) := by decide +kernel
theorem dX4_odds_50 : decode cX4_odds 50 = .ok (.getfield 59, 3) := by decide +kernel
theorem dX4_odds_53 : decode cX4_odds 53 = .ok (.if_icmp .ge 27, 3) := by decide +kernel
theorem dX4_odds_56 : decode cX4_odds 56 = .ok (.iload_n 3, 1) := by decide +kernel
theorem dX4_odds_57 : decode cX4_odds 57 = .ok (.aload_n 0, 1) := by decide +kernel
theorem dX4_odds_58 : decode cX4_odds 58 = .ok (.iload 4, 2) := by decide +kernel
theorem dX4_odds_60 : decode cX4_odds 60 = .ok (.iload_n 1, 1) := by decide +kernel
theorem dX4_odds_61 : decode cX4_odds 61 = .ok (.invokevirtual 155, 3) := by decide +kernel
theorem dX4_odds_64 : decode cX4_odds 64 = .ok (.ifCond .eq 7, 3) := by decide +kernel
theorem dX4_odds_67 : decode cX4_odds 67 = .ok (.iconst 1, 1) := by decide +kernel
theorem dX4_odds_68 : decode cX4_odds 68 = .ok (.goto 4, 3) := by decide +kernel
theorem dX4_odds_71 : decode cX4_odds 71 = .ok (.iconst 0, 1) := by decide +kernel
theorem dX4_odds_72 : decode cX4_odds 72 = .ok (.iadd, 1) := by decide +kernel
theorem dX4_odds_73 : decode cX4_odds 73 = .ok (.istore_n 3, 1) := by decide +kernel
theorem dX4_odds_74 : decode cX4_odds 74 = .ok (.iinc 4 1, 3) := by decide +kernel
theorem dX4_odds_77 : decode cX4_odds 77 = .ok (.goto (-30), 3) := by decide +kernel
theorem dX4_odds_80 : decode cX4_odds 80 = .ok (.iload_n 3, 1) := by decide +kernel
theorem dX4_odds_81 : decode cX4_odds 81 = .ok (.i2l, 1) := by decide +kernel
theorem dX4_odds_82 : decode cX4_odds 82 = .ok (.aload_n 0, 1) := by decide +kernel
theorem dX4_odds_83 : decode cX4_odds 83 = .ok (.getfield 59, 3) := by decide +kernel
theorem dX4_odds_86 : decode cX4_odds 86 = .ok (.i2l, 1) := by decide +kernel
theorem dX4_odds_87 : decode cX4_odds 87 = .ok (.iload_n 2, 1) := by decide +kernel
theorem dX4_odds_88 : decode cX4_odds 88 = .ok (.invokestatic 147, 3) := by decide +kernel
theorem dX4_odds_91 : decode cX4_odds 91 = .ok (.lreturn, 1) := by decide +kernel
set_option maxRecDepth 20000 in
theorem ggX4_sheet_X4_isSheet : GoodIn wsX4_sheet wsX4_isSheet := goodIn_r _ [8, 9, 10, 7, 11] (by decide +kernel) (by decide +kernel)
set_option maxRecDepth 20000 in
theorem gX4_sheet_X4_isSheet : GoodIn wsX4_sheet (va_wsS RX4 65 yX4_isSheet wsX4_isSheet) := goodIn_app (goodIn_of _ (by decide +kernel)) ggX4_sheet_X4_isSheet
set_option maxRecDepth 20000 in
theorem ggX4_sheet_X4_isSort : GoodIn wsX4_sheet wsX4_isSort := goodIn_r _ [14, 9, 10, 7, 11] (by decide +kernel) (by decide +kernel)
set_option maxRecDepth 20000 in
theorem gX4_sheet_X4_isSort : GoodIn wsX4_sheet (va_wsS RX4 69 yX4_isSort wsX4_isSort) := goodIn_app (goodIn_of _ (by decide +kernel)) ggX4_sheet_X4_isSort
set_option maxRecDepth 20000 in
theorem ggX4_sheet_X4_fails : GoodIn wsX4_sheet wsX4_fails := goodIn_r _ [18, 1, 19, 20, 21, 22, 23, 24, 25, 26, 27, 28, 29, 30, 31, 32, 33, 34, 35, 36, 37, 38, 39, 40, 41] (by decide +kernel) (by decide +kernel)
set_option maxRecDepth 20000 in
theorem gX4_sheet_X4_fails : GoodIn wsX4_sheet (wsV RX4 76 RX4 yX4_fails wsX4_fails) := goodIn_app (goodIn_of _ (by decide +kernel)) ggX4_sheet_X4_fails
theorem dX4_sheet_0 : decode cX4_sheet 0 = .ok (.aload_n 0, 1) := by decide +kernel
theorem dX4_sheet_1 : decode cX4_sheet 1 = .ok (.iconst 0, 1) := by decide +kernel
theorem dX4_sheet_2 : decode cX4_sheet 2 = .ok (.putfield 49, 3) := by decide +kernel
theorem dX4_sheet_5 : decode cX4_sheet 5 = .ok (.iload_n 1, 1) := by decide +kernel
theorem dX4_sheet_6 : decode cX4_sheet 6 = .ok (.invokestatic 65, 3) := by decide +kernel
theorem dX4_sheet_9 : decode cX4_sheet 9 = .ok (.ifCond .ne 5, 3) := by decide +kernel
theorem dX4_sheet_12 : decode cX4_sheet 12 = .ok (.iconst (-1), 1) := by decide +kernel
theorem dX4_sheet_13 : decode cX4_sheet 13 = .ok (.ireturn, 1) := by decide +kernel
theorem dX4_sheet_14 : decode cX4_sheet 14 = .ok (.iload_n 2, 1) := by decide +kernel
theorem dX4_sheet_15 : decode cX4_sheet 15 = .ok (.invokestatic 69, 3) := by decide +kernel
theorem dX4_sheet_18 : decode cX4_sheet 18 = .ok (.ifCond .eq 9, 3) := by decide +kernel
theorem dX4_sheet_21 : decode cX4_sheet 21 = .ok (.iload_n 3, 1) := by decide +kernel
theorem dX4_sheet_22 : decode cX4_sheet 22 = .ok (.bipush 60, 2) := by decide +kernel
theorem dX4_sheet_24 : decode cX4_sheet 24 = .ok (.if_icmp .le 6, 3) := by decide +kernel
theorem dX4_sheet_27 : decode cX4_sheet 27 = .ok (.bipush (-2), 2) := by decide +kernel
theorem dX4_sheet_29 : decode cX4_sheet 29 = .ok (.ireturn, 1) := by decide +kernel
theorem dX4_sheet_30 : decode cX4_sheet 30 = .ok (.iload_n 3, 1) := by decide +kernel
theorem dX4_sheet_31 : decode cX4_sheet 31 = .ok (.ifCond .ge 9, 3) := by decide +kernel
theorem dX4_sheet_34 : decode cX4_sheet 34 = .ok (.aload_n 0, 1) := by decide +kernel
theorem dX4_sheet_35 : decode cX4_sheet 35 = .ok (.iconst 4, 1) := by decide +kernel
theorem dX4_sheet_36 : decode cX4_sheet 36 = .ok (.invokevirtual 76, 3) := by decide +kernel
theorem dX4_sheet_39 : decode cX4_sheet 39 = .ok (.ireturn, 1) := by decide +kernel
theorem dX4_sheet_40 : decode cX4_sheet 40 = .ok (.aload_n 0, 1) := by decide +kernel
theorem dX4_sheet_41 : decode cX4_sheet 41 = .ok (.getfield 9, 3) := by decide +kernel
theorem dX4_sheet_44 : decode cX4_sheet 44 = .ok (.iload_n 1, 1) := by decide +kernel
theorem dX4_sheet_45 : decode cX4_sheet 45 = .ok (.iload_n 2, 1) := by decide +kernel
theorem dX4_sheet_46 : decode cX4_sheet 46 = .ok (.iastore, 1) := by decide +kernel
theorem dX4_sheet_47 : decode cX4_sheet 47 = .ok (.aload_n 0, 1) := by decide +kernel
theorem dX4_sheet_48 : decode cX4_sheet 48 = .ok (.getfield 13, 3) := by decide +kernel
theorem dX4_sheet_51 : decode cX4_sheet 51 = .ok (.iload_n 1, 1) := by decide +kernel
theorem dX4_sheet_52 : decode cX4_sheet 52 = .ok (.iload_n 3, 1) := by decide +kernel
theorem dX4_sheet_53 : decode cX4_sheet 53 = .ok (.iastore, 1) := by decide +kernel
theorem dX4_sheet_54 : decode cX4_sheet 54 = .ok (.iconst 0, 1) := by decide +kernel
theorem dX4_sheet_55 : decode cX4_sheet 55 = .ok (.istore 4, 2) := by decide +kernel
theorem dX4_sheet_57 : decode cX4_sheet 57 = .ok (.iload 4, 2) := by decide +kernel
theorem dX4_sheet_59 : decode cX4_sheet 59 = .ok (.bipush 60, 2) := by decide +kernel
theorem dX4_sheet_61 : decode cX4_sheet 61 = .ok (.if_icmp .ge 22, 3) := by decide +kernel
theorem dX4_sheet_64 : decode cX4_sheet 64 = .ok (.aload_n 0, 1) := by decide +kernel
theorem dX4_sheet_65 : decode cX4_sheet 65 = .ok (.getfield 16, 3) := by decide +kernel
theorem dX4_sheet_68 : decode cX4_sheet 68 = .ok (.bipush 60, 2) := by decide +kernel
theorem dX4_sheet_70 : decode cX4_sheet 70 = .ok (.iload_n 1, 1) := by decide +kernel
theorem dX4_sheet_71 : decode cX4_sheet 71 = .ok (.imul, 1) := by decide +kernel
theorem dX4_sheet_72 : decode cX4_sheet 72 = .ok (.iload 4, 2) := by decide +kernel
theorem dX4_sheet_74 : decode cX4_sheet 74 = .ok (.iadd, 1) := by decide +kernel
theorem dX4_sheet_75 : decode cX4_sheet 75 = .ok (.iconst 0, 1) := by decide +kernel
theorem dX4_sheet_76 : decode cX4_sheet 76 = .ok (.iastore, 1) := by decide +kernel
theorem dX4_sheet_77 : decode cX4_sheet 77 = .ok (.iinc 4 1, 3) := by decide +kernel
theorem dX4_sheet_80 : decode cX4_sheet 80 = .ok (.goto (-23), 3) := by decide +kernel
theorem dX4_sheet_83 : decode cX4_sheet 83 = .ok (.iconst 1, 1) := by decide +kernel
theorem dX4_sheet_84 : decode cX4_sheet 84 = .ok (.ireturn, 1) := by decide +kernel
set_option maxRecDepth 20000 in
theorem ggX4_lose_X4_isSheet : GoodIn wsX4_lose wsX4_isSheet := goodIn_r _ [5, 6, 7, 4, 8] (by decide +kernel) (by decide +kernel)
set_option maxRecDepth 20000 in
theorem gX4_lose_X4_isSheet : GoodIn wsX4_lose (va_wsS RX4 65 yX4_isSheet wsX4_isSheet) := goodIn_app (goodIn_of _ (by decide +kernel)) ggX4_lose_X4_isSheet
theorem dX4_lose_0 : decode cX4_lose 0 = .ok (.iload_n 1, 1) := by decide +kernel
theorem dX4_lose_1 : decode cX4_lose 1 = .ok (.invokestatic 65, 3) := by decide +kernel
theorem dX4_lose_4 : decode cX4_lose 4 = .ok (.ifCond .ne 5, 3) := by decide +kernel
theorem dX4_lose_7 : decode cX4_lose 7 = .ok (.iconst (-1), 1) := by decide +kernel
theorem dX4_lose_8 : decode cX4_lose 8 = .ok (.ireturn, 1) := by decide +kernel
theorem dX4_lose_9 : decode cX4_lose 9 = .ok (.aload_n 0, 1) := by decide +kernel
theorem dX4_lose_10 : decode cX4_lose 10 = .ok (.getfield 9, 3) := by decide +kernel
theorem dX4_lose_13 : decode cX4_lose 13 = .ok (.iload_n 1, 1) := by decide +kernel
theorem dX4_lose_14 : decode cX4_lose 14 = .ok (.iaload, 1) := by decide +kernel
theorem dX4_lose_15 : decode cX4_lose 15 = .ok (.bipush (-9), 2) := by decide +kernel
theorem dX4_lose_17 : decode cX4_lose 17 = .ok (.if_icmp .ne 7, 3) := by decide +kernel
theorem dX4_lose_20 : decode cX4_lose 20 = .ok (.iconst 0, 1) := by decide +kernel
theorem dX4_lose_21 : decode cX4_lose 21 = .ok (.goto 4, 3) := by decide +kernel
theorem dX4_lose_24 : decode cX4_lose 24 = .ok (.iconst 1, 1) := by decide +kernel
theorem dX4_lose_25 : decode cX4_lose 25 = .ok (.istore_n 2, 1) := by decide +kernel
theorem dX4_lose_26 : decode cX4_lose 26 = .ok (.aload_n 0, 1) := by decide +kernel
theorem dX4_lose_27 : decode cX4_lose 27 = .ok (.getfield 9, 3) := by decide +kernel
theorem dX4_lose_30 : decode cX4_lose 30 = .ok (.iload_n 1, 1) := by decide +kernel
theorem dX4_lose_31 : decode cX4_lose 31 = .ok (.bipush (-9), 2) := by decide +kernel
theorem dX4_lose_33 : decode cX4_lose 33 = .ok (.iastore, 1) := by decide +kernel
theorem dX4_lose_34 : decode cX4_lose 34 = .ok (.iload_n 2, 1) := by decide +kernel
theorem dX4_lose_35 : decode cX4_lose 35 = .ok (.ireturn, 1) := by decide +kernel
set_option maxRecDepth 20000 in
theorem ggX4_put_X4_isSheet : GoodIn wsX4_put wsX4_isSheet := goodIn_r _ [8, 9, 10, 7, 11] (by decide +kernel) (by decide +kernel)
set_option maxRecDepth 20000 in
theorem gX4_put_X4_isSheet : GoodIn wsX4_put (va_wsS RX4 65 yX4_isSheet wsX4_isSheet) := goodIn_app (goodIn_of _ (by decide +kernel)) ggX4_put_X4_isSheet
set_option maxRecDepth 20000 in
theorem ggX4_put_X4_fails : GoodIn wsX4_put wsX4_fails := goodIn_r _ [15, 1, 16, 17, 18, 19, 20, 21, 22, 23, 24, 25, 26, 27, 28, 29, 30, 31, 32, 33, 34, 35, 36, 37, 38] (by decide +kernel) (by decide +kernel)
set_option maxRecDepth 20000 in
theorem gX4_put_X4_fails : GoodIn wsX4_put (wsV RX4 76 RX4 yX4_fails wsX4_fails) := goodIn_app (goodIn_of _ (by decide +kernel)) ggX4_put_X4_fails
set_option maxRecDepth 20000 in
theorem ggX4_put_X4_within : GoodIn wsX4_put wsX4_within := goodIn_r _ [11] (by decide +kernel) (by decide +kernel)
set_option maxRecDepth 20000 in
theorem gX4_put_X4_within : GoodIn wsX4_put (va_wsS RX4 55 yX4_within wsX4_within) := goodIn_app (goodIn_of _ (by decide +kernel)) ggX4_put_X4_within
theorem dX4_put_0 : decode cX4_put 0 = .ok (.aload_n 0, 1) := by decide +kernel
theorem dX4_put_1 : decode cX4_put 1 = .ok (.iconst 0, 1) := by decide +kernel
theorem dX4_put_2 : decode cX4_put 2 = .ok (.putfield 49, 3) := by decide +kernel
theorem dX4_put_5 : decode cX4_put 5 = .ok (.iload_n 1, 1) := by decide +kernel
theorem dX4_put_6 : decode cX4_put 6 = .ok (.invokestatic 65, 3) := by decide +kernel
theorem dX4_put_9 : decode cX4_put 9 = .ok (.ifCond .ne 5, 3) := by decide +kernel
theorem dX4_put_12 : decode cX4_put 12 = .ok (.iconst (-1), 1) := by decide +kernel
theorem dX4_put_13 : decode cX4_put 13 = .ok (.ireturn, 1) := by decide +kernel
theorem dX4_put_14 : decode cX4_put 14 = .ok (.aload_n 0, 1) := by decide +kernel
theorem dX4_put_15 : decode cX4_put 15 = .ok (.getfield 9, 3) := by decide +kernel
theorem dX4_put_18 : decode cX4_put 18 = .ok (.iload_n 1, 1) := by decide +kernel
theorem dX4_put_19 : decode cX4_put 19 = .ok (.iaload, 1) := by decide +kernel
theorem dX4_put_20 : decode cX4_put 20 = .ok (.bipush (-9), 2) := by decide +kernel
theorem dX4_put_22 : decode cX4_put 22 = .ok (.if_icmp .ne 9, 3) := by decide +kernel
theorem dX4_put_25 : decode cX4_put 25 = .ok (.aload_n 0, 1) := by decide +kernel
theorem dX4_put_26 : decode cX4_put 26 = .ok (.iconst 1, 1) := by decide +kernel
theorem dX4_put_27 : decode cX4_put 27 = .ok (.invokevirtual 76, 3) := by decide +kernel
theorem dX4_put_30 : decode cX4_put 30 = .ok (.ireturn, 1) := by decide +kernel
theorem dX4_put_31 : decode cX4_put 31 = .ok (.iload_n 2, 1) := by decide +kernel
theorem dX4_put_32 : decode cX4_put 32 = .ok (.iconst 0, 1) := by decide +kernel
theorem dX4_put_33 : decode cX4_put 33 = .ok (.aload_n 0, 1) := by decide +kernel
theorem dX4_put_34 : decode cX4_put 34 = .ok (.getfield 13, 3) := by decide +kernel
theorem dX4_put_37 : decode cX4_put 37 = .ok (.iload_n 1, 1) := by decide +kernel
theorem dX4_put_38 : decode cX4_put 38 = .ok (.iaload, 1) := by decide +kernel
theorem dX4_put_39 : decode cX4_put 39 = .ok (.iconst 1, 1) := by decide +kernel
theorem dX4_put_40 : decode cX4_put 40 = .ok (.isub, 1) := by decide +kernel
theorem dX4_put_41 : decode cX4_put 41 = .ok (.invokestatic 55, 3) := by decide +kernel
theorem dX4_put_44 : decode cX4_put 44 = .ok (.ifCond .ne 9, 3) := by decide +kernel
theorem dX4_put_47 : decode cX4_put 47 = .ok (.aload_n 0, 1) := by decide +kernel
theorem dX4_put_48 : decode cX4_put 48 = .ok (.iconst 3, 1) := by decide +kernel
theorem dX4_put_49 : decode cX4_put 49 = .ok (.invokevirtual 76, 3) := by decide +kernel
theorem dX4_put_52 : decode cX4_put 52 = .ok (.ireturn, 1) := by decide +kernel
theorem dX4_put_53 : decode cX4_put 53 = .ok (.aload_n 0, 1) := by decide +kernel
theorem dX4_put_54 : decode cX4_put 54 = .ok (.getfield 16, 3) := by decide +kernel
theorem dX4_put_57 : decode cX4_put 57 = .ok (.bipush 60, 2) := by decide +kernel
theorem dX4_put_59 : decode cX4_put 59 = .ok (.iload_n 1, 1) := by decide +kernel
theorem dX4_put_60 : decode cX4_put 60 = .ok (.imul, 1) := by decide +kernel
theorem dX4_put_61 : decode cX4_put 61 = .ok (.iload_n 2, 1) := by decide +kernel
theorem dX4_put_62 : decode cX4_put 62 = .ok (.iadd, 1) := by decide +kernel
theorem dX4_put_63 : decode cX4_put 63 = .ok (.aload_n 0, 1) := by decide +kernel
theorem dX4_put_64 : decode cX4_put 64 = .ok (.getfield 9, 3) := by decide +kernel
theorem dX4_put_67 : decode cX4_put 67 = .ok (.iload_n 1, 1) := by decide +kernel
theorem dX4_put_68 : decode cX4_put 68 = .ok (.iaload, 1) := by decide +kernel
theorem dX4_put_69 : decode cX4_put 69 = .ok (.ifCond .ne 8, 3) := by decide +kernel
theorem dX4_put_72 : decode cX4_put 72 = .ok (.iload_n 3, 1) := by decide +kernel
theorem dX4_put_73 : decode cX4_put 73 = .ok (.i2b, 1) := by decide +kernel
theorem dX4_put_74 : decode cX4_put 74 = .ok (.goto 19, 3) := by decide +kernel
theorem dX4_put_77 : decode cX4_put 77 = .ok (.aload_n 0, 1) := by decide +kernel
theorem dX4_put_78 : decode cX4_put 78 = .ok (.getfield 9, 3) := by decide +kernel
theorem dX4_put_81 : decode cX4_put 81 = .ok (.iload_n 1, 1) := by decide +kernel
theorem dX4_put_82 : decode cX4_put 82 = .ok (.iaload, 1) := by decide +kernel
theorem dX4_put_83 : decode cX4_put 83 = .ok (.iconst 1, 1) := by decide +kernel
theorem dX4_put_84 : decode cX4_put 84 = .ok (.if_icmp .ne 8, 3) := by decide +kernel
theorem dX4_put_87 : decode cX4_put 87 = .ok (.iload_n 3, 1) := by decide +kernel
theorem dX4_put_88 : decode cX4_put 88 = .ok (.i2s, 1) := by decide +kernel
theorem dX4_put_89 : decode cX4_put 89 = .ok (.goto 4, 3) := by decide +kernel
theorem dX4_put_92 : decode cX4_put 92 = .ok (.iload_n 3, 1) := by decide +kernel
theorem dX4_put_93 : decode cX4_put 93 = .ok (.iastore, 1) := by decide +kernel
theorem dX4_put_94 : decode cX4_put 94 = .ok (.iconst 1, 1) := by decide +kernel
theorem dX4_put_95 : decode cX4_put 95 = .ok (.ireturn, 1) := by decide +kernel
set_option maxRecDepth 20000 in
theorem ggX4_cell_X4_isSheet : GoodIn wsX4_cell wsX4_isSheet := goodIn_r _ [9, 10, 11, 8, 12] (by decide +kernel) (by decide +kernel)
set_option maxRecDepth 20000 in
theorem gX4_cell_X4_isSheet : GoodIn wsX4_cell (va_wsS RX4 65 yX4_isSheet wsX4_isSheet) := goodIn_app (goodIn_of _ (by decide +kernel)) ggX4_cell_X4_isSheet
set_option maxRecDepth 20000 in
theorem ggX4_cell_X4_isSort : GoodIn wsX4_cell wsX4_isSort := goodIn_r _ [15, 10, 11, 8, 12] (by decide +kernel) (by decide +kernel)
set_option maxRecDepth 20000 in
theorem gX4_cell_X4_isSort : GoodIn wsX4_cell (va_wsS RX4 69 yX4_isSort wsX4_isSort) := goodIn_app (goodIn_of _ (by decide +kernel)) ggX4_cell_X4_isSort
set_option maxRecDepth 20000 in
theorem ggX4_cell_X4_lost : GoodIn wsX4_cell wsX4_lost := goodIn_r _ [19, 1, 2, 20, 21, 22, 23, 24, 25, 26, 27, 28, 29, 30, 31, 32, 33, 34, 35, 36, 37, 38, 39, 40, 41, 42] (by decide +kernel) (by decide +kernel)
set_option maxRecDepth 20000 in
theorem gX4_cell_X4_lost : GoodIn wsX4_cell (wsV RX4 158 RX4 yX4_lost wsX4_lost) := goodIn_app (goodIn_of _ (by decide +kernel)) ggX4_cell_X4_lost
set_option maxRecDepth 20000 in
theorem ggX4_cell_X4_within : GoodIn wsX4_cell wsX4_within := goodIn_r _ [12] (by decide +kernel) (by decide +kernel)
set_option maxRecDepth 20000 in
theorem gX4_cell_X4_within : GoodIn wsX4_cell (va_wsS RX4 55 yX4_within wsX4_within) := goodIn_app (goodIn_of _ (by decide +kernel)) ggX4_cell_X4_within
theorem dX4_cell_0 : decode cX4_cell 0 = .ok (.aload_n 0, 1) := by decide +kernel
theorem dX4_cell_1 : decode cX4_cell 1 = .ok (.iconst 0, 1) := by decide +kernel
theorem dX4_cell_2 : decode cX4_cell 2 = .ok (.putfield 49, 3) := by decide +kernel
theorem dX4_cell_5 : decode cX4_cell 5 = .ok (.iload_n 1, 1) := by decide +kernel
theorem dX4_cell_6 : decode cX4_cell 6 = .ok (.invokestatic 65, 3) := by decide +kernel
theorem dX4_cell_9 : decode cX4_cell 9 = .ok (.ifCond .eq 10, 3) := by decide +kernel
theorem dX4_cell_12 : decode cX4_cell 12 = .ok (.iload_n 3, 1) := by decide +kernel
theorem dX4_cell_13 : decode cX4_cell 13 = .ok (.invokestatic 69, 3) := by decide +kernel
theorem dX4_cell_16 : decode cX4_cell 16 = .ok (.ifCond .ne 7, 3) := by decide +kernel
theorem dX4_cell_19 : decode cX4_cell 19 = .ok (.ldc2_w 53, 3) := by decide +kernel
theorem dX4_cell_22 : decode cX4_cell 22 = .ok (.lreturn, 1) := by decide +kernel
theorem dX4_cell_23 : decode cX4_cell 23 = .ok (.aload_n 0, 1) := by decide +kernel
theorem dX4_cell_24 : decode cX4_cell 24 = .ok (.getfield 9, 3) := by decide +kernel
theorem dX4_cell_27 : decode cX4_cell 27 = .ok (.iload_n 1, 1) := by decide +kernel
theorem dX4_cell_28 : decode cX4_cell 28 = .ok (.iaload, 1) := by decide +kernel
theorem dX4_cell_29 : decode cX4_cell 29 = .ok (.bipush (-9), 2) := by decide +kernel
theorem dX4_cell_31 : decode cX4_cell 31 = .ok (.if_icmp .eq 19, 3) := by decide +kernel
theorem dX4_cell_34 : decode cX4_cell 34 = .ok (.aload_n 0, 1) := by decide +kernel
theorem dX4_cell_35 : decode cX4_cell 35 = .ok (.getfield 9, 3) := by decide +kernel
theorem dX4_cell_38 : decode cX4_cell 38 = .ok (.iload_n 1, 1) := by decide +kernel
theorem dX4_cell_39 : decode cX4_cell 39 = .ok (.iaload, 1) := by decide +kernel
theorem dX4_cell_40 : decode cX4_cell 40 = .ok (.iload_n 3, 1) := by decide +kernel
theorem dX4_cell_41 : decode cX4_cell 41 = .ok (.if_icmp .eq 9, 3) := by decide +kernel
theorem dX4_cell_44 : decode cX4_cell 44 = .ok (.aload_n 0, 1) := by decide +kernel
theorem dX4_cell_45 : decode cX4_cell 45 = .ok (.iconst 2, 1) := by decide +kernel
theorem dX4_cell_46 : decode cX4_cell 46 = .ok (.invokevirtual 158, 3) := by decide +kernel
theorem dX4_cell_49 : decode cX4_cell 49 = .ok (.lreturn, 1) := by decide +kernel
theorem dX4_cell_50 : decode cX4_cell 50 = .ok (.aload_n 0, 1) := by decide +kernel
theorem dX4_cell_51 : decode cX4_cell 51 = .ok (.getfield 9, 3) := by decide +kernel
theorem dX4_cell_54 : decode cX4_cell 54 = .ok (.iload_n 1, 1) := by decide +kernel
theorem dX4_cell_55 : decode cX4_cell 55 = .ok (.iaload, 1) := by decide +kernel
theorem dX4_cell_56 : decode cX4_cell 56 = .ok (.bipush (-9), 2) := by decide +kernel
theorem dX4_cell_58 : decode cX4_cell 58 = .ok (.if_icmp .ne 9, 3) := by decide +kernel
theorem dX4_cell_61 : decode cX4_cell 61 = .ok (.aload_n 0, 1) := by decide +kernel
theorem dX4_cell_62 : decode cX4_cell 62 = .ok (.iconst 1, 1) := by decide +kernel
theorem dX4_cell_63 : decode cX4_cell 63 = .ok (.invokevirtual 158, 3) := by decide +kernel
theorem dX4_cell_66 : decode cX4_cell 66 = .ok (.lreturn, 1) := by decide +kernel
theorem dX4_cell_67 : decode cX4_cell 67 = .ok (.iload_n 2, 1) := by decide +kernel
theorem dX4_cell_68 : decode cX4_cell 68 = .ok (.iconst 0, 1) := by decide +kernel
theorem dX4_cell_69 : decode cX4_cell 69 = .ok (.aload_n 0, 1) := by decide +kernel
theorem dX4_cell_70 : decode cX4_cell 70 = .ok (.getfield 13, 3) := by decide +kernel
theorem dX4_cell_73 : decode cX4_cell 73 = .ok (.iload_n 1, 1) := by decide +kernel
theorem dX4_cell_74 : decode cX4_cell 74 = .ok (.iaload, 1) := by decide +kernel
theorem dX4_cell_75 : decode cX4_cell 75 = .ok (.iconst 1, 1) := by decide +kernel
theorem dX4_cell_76 : decode cX4_cell 76 = .ok (.isub, 1) := by decide +kernel
theorem dX4_cell_77 : decode cX4_cell 77 = .ok (.invokestatic 55, 3) := by decide +kernel
theorem dX4_cell_80 : decode cX4_cell 80 = .ok (.ifCond .ne 9, 3) := by decide +kernel
theorem dX4_cell_83 : decode cX4_cell 83 = .ok (.aload_n 0, 1) := by decide +kernel
theorem dX4_cell_84 : decode cX4_cell 84 = .ok (.iconst 3, 1) := by decide +kernel
theorem dX4_cell_85 : decode cX4_cell 85 = .ok (.invokevirtual 158, 3) := by decide +kernel
theorem dX4_cell_88 : decode cX4_cell 88 = .ok (.lreturn, 1) := by decide +kernel
theorem dX4_cell_89 : decode cX4_cell 89 = .ok (.aload_n 0, 1) := by decide +kernel
theorem dX4_cell_90 : decode cX4_cell 90 = .ok (.getfield 16, 3) := by decide +kernel
theorem dX4_cell_93 : decode cX4_cell 93 = .ok (.bipush 60, 2) := by decide +kernel
theorem dX4_cell_95 : decode cX4_cell 95 = .ok (.iload_n 1, 1) := by decide +kernel
theorem dX4_cell_96 : decode cX4_cell 96 = .ok (.imul, 1) := by decide +kernel
theorem dX4_cell_97 : decode cX4_cell 97 = .ok (.iload_n 2, 1) := by decide +kernel
theorem dX4_cell_98 : decode cX4_cell 98 = .ok (.iadd, 1) := by decide +kernel
theorem dX4_cell_99 : decode cX4_cell 99 = .ok (.iaload, 1) := by decide +kernel
theorem dX4_cell_100 : decode cX4_cell 100 = .ok (.i2l, 1) := by decide +kernel
theorem dX4_cell_101 : decode cX4_cell 101 = .ok (.lreturn, 1) := by decide +kernel
set_option maxRecDepth 20000 in
theorem ggX4_copy_X4_isSheet : GoodIn wsX4_copy wsX4_isSheet := goodIn_r _ [8, 9, 10, 7, 11] (by decide +kernel) (by decide +kernel)
set_option maxRecDepth 20000 in
theorem gX4_copy_X4_isSheet : GoodIn wsX4_copy (va_wsS RX4 65 yX4_isSheet wsX4_isSheet) := goodIn_app (goodIn_of _ (by decide +kernel)) ggX4_copy_X4_isSheet
set_option maxRecDepth 20000 in
theorem ggX4_copy_X4_fails : GoodIn wsX4_copy wsX4_fails := goodIn_r _ [15, 1, 16, 17, 18, 19, 20, 21, 22, 23, 24, 25, 26, 27, 28, 29, 30, 31, 32, 33, 34, 35, 36, 37, 38] (by decide +kernel) (by decide +kernel)
set_option maxRecDepth 20000 in
theorem gX4_copy_X4_fails : GoodIn wsX4_copy (wsV RX4 76 RX4 yX4_fails wsX4_fails) := goodIn_app (goodIn_of _ (by decide +kernel)) ggX4_copy_X4_fails
theorem dX4_copy_0 : decode cX4_copy 0 = .ok (.aload_n 0, 1) := by decide +kernel
theorem dX4_copy_1 : decode cX4_copy 1 = .ok (.iconst 0, 1) := by decide +kernel
theorem dX4_copy_2 : decode cX4_copy 2 = .ok (.putfield 49, 3) := by decide +kernel
theorem dX4_copy_5 : decode cX4_copy 5 = .ok (.iload_n 1, 1) := by decide +kernel
theorem dX4_copy_6 : decode cX4_copy 6 = .ok (.invokestatic 65, 3) := by decide +kernel
theorem dX4_copy_9 : decode cX4_copy 9 = .ok (.ifCond .eq 10, 3) := by decide +kernel
theorem dX4_copy_12 : decode cX4_copy 12 = .ok (.iload_n 3, 1) := by decide +kernel
theorem dX4_copy_13 : decode cX4_copy 13 = .ok (.invokestatic 65, 3) := by decide +kernel
theorem dX4_copy_16 : decode cX4_copy 16 = .ok (.ifCond .ne 5, 3) := by decide +kernel
theorem dX4_copy_19 : decode cX4_copy 19 = .ok (.iconst (-1), 1) := by decide +kernel
theorem dX4_copy_20 : decode cX4_copy 20 = .ok (.ireturn, 1) := by decide +kernel
theorem dX4_copy_21 : decode cX4_copy 21 = .ok (.aload_n 0, 1) := by decide +kernel
theorem dX4_copy_22 : decode cX4_copy 22 = .ok (.getfield 9, 3) := by decide +kernel
theorem dX4_copy_25 : decode cX4_copy 25 = .ok (.iload_n 1, 1) := by decide +kernel
theorem dX4_copy_26 : decode cX4_copy 26 = .ok (.iaload, 1) := by decide +kernel
theorem dX4_copy_27 : decode cX4_copy 27 = .ok (.bipush (-9), 2) := by decide +kernel
theorem dX4_copy_29 : decode cX4_copy 29 = .ok (.if_icmp .eq 14, 3) := by decide +kernel
theorem dX4_copy_32 : decode cX4_copy 32 = .ok (.aload_n 0, 1) := by decide +kernel
theorem dX4_copy_33 : decode cX4_copy 33 = .ok (.getfield 9, 3) := by decide +kernel
theorem dX4_copy_36 : decode cX4_copy 36 = .ok (.iload_n 3, 1) := by decide +kernel
theorem dX4_copy_37 : decode cX4_copy 37 = .ok (.iaload, 1) := by decide +kernel
theorem dX4_copy_38 : decode cX4_copy 38 = .ok (.bipush (-9), 2) := by decide +kernel
theorem dX4_copy_40 : decode cX4_copy 40 = .ok (.if_icmp .ne 9, 3) := by decide +kernel
theorem dX4_copy_43 : decode cX4_copy 43 = .ok (.aload_n 0, 1) := by decide +kernel
theorem dX4_copy_44 : decode cX4_copy 44 = .ok (.iconst 1, 1) := by decide +kernel
theorem dX4_copy_45 : decode cX4_copy 45 = .ok (.invokevirtual 76, 3) := by decide +kernel
theorem dX4_copy_48 : decode cX4_copy 48 = .ok (.ireturn, 1) := by decide +kernel
theorem dX4_copy_49 : decode cX4_copy 49 = .ok (.aload_n 0, 1) := by decide +kernel
theorem dX4_copy_50 : decode cX4_copy 50 = .ok (.getfield 9, 3) := by decide +kernel
theorem dX4_copy_53 : decode cX4_copy 53 = .ok (.iload_n 1, 1) := by decide +kernel
theorem dX4_copy_54 : decode cX4_copy 54 = .ok (.iaload, 1) := by decide +kernel
theorem dX4_copy_55 : decode cX4_copy 55 = .ok (.aload_n 0, 1) := by decide +kernel
theorem dX4_copy_56 : decode cX4_copy 56 = .ok (.getfield 9, 3) := by decide +kernel
theorem dX4_copy_59 : decode cX4_copy 59 = .ok (.iload_n 3, 1) := by decide +kernel
theorem dX4_copy_60 : decode cX4_copy 60 = .ok (.iaload, 1) := by decide +kernel
theorem dX4_copy_61 : decode cX4_copy 61 = .ok (.if_icmp .eq 9, 3) := by decide +kernel
theorem dX4_copy_64 : decode cX4_copy 64 = .ok (.aload_n 0, 1) := by decide +kernel
theorem dX4_copy_65 : decode cX4_copy 65 = .ok (.iconst 2, 1) := by decide +kernel
theorem dX4_copy_66 : decode cX4_copy 66 = .ok (.invokevirtual 76, 3) := by decide +kernel
theorem dX4_copy_69 : decode cX4_copy 69 = .ok (.ireturn, 1) := by decide +kernel
theorem dX4_copy_70 : decode cX4_copy 70 = .ok (.iload_n 2, 1) := by decide +kernel
theorem dX4_copy_71 : decode cX4_copy 71 = .ok (.ifCond .lt 38, 3) := by decide +kernel
theorem dX4_copy_74 : decode cX4_copy 74 = .ok (.iload 4, 2) := by decide +kernel
theorem dX4_copy_76 : decode cX4_copy 76 = .ok (.ifCond .lt 33, 3) := by decide +kernel
theorem dX4_copy_79 : decode cX4_copy 79 = .ok (.iload 5, 2) := by decide +kernel
theorem dX4_copy_81 : decode cX4_copy 81 = .ok (.ifCond .lt 28, 3) := by decide +kernel
theorem dX4_copy_84 : decode cX4_copy 84 = .ok (.iload_n 2, 1) := by decide +kernel
theorem dX4_copy_85 : decode cX4_copy 85 = .ok (.aload_n 0, 1) := by decide +kernel
theorem dX4_copy_86 : decode cX4_copy 86 = .ok (.getfield 13, 3) := by decide +kernel
theorem dX4_copy_89 : decode cX4_copy 89 = .ok (.iload_n 1, 1) := by decide +kernel
theorem dX4_copy_90 : decode cX4_copy 90 = .ok (.iaload, 1) := by decide +kernel
theorem dX4_copy_91 : decode cX4_copy 91 = .ok (.if_icmp .gt 18, 3) := by decide +kernel
theorem dX4_copy_94 : decode cX4_copy 94 = .ok (.iload 4, 2) := by decide +kernel
theorem dX4_copy_96 : decode cX4_copy 96 = .ok (.aload_n 0, 1) := by decide +kernel
theorem dX4_copy_97 : decode cX4_copy 97 = .ok (.getfield 13, 3) := by decide +kernel
theorem dX4_copy_100 : decode cX4_copy 100 = .ok (.iload_n 3, 1) := by decide +kernel
theorem dX4_copy_101 : decode cX4_copy 101 = .ok (.iaload, 1) := by decide +kernel
theorem dX4_copy_102 : decode cX4_copy 102 = .ok (.if_icmp .gt 7, 3) := by decide +kernel
theorem dX4_copy_105 : decode cX4_copy 105 = .ok (.iconst 1, 1) := by decide +kernel
theorem dX4_copy_106 : decode cX4_copy 106 = .ok (.goto 4, 3) := by decide +kernel
theorem dX4_copy_109 : decode cX4_copy 109 = .ok (.iconst 0, 1) := by decide +kernel
theorem dX4_copy_110 : decode cX4_copy 110 = .ok (.istore 6, 2) := by decide +kernel
theorem dX4_copy_112 : decode cX4_copy 112 = .ok (.iload 6, 2) := by decide +kernel
theorem dX4_copy_114 : decode cX4_copy 114 = .ok (.ifCond .eq 30, 3) := by decide +kernel
theorem dX4_copy_117 : decode cX4_copy 117 = .ok (.iload 5, 2) := by decide +kernel
theorem dX4_copy_119 : decode cX4_copy 119 = .ok (.aload_n 0, 1) := by decide +kernel
theorem dX4_copy_120 : decode cX4_copy 120 = .ok (.getfield 13, 3) := by decide +kernel
theorem dX4_copy_123 : decode cX4_copy 123 = .ok (.iload_n 1, 1) := by decide +kernel
theorem dX4_copy_124 : decode cX4_copy 124 = .ok (.iaload, 1) := by decide +kernel
theorem dX4_copy_125 : decode cX4_copy 125 = .ok (.iload_n 2, 1) := by decide +kernel
theorem dX4_copy_126 : decode cX4_copy 126 = .ok (.isub, 1) := by decide +kernel
theorem dX4_copy_127 : decode cX4_copy 127 = .ok (.if_icmp .gt 17, 3) := by decide +kernel
theorem dX4_copy_130 : decode cX4_copy 130 = .ok (.iload 5, 2) := by decide +kernel
theorem dX4_copy_132 : decode cX4_copy 132 = .ok (.aload_n 0, 1) := by decide +kernel
theorem dX4_copy_133 : decode cX4_copy 133 = .ok (.getfield 13, 3) := by decide +kernel
theorem dX4_copy_136 : decode cX4_copy 136 = .ok (.iload_n 3, 1) := by decide +kernel
theorem dX4_copy_137 : decode cX4_copy 137 = .ok (.iaload, 1) := by decide +kernel
theorem dX4_copy_138 : decode cX4_copy 138 = .ok (.iload 4, 2) := by decide +kernel
theorem dX4_copy_140 : decode cX4_copy 140 = .ok (.isub, 1) := by decide +kernel
theorem dX4_copy_141 : decode cX4_copy 141 = .ok (.if_icmp .le 9, 3) := by decide +kernel
theorem dX4_copy_144 : decode cX4_copy 144 = .ok (.aload_n 0, 1) := by decide +kernel
theorem dX4_copy_145 : decode cX4_copy 145 = .ok (.iconst 3, 1) := by decide +kernel
theorem dX4_copy_146 : decode cX4_copy 146 = .ok (.invokevirtual 76, 3) := by decide +kernel
theorem dX4_copy_149 : decode cX4_copy 149 = .ok (.ireturn, 1) := by decide +kernel
theorem dX4_copy_150 : decode cX4_copy 150 = .ok (.iload_n 2, 1) := by decide +kernel
theorem dX4_copy_151 : decode cX4_copy 151 = .ok (.iload 4, 2) := by decide +kernel
theorem dX4_copy_153 : decode cX4_copy 153 = .ok (.if_icmp .ge 7, 3) := by decide +kernel
theorem dX4_copy_156 : decode cX4_copy 156 = .ok (.iconst 1, 1) := by decide +kernel
theorem dX4_copy_157 : decode cX4_copy 157 = .ok (.goto 4, 3) := by decide +kernel
theorem dX4_copy_160 : decode cX4_copy 160 = .ok (.iconst 0, 1) := by decide +kernel
theorem dX4_copy_161 : decode cX4_copy 161 = .ok (.istore 7, 2) := by decide +kernel
theorem dX4_copy_163 : decode cX4_copy 163 = .ok (.iconst 0, 1) := by decide +kernel
theorem dX4_copy_164 : decode cX4_copy 164 = .ok (.istore 8, 2) := by decide +kernel
theorem dX4_copy_166 : decode cX4_copy 166 = .ok (.iload 8, 2) := by decide +kernel
theorem dX4_copy_168 : decode cX4_copy 168 = .ok (.iload 5, 2) := by decide +kernel
theorem dX4_copy_170 : decode cX4_copy 170 = .ok (.if_icmp .ge 57, 3) := by decide +kernel
theorem dX4_copy_173 : decode cX4_copy 173 = .ok (.iload 7, 2) := by decide +kernel
theorem dX4_copy_175 : decode cX4_copy 175 = .ok (.ifCond .eq 13, 3) := by decide +kernel
theorem dX4_copy_178 : decode cX4_copy 178 = .ok (.iload 5, 2) := by decide +kernel
theorem dX4_copy_180 : decode cX4_copy 180 = .ok (.iconst 1, 1) := by decide +kernel
theorem dX4_copy_181 : decode cX4_copy 181 = .ok (.isub, 1) := by decide +kernel
theorem dX4_copy_182 : decode cX4_copy 182 = .ok (.iload 8, 2) := by decide +kernel
theorem dX4_copy_184 : decode cX4_copy 184 = .ok (.isub, 1) := by decide +kernel
theorem dX4_copy_185 : decode cX4_copy 185 = .ok (.goto 5, 3) := by decide +kernel
theorem dX4_copy_188 : decode cX4_copy 188 = .ok (.iload 8, 2) := by decide +kernel
theorem dX4_copy_190 : decode cX4_copy 190 = .ok (.istore 9, 2) := by decide +kernel
theorem dX4_copy_192 : decode cX4_copy 192 = .ok (.aload_n 0, 1) := by decide +kernel
theorem dX4_copy_193 : decode cX4_copy 193 = .ok (.getfield 16, 3) := by decide +kernel
theorem dX4_copy_196 : decode cX4_copy 196 = .ok (.bipush 60, 2) := by decide +kernel
theorem dX4_copy_198 : decode cX4_copy 198 = .ok (.iload_n 3, 1) := by decide +kernel
theorem dX4_copy_199 : decode cX4_copy 199 = .ok (.imul, 1) := by decide +kernel
theorem dX4_copy_200 : decode cX4_copy 200 = .ok (.iload 4, 2) := by decide +kernel
theorem dX4_copy_202 : decode cX4_copy 202 = .ok (.iadd, 1) := by decide +kernel
theorem dX4_copy_203 : decode cX4_copy 203 = .ok (.iload 9, 2) := by decide +kernel
theorem dX4_copy_205 : decode cX4_copy 205 = .ok (.iadd, 1) := by decide +kernel
theorem dX4_copy_206 : decode cX4_copy 206 = .ok (.aload_n 0, 1) := by decide +kernel
theorem dX4_copy_207 : decode cX4_copy 207 = .ok (.getfield 16, 3) := by decide +kernel
theorem dX4_copy_210 : decode cX4_copy 210 = .ok (.bipush 60, 2) := by decide +kernel
theorem dX4_copy_212 : decode cX4_copy 212 = .ok (.iload_n 1, 1) := by decide +kernel
theorem dX4_copy_213 : decode cX4_copy 213 = .ok (.imul, 1) := by decide +kernel
theorem dX4_copy_214 : decode cX4_copy 214 = .ok (.iload_n 2, 1) := by decide +kernel
theorem dX4_copy_215 : decode cX4_copy 215 = .ok (.iadd, 1) := by decide +kernel
theorem dX4_copy_216 : decode cX4_copy 216 = .ok (.iload 9, 2) := by decide +kernel
theorem dX4_copy_218 : decode cX4_copy 218 = .ok (.iadd, 1) := by decide +kernel
theorem dX4_copy_219 : decode cX4_copy 219 = .ok (.iaload, 1) := by decide +kernel
theorem dX4_copy_220 : decode cX4_copy 220 = .ok (.iastore, 1) := by decide +kernel
theorem dX4_copy_221 : decode cX4_copy 221 = .ok (.iinc 8 1, 3) := by decide +kernel
theorem dX4_copy_224 : decode cX4_copy 224 = .ok (.goto (-58), 3) := by decide +kernel
theorem dX4_copy_227 : decode cX4_copy 227 = .ok (.iload 5, 2) := by decide +kernel
theorem dX4_copy_229 : decode cX4_copy 229 = .ok (.ireturn, 1) := by decide +kernel
theorem dX4_begins_0 : decode cX4_begins 0 = .ok (.aload_n 0, 1) := by decide +kernel
theorem dX4_begins_1 : decode cX4_begins 1 = .ok (.bipush 31, 2) := by decide +kernel
theorem dX4_begins_3 : decode cX4_begins 3 = .ok (.aload_n 0, 1) := by decide +kernel
theorem dX4_begins_4 : decode cX4_begins 4 = .ok (.getfield 162, 3) := by decide +kernel
theorem dX4_begins_7 : decode cX4_begins 7 = .ok (.imul, 1) := by decide +kernel
theorem dX4_begins_8 : decode cX4_begins 8 = .ok (.iload_n 1, 1) := by decide +kernel
theorem dX4_begins_9 : decode cX4_begins 9 = .ok (.iadd, 1) := by decide +kernel
theorem dX4_begins_10 : decode cX4_begins 10 = .ok (.putfield 162, 3) := by decide +kernel
theorem dX4_begins_13 : decode cX4_begins 13 = .ok (.return_, 1) := by decide +kernel
set_option maxRecDepth 20000 in
theorem ggX4_tell_X4_isAnswer : GoodIn wsX4_tell wsX4_isAnswer := goodIn_r _ [7, 8, 14, 15, 16, 17, 18, 19, 20, 21, 22, 23, 24, 25, 26, 27, 28, 29, 30, 31, 32, 33, 34, 35, 36] (by decide +kernel) (by decide +kernel)
set_option maxRecDepth 20000 in
theorem gX4_tell_X4_isAnswer : GoodIn wsX4_tell (wsV RX4 115 RX4 yX4_isAnswer wsX4_isAnswer) := goodIn_app (goodIn_of _ (by decide +kernel)) ggX4_tell_X4_isAnswer
set_option maxRecDepth 20000 in
theorem ggX4_tell_X4_begins : GoodIn wsX4_tell wsX4_begins := goodIn_r _ [12, 13, 14, 15, 16, 17, 18, 19, 20, 21, 22, 23, 24, 25, 26, 27, 28, 29, 30, 31, 32, 33, 34, 35, 36] (by decide +kernel) (by decide +kernel)
set_option maxRecDepth 20000 in
theorem gX4_tell_X4_begins : GoodIn wsX4_tell (wsV RX4 165 RX4 yX4_begins wsX4_begins) := goodIn_app (goodIn_of _ (by decide +kernel)) ggX4_tell_X4_begins
theorem dX4_tell_0 : decode cX4_tell 0 = .ok (.aload_n 0, 1) := by decide +kernel
theorem dX4_tell_1 : decode cX4_tell 1 = .ok (.iload_n 1, 1) := by decide +kernel
theorem dX4_tell_2 : decode cX4_tell 2 = .ok (.invokevirtual 115, 3) := by decide +kernel
theorem dX4_tell_5 : decode cX4_tell 5 = .ok (.ifCond .ne 5, 3) := by decide +kernel
theorem dX4_tell_8 : decode cX4_tell 8 = .ok (.iconst (-1), 1) := by decide +kernel
theorem dX4_tell_9 : decode cX4_tell 9 = .ok (.ireturn, 1) := by decide +kernel
theorem dX4_tell_10 : decode cX4_tell 10 = .ok (.aload_n 0, 1) := by decide +kernel
theorem dX4_tell_11 : decode cX4_tell 11 = .ok (.getfield 22, 3) := by decide +kernel
theorem dX4_tell_14 : decode cX4_tell 14 = .ok (.iload_n 1, 1) := by decide +kernel
theorem dX4_tell_15 : decode cX4_tell 15 = .ok (.iaload, 1) := by decide +kernel
theorem dX4_tell_16 : decode cX4_tell 16 = .ok (.istore_n 2, 1) := by decide +kernel
theorem dX4_tell_17 : decode cX4_tell 17 = .ok (.aload_n 0, 1) := by decide +kernel
theorem dX4_tell_18 : decode cX4_tell 18 = .ok (.getfield 19, 3) := by decide +kernel
theorem dX4_tell_21 : decode cX4_tell 21 = .ok (.iload_n 1, 1) := by decide +kernel
theorem dX4_tell_22 : decode cX4_tell 22 = .ok (.iaload, 1) := by decide +kernel
theorem dX4_tell_23 : decode cX4_tell 23 = .ok (.lookupswitch 67 #[(1, 25), (2, 40)], 25) := by decide +kernel
theorem dX4_tell_48 : decode cX4_tell 48 = .ok (.aload_n 0, 1) := by decide +kernel
theorem dX4_tell_49 : decode cX4_tell 49 = .ok (.iconst 2, 1) := by decide +kernel
theorem dX4_tell_50 : decode cX4_tell 50 = .ok (.invokevirtual 165, 3) := by decide +kernel
theorem dX4_tell_53 : decode cX4_tell 53 = .ok (.aload_n 0, 1) := by decide +kernel
theorem dX4_tell_54 : decode cX4_tell 54 = .ok (.iconst 1, 1) := by decide +kernel
theorem dX4_tell_55 : decode cX4_tell 55 = .ok (.invokevirtual 165, 3) := by decide +kernel
theorem dX4_tell_58 : decode cX4_tell 58 = .ok (.iload_n 2, 1) := by decide +kernel
theorem dX4_tell_59 : decode cX4_tell 59 = .ok (.bipush 100, 2) := by decide +kernel
theorem dX4_tell_61 : decode cX4_tell 61 = .ok (.iadd, 1) := by decide +kernel
theorem dX4_tell_62 : decode cX4_tell 62 = .ok (.ireturn, 1) := by decide +kernel
theorem dX4_tell_63 : decode cX4_tell 63 = .ok (.aload_n 0, 1) := by decide +kernel
theorem dX4_tell_64 : decode cX4_tell 64 = .ok (.iconst 3, 1) := by decide +kernel
theorem dX4_tell_65 : decode cX4_tell 65 = .ok (.invokevirtual 165, 3) := by decide +kernel
theorem dX4_tell_68 : decode cX4_tell 68 = .ok (.aload_n 0, 1) := by decide +kernel
theorem dX4_tell_69 : decode cX4_tell 69 = .ok (.iconst 2, 1) := by decide +kernel
theorem dX4_tell_70 : decode cX4_tell 70 = .ok (.invokevirtual 165, 3) := by decide +kernel
theorem dX4_tell_73 : decode cX4_tell 73 = .ok (.aload_n 0, 1) := by decide +kernel
theorem dX4_tell_74 : decode cX4_tell 74 = .ok (.iconst 1, 1) := by decide +kernel
theorem dX4_tell_75 : decode cX4_tell 75 = .ok (.invokevirtual 165, 3) := by decide +kernel
theorem dX4_tell_78 : decode cX4_tell 78 = .ok (.aload_n 0, 1) := by decide +kernel
theorem dX4_tell_79 : decode cX4_tell 79 = .ok (.iconst 1, 1) := by decide +kernel
theorem dX4_tell_80 : decode cX4_tell 80 = .ok (.invokevirtual 165, 3) := by decide +kernel
theorem dX4_tell_83 : decode cX4_tell 83 = .ok (.iconst 2, 1) := by decide +kernel
theorem dX4_tell_84 : decode cX4_tell 84 = .ok (.iload_n 2, 1) := by decide +kernel
theorem dX4_tell_85 : decode cX4_tell 85 = .ok (.imul, 1) := by decide +kernel
theorem dX4_tell_86 : decode cX4_tell 86 = .ok (.bipush 100, 2) := by decide +kernel
theorem dX4_tell_88 : decode cX4_tell 88 = .ok (.iadd, 1) := by decide +kernel
theorem dX4_tell_89 : decode cX4_tell 89 = .ok (.ireturn, 1) := by decide +kernel
theorem dX4_tell_90 : decode cX4_tell 90 = .ok (.aload_n 0, 1) := by decide +kernel
theorem dX4_tell_91 : decode cX4_tell 91 = .ok (.iconst 1, 1) := by decide +kernel
theorem dX4_tell_92 : decode cX4_tell 92 = .ok (.invokevirtual 165, 3) := by decide +kernel
theorem dX4_tell_95 : decode cX4_tell 95 = .ok (.iload_n 2, 1) := by decide +kernel
theorem dX4_tell_96 : decode cX4_tell 96 = .ok (.ireturn, 1) := by decide +kernel
set_option maxRecDepth 20000 in
theorem ggX4_whisper_X4_isAnswer : GoodIn wsX4_whisper wsX4_isAnswer := goodIn_r _ [6, 7, 13, 14, 15, 16, 17, 18, 19, 20, 21, 22, 23, 24, 25, 26, 27, 28, 29, 30, 31, 32, 33, 34, 35] (by decide +kernel) (by decide +kernel)
set_option maxRecDepth 20000 in
theorem gX4_whisper_X4_isAnswer : GoodIn wsX4_whisper (wsV RX4 115 RX4 yX4_isAnswer wsX4_isAnswer) := goodIn_app (goodIn_of _ (by decide +kernel)) ggX4_whisper_X4_isAnswer
set_option maxRecDepth 20000 in
theorem ggX4_whisper_X4_begins : GoodIn wsX4_whisper wsX4_begins := goodIn_r _ [11, 12, 13, 14, 15, 16, 17, 18, 19, 20, 21, 22, 23, 24, 25, 26, 27, 28, 29, 30, 31, 32, 33, 34, 35] (by decide +kernel) (by decide +kernel)
set_option maxRecDepth 20000 in
theorem gX4_whisper_X4_begins : GoodIn wsX4_whisper (wsV RX4 165 RX4 yX4_begins wsX4_begins) := goodIn_app (goodIn_of _ (by decide +kernel)) ggX4_whisper_X4_begins
theorem dX4_whisper_0 : decode cX4_whisper 0 = .ok (.aload_n 0, 1) := by decide +kernel
theorem dX4_whisper_1 : decode cX4_whisper 1 = .ok (.iload_n 1, 1) := by decide +kernel
theorem dX4_whisper_2 : decode cX4_whisper 2 = .ok (.invokevirtual 115, 3) := by decide +kernel
theorem dX4_whisper_5 : decode cX4_whisper 5 = .ok (.ifCond .ne 5, 3) := by decide +kernel
theorem dX4_whisper_8 : decode cX4_whisper 8 = .ok (.iconst (-1), 1) := by decide +kernel
theorem dX4_whisper_9 : decode cX4_whisper 9 = .ok (.ireturn, 1) := by decide +kernel
theorem dX4_whisper_10 : decode cX4_whisper 10 = .ok (.aload_n 0, 1) := by decide +kernel
theorem dX4_whisper_11 : decode cX4_whisper 11 = .ok (.aload_n 0, 1) := by decide +kernel
theorem dX4_whisper_12 : decode cX4_whisper 12 = .ok (.getfield 19, 3) := by decide +kernel
theorem dX4_whisper_15 : decode cX4_whisper 15 = .ok (.iload_n 1, 1) := by decide +kernel
theorem dX4_whisper_16 : decode cX4_whisper 16 = .ok (.iaload, 1) := by decide +kernel
theorem dX4_whisper_17 : decode cX4_whisper 17 = .ok (.iconst 2, 1) := by decide +kernel
theorem dX4_whisper_18 : decode cX4_whisper 18 = .ok (.if_icmp .ne 7, 3) := by decide +kernel
theorem dX4_whisper_21 : decode cX4_whisper 21 = .ok (.iconst 5, 1) := by decide +kernel
theorem dX4_whisper_22 : decode cX4_whisper 22 = .ok (.goto 4, 3) := by decide +kernel
theorem dX4_whisper_25 : decode cX4_whisper 25 = .ok (.iconst 4, 1) := by decide +kernel
theorem dX4_whisper_26 : decode cX4_whisper 26 = .ok (.invokevirtual 165, 3) := by decide +kernel
theorem dX4_whisper_29 : decode cX4_whisper 29 = .ok (.aload_n 0, 1) := by decide +kernel
theorem dX4_whisper_30 : decode cX4_whisper 30 = .ok (.getfield 19, 3) := by decide +kernel
theorem dX4_whisper_33 : decode cX4_whisper 33 = .ok (.iload_n 1, 1) := by decide +kernel
theorem dX4_whisper_34 : decode cX4_whisper 34 = .ok (.iaload, 1) := by decide +kernel
theorem dX4_whisper_35 : decode cX4_whisper 35 = .ok (.iconst 2, 1) := by decide +kernel
theorem dX4_whisper_36 : decode cX4_whisper 36 = .ok (.if_icmp .ne 8, 3) := by decide +kernel
theorem dX4_whisper_39 : decode cX4_whisper 39 = .ok (.bipush 40, 2) := by decide +kernel
theorem dX4_whisper_41 : decode cX4_whisper 41 = .ok (.goto 4, 3) := by decide +kernel
theorem dX4_whisper_44 : decode cX4_whisper 44 = .ok (.iload_n 1, 1) := by decide +kernel
theorem dX4_whisper_45 : decode cX4_whisper 45 = .ok (.ireturn, 1) := by decide +kernel
set_option maxRecDepth 20000 in
theorem ggX4_as_X4_isAnswer : GoodIn wsX4_as wsX4_isAnswer := goodIn_r _ [7, 8, 16, 17, 18, 19, 20, 21, 22, 23, 24, 25, 26, 27, 28, 29, 30, 31, 32, 33, 34, 35, 36, 37, 38] (by decide +kernel) (by decide +kernel)
set_option maxRecDepth 20000 in
theorem gX4_as_X4_isAnswer : GoodIn wsX4_as (wsV RX4 115 RX4 yX4_isAnswer wsX4_isAnswer) := goodIn_app (goodIn_of _ (by decide +kernel)) ggX4_as_X4_isAnswer
set_option maxRecDepth 20000 in
theorem ggX4_as_X4_within : GoodIn wsX4_as wsX4_within := goodIn_r _ [11] (by decide +kernel) (by decide +kernel)
set_option maxRecDepth 20000 in
theorem gX4_as_X4_within : GoodIn wsX4_as (va_wsS RX4 55 yX4_within wsX4_within) := goodIn_app (goodIn_of _ (by decide +kernel)) ggX4_as_X4_within
set_option maxRecDepth 20000 in
theorem ggX4_as_X4_fails : GoodIn wsX4_as wsX4_fails := goodIn_r _ [15, 1, 16, 17, 18, 19, 20, 21, 22, 23, 24, 25, 26, 27, 28, 29, 30, 31, 32, 33, 34, 35, 36, 37, 38] (by decide +kernel) (by decide +kernel)
set_option maxRecDepth 20000 in
theorem gX4_as_X4_fails : GoodIn wsX4_as (wsV RX4 76 RX4 yX4_fails wsX4_fails) := goodIn_app (goodIn_of _ (by decide +kernel)) ggX4_as_X4_fails
theorem dX4_as_0 : decode cX4_as 0 = .ok (.aload_n 0, 1) := by decide +kernel
theorem dX4_as_1 : decode cX4_as 1 = .ok (.iconst 0, 1) := by decide +kernel
theorem dX4_as_2 : decode cX4_as 2 = .ok (.putfield 49, 3) := by decide +kernel
theorem dX4_as_5 : decode cX4_as 5 = .ok (.aload_n 0, 1) := by decide +kernel
theorem dX4_as_6 : decode cX4_as 6 = .ok (.iload_n 1, 1) := by decide +kernel
theorem dX4_as_7 : decode cX4_as 7 = .ok (.invokevirtual 115, 3) := by decide +kernel
theorem dX4_as_10 : decode cX4_as 10 = .ok (.ifCond .ne 5, 3) := by decide +kernel
theorem dX4_as_13 : decode cX4_as 13 = .ok (.iconst (-1), 1) := by decide +kernel
theorem dX4_as_14 : decode cX4_as 14 = .ok (.ireturn, 1) := by decide +kernel
theorem dX4_as_15 : decode cX4_as 15 = .ok (.iload_n 2, 1) := by decide +kernel
theorem dX4_as_16 : decode cX4_as 16 = .ok (.iconst 0, 1) := by decide +kernel
theorem dX4_as_17 : decode cX4_as 17 = .ok (.iconst 2, 1) := by decide +kernel
theorem dX4_as_18 : decode cX4_as 18 = .ok (.invokestatic 55, 3) := by decide +kernel
theorem dX4_as_21 : decode cX4_as 21 = .ok (.ifCond .ne 6, 3) := by decide +kernel
theorem dX4_as_24 : decode cX4_as 24 = .ok (.bipush (-2), 2) := by decide +kernel
theorem dX4_as_26 : decode cX4_as 26 = .ok (.ireturn, 1) := by decide +kernel
theorem dX4_as_27 : decode cX4_as 27 = .ok (.aload_n 0, 1) := by decide +kernel
theorem dX4_as_28 : decode cX4_as 28 = .ok (.getfield 19, 3) := by decide +kernel
theorem dX4_as_31 : decode cX4_as 31 = .ok (.iload_n 1, 1) := by decide +kernel
theorem dX4_as_32 : decode cX4_as 32 = .ok (.iaload, 1) := by decide +kernel
theorem dX4_as_33 : decode cX4_as 33 = .ok (.iload_n 2, 1) := by decide +kernel
theorem dX4_as_34 : decode cX4_as 34 = .ok (.if_icmp .lt 7, 3) := by decide +kernel
theorem dX4_as_37 : decode cX4_as 37 = .ok (.iconst 1, 1) := by decide +kernel
theorem dX4_as_38 : decode cX4_as 38 = .ok (.goto 8, 3) := by decide +kernel
theorem dX4_as_41 : decode cX4_as 41 = .ok (.aload_n 0, 1) := by decide +kernel
theorem dX4_as_42 : decode cX4_as 42 = .ok (.iconst 2, 1) := by decide +kernel
theorem dX4_as_43 : decode cX4_as 43 = .ok (.invokevirtual 76, 3) := by decide +kernel
theorem dX4_as_46 : decode cX4_as 46 = .ok (.ireturn, 1) := by decide +kernel
theorem dX4_trace_0 : decode cX4_trace 0 = .ok (.aload_n 0, 1) := by decide +kernel
theorem dX4_trace_1 : decode cX4_trace 1 = .ok (.getfield 162, 3) := by decide +kernel
theorem dX4_trace_4 : decode cX4_trace 4 = .ok (.ireturn, 1) := by decide +kernel
theorem dX4_fault_0 : decode cX4_fault 0 = .ok (.aload_n 0, 1) := by decide +kernel
theorem dX4_fault_1 : decode cX4_fault 1 = .ok (.getfield 49, 3) := by decide +kernel
theorem dX4_fault_4 : decode cX4_fault 4 = .ok (.ireturn, 1) := by decide +kernel
theorem dX4_many_0 : decode cX4_many 0 = .ok (.iload_n 1, 1) := by decide +kernel
theorem dX4_many_1 : decode cX4_many 1 = .ok (.ifCond .ne 10, 3) := by decide +kernel
theorem dX4_many_4 : decode cX4_many 4 = .ok (.aload_n 0, 1) := by decide +kernel
theorem dX4_many_5 : decode cX4_many 5 = .ok (.getfield 59, 3) := by decide +kernel
theorem dX4_many_8 : decode cX4_many 8 = .ok (.goto 41, 3) := by decide +kernel
theorem dX4_many_11 : decode cX4_many 11 = .ok (.iload_n 1, 1) := by decide +kernel
theorem dX4_many_12 : decode cX4_many 12 = .ok (.iconst 1, 1) := by decide +kernel
theorem dX4_many_13 : decode cX4_many 13 = .ok (.if_icmp .ne 10, 3) := by decide +kernel
theorem dX4_many_16 : decode cX4_many 16 = .ok (.aload_n 0, 1) := by decide +kernel
theorem dX4_many_17 : decode cX4_many 17 = .ok (.getfield 95, 3) := by decide +kernel
theorem dX4_many_20 : decode cX4_many 20 = .ok (.goto 29, 3) := by decide +kernel
theorem dX4_many_23 : decode cX4_many 23 = .ok (.iload_n 1, 1) := by decide +kernel
theorem dX4_many_24 : decode cX4_many 24 = .ok (.iconst 2, 1) := by decide +kernel
theorem dX4_many_25 : decode cX4_many 25 = .ok (.if_icmp .ne 10, 3) := by decide +kernel
theorem dX4_many_28 : decode cX4_many 28 = .ok (.aload_n 0, 1) := by decide +kernel
theorem dX4_many_29 : decode cX4_many 29 = .ok (.getfield 89, 3) := by decide +kernel
theorem dX4_many_32 : decode cX4_many 32 = .ok (.goto 17, 3) := by decide +kernel
theorem dX4_many_35 : decode cX4_many 35 = .ok (.iload_n 1, 1) := by decide +kernel
theorem dX4_many_36 : decode cX4_many 36 = .ok (.iconst 3, 1) := by decide +kernel
theorem dX4_many_37 : decode cX4_many 37 = .ok (.if_icmp .ne 10, 3) := by decide +kernel
theorem dX4_many_40 : decode cX4_many 40 = .ok (.aload_n 0, 1) := by decide +kernel
theorem dX4_many_41 : decode cX4_many 41 = .ok (.getfield 98, 3) := by decide +kernel
theorem dX4_many_44 : decode cX4_many 44 = .ok (.goto 5, 3) := by decide +kernel
theorem dX4_many_47 : decode cX4_many 47 = .ok (.bipush (-2), 2) := by decide +kernel
theorem dX4_many_49 : decode cX4_many 49 = .ok (.ireturn, 1) := by decide +kernel
theorem dJ6_bitCount_0f7a4_0 : decode cJ6_bitCount_0f7a4 0 = .ok (.iload_n 0, 1) := by decide +kernel
theorem dJ6_bitCount_0f7a4_1 : decode cJ6_bitCount_0f7a4 1 = .ok (.iload_n 0, 1) := by decide +kernel
theorem dJ6_bitCount_0f7a4_2 : decode cJ6_bitCount_0f7a4 2 = .ok (.iconst 1, 1) := by decide +kernel
theorem dJ6_bitCount_0f7a4_3 : decode cJ6_bitCount_0f7a4 3 = .ok (.iushr, 1) := by decide +kernel
theorem dJ6_bitCount_0f7a4_4 : decode cJ6_bitCount_0f7a4 4 = .ok (.ldc_w 265, 3) := by decide +kernel
theorem dJ6_bitCount_0f7a4_7 : decode cJ6_bitCount_0f7a4 7 = .ok (.iand, 1) := by decide +kernel
theorem dJ6_bitCount_0f7a4_8 : decode cJ6_bitCount_0f7a4 8 = .ok (.isub, 1) := by decide +kernel
theorem dJ6_bitCount_0f7a4_9 : decode cJ6_bitCount_0f7a4 9 = .ok (.istore_n 0, 1) := by decide +kernel
theorem dJ6_bitCount_0f7a4_10 : decode cJ6_bitCount_0f7a4 10 = .ok (.iload_n 0, 1) := by decide +kernel
theorem dJ6_bitCount_0f7a4_11 : decode cJ6_bitCount_0f7a4 11 = .ok (.ldc_w 266, 3) := by decide +kernel
theorem dJ6_bitCount_0f7a4_14 : decode cJ6_bitCount_0f7a4 14 = .ok (.iand, 1) := by decide +kernel
theorem dJ6_bitCount_0f7a4_15 : decode cJ6_bitCount_0f7a4 15 = .ok (.iload_n 0, 1) := by decide +kernel
theorem dJ6_bitCount_0f7a4_16 : decode cJ6_bitCount_0f7a4 16 = .ok (.iconst 2, 1) := by decide +kernel
theorem dJ6_bitCount_0f7a4_17 : decode cJ6_bitCount_0f7a4 17 = .ok (.iushr, 1) := by decide +kernel
theorem dJ6_bitCount_0f7a4_18 : decode cJ6_bitCount_0f7a4 18 = .ok (.ldc_w 266, 3) := by decide +kernel
theorem dJ6_bitCount_0f7a4_21 : decode cJ6_bitCount_0f7a4 21 = .ok (.iand, 1) := by decide +kernel
theorem dJ6_bitCount_0f7a4_22 : decode cJ6_bitCount_0f7a4 22 = .ok (.iadd, 1) := by decide +kernel
theorem dJ6_bitCount_0f7a4_23 : decode cJ6_bitCount_0f7a4 23 = .ok (.istore_n 0, 1) := by decide +kernel
theorem dJ6_bitCount_0f7a4_24 : decode cJ6_bitCount_0f7a4 24 = .ok (.iload_n 0, 1) := by decide +kernel
theorem dJ6_bitCount_0f7a4_25 : decode cJ6_bitCount_0f7a4 25 = .ok (.iload_n 0, 1) := by decide +kernel
theorem dJ6_bitCount_0f7a4_26 : decode cJ6_bitCount_0f7a4 26 = .ok (.iconst 4, 1) := by decide +kernel
theorem dJ6_bitCount_0f7a4_27 : decode cJ6_bitCount_0f7a4 27 = .ok (.iushr, 1) := by decide +kernel
theorem dJ6_bitCount_0f7a4_28 : decode cJ6_bitCount_0f7a4 28 = .ok (.iadd, 1) := by decide +kernel
theorem dJ6_bitCount_0f7a4_29 : decode cJ6_bitCount_0f7a4 29 = .ok (.ldc_w 267, 3) := by decide +kernel
theorem dJ6_bitCount_0f7a4_32 : decode cJ6_bitCount_0f7a4 32 = .ok (.iand, 1) := by decide +kernel
theorem dJ6_bitCount_0f7a4_33 : decode cJ6_bitCount_0f7a4 33 = .ok (.istore_n 0, 1) := by decide +kernel
theorem dJ6_bitCount_0f7a4_34 : decode cJ6_bitCount_0f7a4 34 = .ok (.iload_n 0, 1) := by decide +kernel
theorem dJ6_bitCount_0f7a4_35 : decode cJ6_bitCount_0f7a4 35 = .ok (.iload_n 0, 1) := by decide +kernel
theorem dJ6_bitCount_0f7a4_36 : decode cJ6_bitCount_0f7a4 36 = .ok (.bipush 8, 2) := by decide +kernel
theorem dJ6_bitCount_0f7a4_38 : decode cJ6_bitCount_0f7a4 38 = .ok (.iushr, 1) := by decide +kernel
theorem dJ6_bitCount_0f7a4_39 : decode cJ6_bitCount_0f7a4 39 = .ok (.iadd, 1) := by decide +kernel
theorem dJ6_bitCount_0f7a4_40 : decode cJ6_bitCount_0f7a4 40 = .ok (.istore_n 0, 1) := by decide +kernel
theorem dJ6_bitCount_0f7a4_41 : decode cJ6_bitCount_0f7a4 41 = .ok (.iload_n 0, 1) := by decide +kernel
theorem dJ6_bitCount_0f7a4_42 : decode cJ6_bitCount_0f7a4 42 = .ok (.iload_n 0, 1) := by decide +kernel
theorem dJ6_bitCount_0f7a4_43 : decode cJ6_bitCount_0f7a4 43 = .ok (.bipush 16, 2) := by decide +kernel
theorem dJ6_bitCount_0f7a4_45 : decode cJ6_bitCount_0f7a4 45 = .ok (.iushr, 1) := by decide +kernel
theorem dJ6_bitCount_0f7a4_46 : decode cJ6_bitCount_0f7a4 46 = .ok (.iadd, 1) := by decide +kernel
theorem dJ6_bitCount_0f7a4_47 : decode cJ6_bitCount_0f7a4 47 = .ok (.istore_n 0, 1) := by decide +kernel
theorem dJ6_bitCount_0f7a4_48 : decode cJ6_bitCount_0f7a4 48 = .ok (.iload_n 0, 1) := by decide +kernel
theorem dJ6_bitCount_0f7a4_49 : decode cJ6_bitCount_0f7a4 49 = .ok (.bipush 63, 2) := by decide +kernel
theorem dJ6_bitCount_0f7a4_51 : decode cJ6_bitCount_0f7a4 51 = .ok (.iand, 1) := by decide +kernel
theorem dJ6_bitCount_0f7a4_52 : decode cJ6_bitCount_0f7a4 52 = .ok (.ireturn, 1) := by decide +kernel
theorem dJ9_abs_0f7a4_0 : decode cJ9_abs_0f7a4 0 = .ok (.iload_n 0, 1) := by decide +kernel
theorem dJ9_abs_0f7a4_1 : decode cJ9_abs_0f7a4 1 = .ok (.ifCond .ge 8, 3) := by decide +kernel
theorem dJ9_abs_0f7a4_4 : decode cJ9_abs_0f7a4 4 = .ok (.iload_n 0, 1) := by decide +kernel
theorem dJ9_abs_0f7a4_5 : decode cJ9_abs_0f7a4 5 = .ok (.ineg, 1) := by decide +kernel
theorem dJ9_abs_0f7a4_6 : decode cJ9_abs_0f7a4 6 = .ok (.goto 4, 3) := by decide +kernel
theorem dJ9_abs_0f7a4_9 : decode cJ9_abs_0f7a4 9 = .ok (.iload_n 0, 1) := by decide +kernel
theorem dJ9_abs_0f7a4_10 : decode cJ9_abs_0f7a4 10 = .ok (.ireturn, 1) := by decide +kernel
theorem dJ9_max_7cf53_0 : decode cJ9_max_7cf53 0 = .ok (.iload_n 0, 1) := by decide +kernel
theorem dJ9_max_7cf53_1 : decode cJ9_max_7cf53 1 = .ok (.iload_n 1, 1) := by decide +kernel
theorem dJ9_max_7cf53_2 : decode cJ9_max_7cf53 2 = .ok (.if_icmp .lt 7, 3) := by decide +kernel
theorem dJ9_max_7cf53_5 : decode cJ9_max_7cf53 5 = .ok (.iload_n 0, 1) := by decide +kernel
theorem dJ9_max_7cf53_6 : decode cJ9_max_7cf53 6 = .ok (.goto 4, 3) := by decide +kernel
theorem dJ9_max_7cf53_9 : decode cJ9_max_7cf53 9 = .ok (.iload_n 1, 1) := by decide +kernel
theorem dJ9_max_7cf53_10 : decode cJ9_max_7cf53 10 = .ok (.ireturn, 1) := by decide +kernel
theorem dJ9_min_7cf53_0 : decode cJ9_min_7cf53 0 = .ok (.iload_n 0, 1) := by decide +kernel
theorem dJ9_min_7cf53_1 : decode cJ9_min_7cf53 1 = .ok (.iload_n 1, 1) := by decide +kernel
theorem dJ9_min_7cf53_2 : decode cJ9_min_7cf53 2 = .ok (.if_icmp .gt 7, 3) := by decide +kernel
theorem dJ9_min_7cf53_5 : decode cJ9_min_7cf53 5 = .ok (.iload_n 0, 1) := by decide +kernel
theorem dJ9_min_7cf53_6 : decode cJ9_min_7cf53 6 = .ok (.goto 4, 3) := by decide +kernel
theorem dJ9_min_7cf53_9 : decode cJ9_min_7cf53 9 = .ok (.iload_n 1, 1) := by decide +kernel
theorem dJ9_min_7cf53_10 : decode cJ9_min_7cf53 10 = .ok (.ireturn, 1) := by decide +kernel
abbrev vwCl : List vw_C := [(RX0, TX0, 5), (RX1, TX1, 6), (RX2, TX2, 3), (RX3, TX3, 10), (RX4, TX4, 23)]
/-! ===== END printed: names ===== -/
end
section
/-! MY KIT: contracts of methods that make nothing; their calls. -/
abbrev TY (cI cS : ClassId) : List (ClassId × FieldType) := [(cI, .int), (cS, .object RX2)]
/-- the links to nest mates' private methods (no word lists hold them: they ride in the state) -/
def kNst : List (String × Nat × MethodName × String) := [(RX3, 19, yX0_init, "LieNights"), (RX3, 33, yX1_init, "LieNights"), (RX3, 49, yX2_init, "LieNights"), (RX2, 26, yX3_within, "LieNights"), (RX2, 34, yX3_at, "LieNights"), (RX2, 30, yX3_write, "LieNights"), (RX1, 35, yX3_write, "LieNights"), (RX1, 31, yX3_at, "LieNights"), (RX0, 40, yX3_write, "LieNights"), (RX0, 57, yX3_has, "LieNights"), (RX0, 26, yX3_at, "LieNights")]
def kNw (U : State) : Prop := ∀ q ∈ kNst, va_Nw (.methodLinkNest q.1 q.2.1 q.2.2.1 q.2.2.2) U
theorem kNw.warm {s U : State} (hW : s.WarmedH U.vm) (h : kNw s) : kNw U := fun q hq => va_Nw.warmM hW (h q hq)
theorem kNw.same {s U : State} (h1 : s.vm = U.vm) (h : kNw s) : kNw U := fun q hq => va_Nw.same rfl h1 (h q hq)
theorem kNw.at {s : State} (h : kNw s) (i : Nat) {q : String × Nat × MethodName × String} (hi : kNst[i]? = some q) : va_Nw (.methodLinkNest q.1 q.2.1 q.2.2.1 q.2.2.2) s := h q (List.mem_of_getElem? hi)
/-- what the tables say -/
def kK (D : va_G) (cI cS : ClassId) (U : State) : Prop := va_K D vwCl (TY cI cS) U ∧ kNw U
theorem kK.warm {D : va_G} {cI cS : ClassId} {s U : State} (hW : s.WarmedH U.vm) (h : kK D cI cS s) : kK D cI cS U := ⟨va_K.moved hW.alike h.1, h.2.warm hW⟩
theorem kK.calling {D : va_G} {cI cS : ClassId} {U : State} {g : JFrame} {mk : MethodId} {a : Array Value} (h : kK D cI cS U) : kK D cI cS (U.calling g mk a) := ⟨va_K.moved (u := U) (U := U.calling g mk a) (Vm.Alike.refl U.vm) h.1, h.2.same rfl⟩
/-- the addresses of a world -/
def kA (ww : va_W) : Nat → Prop := fun q => q ∈ ww.map Prod.fst
def kB (D : va_G) (cI cS : ClassId) (ww : va_W) (U : State) : Prop := kK D cI cS U ∧ va_P D vwCl ww U.heap
def kBD (D : va_G) (cI cS : ClassId) (ww : va_W) (U : State) : Prop := kB D cI cS ww U ∧ va_D (fun _ => True) ww
theorem kB_blind {D : va_G} {cI cS : ClassId} {ww : va_W} {av : List Value} : FrameBlind (va_Pc av (kB D cI cS ww)) := fun _ _ _ _ h => ⟨h.1, h.2.1.calling, h.2.2⟩
theorem kBD_blind {D : va_G} {cI cS : ClassId} {ww : va_W} {av : List Value} : FrameBlind (va_Pc av (kBD D cI cS ww)) := fun _ _ _ _ h => ⟨h.1, ⟨h.2.1.1.calling, h.2.1.2⟩, h.2.2⟩
theorem kB_of {D : va_G} {cI cS : ClassId} {wc : va_W} {s : State} {H : Heap} (hK : kK D cI cS s) (hP : va_P D vwCl wc H) (av : List Value) : ∀ U : State, U.heap = H → s.WarmedH U.vm → va_Pc av (kB D cI cS wc) av.toArray U := fun U hU hW => ⟨rfl, hK.warm hW, by rw [hU]; exact hP⟩
theorem kBD_of {D : va_G} {cI cS : ClassId} {A : Nat → Prop} {wc : va_W} {s : State} {H : Heap} (hK : kK D cI cS s) (hP : va_P D vwCl wc H) (hD : va_D A wc) (av : List Value) : ∀ U : State, U.heap = H → s.WarmedH U.vm → va_Pc av (kBD D cI cS wc) av.toArray U := fun U hU hW => ⟨rfl, ⟨hK.warm hW, by rw [hU]; exact hP⟩, hD.weaken (fun _ _ _ _ => trivial)⟩
/-! contracts -/
abbrev PMi (l : Launch) (y : MethodName) (ws : List Cond) (rm : Room) (D : va_G) (cI cS : ClassId) (ww : va_W) (av : List Value) (r : Int32) : Prop := Met l y ws rm (va_Pc av (kB D cI cS ww)) (vp_Si (fun x => x = r)) 0 0 (fun _ => False)
abbrev PMl (l : Launch) (y : MethodName) (ws : List Cond) (rm : Room) (D : va_G) (cI cS : ClassId) (ww : va_W) (av : List Value) (r : Int64) : Prop := Met l y ws rm (va_Pc av (kB D cI cS ww)) (vp_Sl (fun x => x = r)) 0 0 (fun _ => False)
abbrev PMq (l : Launch) (y : MethodName) (ws : List Cond) (rm : Room) (D : va_G) (cI cS : ClassId) (ww : va_W) (av : List Value) (r : Option Nat) : Prop := Met l y ws rm (va_Pc av (kB D cI cS ww)) (va_Sq (fun x => x = r)) 0 0 (fun _ => False)
abbrev kQw (D : va_G) (w1 : va_W) : Unit → State → Prop := fun _ t => va_P D vwCl w1 t.heap
abbrev MMi (l : Launch) (y : MethodName) (ws : List Cond) (rm : Room) (D : va_G) (cI cS : ClassId) (ww : va_W) (av : List Value) (r : Int32) (w1 : va_W) : Prop := Met l y ws rm (va_Pc av (kBD D cI cS ww)) (va_Qi (fun x (_ : Unit) => x = r) (kQw D w1) (kA ww)) 0 0 (kA ww)
abbrev MMl (l : Launch) (y : MethodName) (ws : List Cond) (rm : Room) (D : va_G) (cI cS : ClassId) (ww : va_W) (av : List Value) (r : Int64) (w1 : va_W) : Prop := Met l y ws rm (va_Pc av (kBD D cI cS ww)) (va_Ql (fun x (_ : Unit) => x = r) (kQw D w1) (kA ww)) 0 0 (kA ww)
abbrev MMv (l : Launch) (y : MethodName) (ws : List Cond) (rm : Room) (D : va_G) (cI cS : ClassId) (ww : va_W) (av : List Value) (w1 : va_W) : Prop := Met l y ws rm (va_Pc av (kBD D cI cS ww)) (va_Qv (fun (_ : Unit) => True) (kQw D w1) (kA ww)) 0 0 (kA ww)
abbrev MMq (l : Launch) (y : MethodName) (ws : List Cond) (rm : Room) (D : va_G) (cI cS : ClassId) (ww : va_W) (av : List Value) (r : Option Nat) (w1 : va_W) : Prop := Met l y ws rm (va_Pc av (kBD D cI cS ww)) (va_Qq (fun x (_ : Unit) => x = r) (kQw D w1) (kA ww)) 0 0 (kA ww)
/-! entries -/
theorem kEnter {l : Launch} {y : MethodName} {ws ws' : List Cond} {rm : Room} {D : va_G} {cI cS : ClassId} {ww : va_W} {av : List Value} {Qc : Array Value → State → Outcome → State → Prop} {free : Addr → Prop} {cc : ByteArray} {maxL : Nat} {ret : Option FieldType}
    (hy : plainName y.cls = true) (hw : ws = Cond.code y cc maxL ret :: ws') (hlen : (lg_sl av).length ≤ maxL)
    (body : ∀ (p : Program) (e : Env) (s : State) (m : MethodId) (below : List Frame) (meth : Method) (c : Code) (ls : Array Slot) (Qf : State → Prop), Qf = MQ below Qc av.toArray s 0 0 free → p.tables.exec = Jvm.exec → c.code = cc → c.maxLocals = maxL → meth.sig.returnType = ret → meth.locks = false → s.vm.findClass y.cls = some m.cls → (∀ w ∈ ws, w.before av.toArray s = true) → kK D cI cS s → va_P D vwCl ww s.heap → lv_has ls maxL (lv_args 0 av) →
      W p l e rm s m av.toArray below meth c s.heap [] 0 0 Qf (F0 m 0 ls [])) : Met l y ws rm (va_Pc av (kB D cI cS ww)) Qc 0 0 free := by
  refine Met.ofW (cc := cc) (maxL := maxL) (ret := ret) hy hw ?_
  intro p e s m args below meth c s₁ B hml hv
  obtain ⟨rfl, hK, hP⟩ := hv
  rw [lg_entry_eq]
  exact body p e s m below meth c _ _ rfl B.exec B.bytes hml B.returns B.notSynchronized (findClass_of_methodNamed B.named) (atoms_spec (ws := ws) B.pre) hK hP (lv_entry av hlen)
theorem va_D.kA {ww : va_W} {A : Nat → Prop} (h : va_D A ww) : va_D (kA ww) ww := ⟨h.1, fun _ q hq => List.mem_map.mpr ⟨q, List.mem_of_getElem? hq, rfl⟩⟩
theorem kEnterM {l : Launch} {y : MethodName} {ws ws' : List Cond} {rm : Room} {D : va_G} {cI cS : ClassId} {ww : va_W} {av : List Value} {Qc : Array Value → State → Outcome → State → Prop} {free : Addr → Prop} {cc : ByteArray} {maxL : Nat} {ret : Option FieldType}
    (hy : plainName y.cls = true) (hw : ws = Cond.code y cc maxL ret :: ws') (hlen : (lg_sl av).length ≤ maxL)
    (body : ∀ (p : Program) (e : Env) (s : State) (m : MethodId) (below : List Frame) (meth : Method) (c : Code) (ls : Array Slot) (Qf : State → Prop), Qf = MQ below Qc av.toArray s 0 0 free → p.tables.exec = Jvm.exec → c.code = cc → c.maxLocals = maxL → meth.sig.returnType = ret → meth.locks = false → s.vm.findClass y.cls = some m.cls → (∀ w ∈ ws, w.before av.toArray s = true) → kK D cI cS s → va_P D vwCl ww s.heap → va_D (kA ww) ww → va_S (kA ww) s.heap s.heap [] → lv_has ls maxL (lv_args 0 av) →
      W p l e rm s m av.toArray below meth c s.heap [] 0 0 Qf (F0 m 0 ls [])) : Met l y ws rm (va_Pc av (kBD D cI cS ww)) Qc 0 0 free := by
  refine Met.ofW (cc := cc) (maxL := maxL) (ret := ret) hy hw ?_
  intro p e s m args below meth c s₁ B hml hv
  obtain ⟨rfl, ⟨hK, hP⟩, hD⟩ := hv
  rw [lg_entry_eq]
  exact body p e s m below meth c _ _ rfl B.exec B.bytes hml B.returns B.notSynchronized (findClass_of_methodNamed B.named) (atoms_spec (ws := ws) B.pre) hK hP hD.kA va_S.rf (lv_entry av hlen)
/-! worlds: some cells anew, at their places -/
def kSet : va_W → List Nat → va_W → va_W
  | ws, [], _ => ws
  | ws, _ :: _, [] => ws
  | ws, i :: is, q :: qs => kSet (ws.set i q) is qs
theorem kSet_get : ∀ (is : List Nat) (ws w1 : va_W) (j : Nat) (q : Nat × va_E), (kSet ws is w1)[j]? = some q → (∃ k : Nat, is[k]? = some j ∧ w1[k]? = some q) ∨ (ws[j]? = some q ∧ ∀ k : Nat, is[k]? = some j → w1.length ≤ k) := by
  intro is
  induction is with
  | nil => intro ws w1 j q h; exact Or.inr ⟨by simpa [kSet] using h, fun k hk => by simp at hk⟩
  | cons i is ih =>
    intro ws w1 j q h
    cases w1 with
    | nil => exact Or.inr ⟨by simpa [kSet] using h, fun k _ => Nat.zero_le k⟩
    | cons q0 qs =>
      rcases ih (ws.set i q0) qs j q (by simpa [kSet] using h) with ⟨k, h1, h2⟩ | ⟨h1, h2⟩
      · exact Or.inl ⟨k + 1, by simpa using h1, by simpa using h2⟩
      · by_cases hij : i = j
        · subst hij
          rw [List.getElem?_set] at h1
          simp only [if_true] at h1
          split at h1
          · exact Or.inl ⟨0, rfl, by simpa using h1⟩
          · cases h1
        · rw [List.getElem?_set_ne hij] at h1
          refine Or.inr ⟨h1, fun k hk => ?_⟩
          cases k with
          | zero => exact absurd (by simpa using hk) hij
          | succ k => exact Nat.succ_le_succ (h2 k (by simpa using hk))
theorem kPick {D : va_G} {cl : List vw_C} {ws wc : va_W} {H : Heap} (hP : va_P D cl ws H) (is : List Nat) (hC : is.map (fun i => ws[i]?) = wc.map some) : va_P D cl wc H := by
  intro k q hq
  have h1 : (is.map (fun i => ws[i]?))[k]? = some (some q) := by rw [hC, List.getElem?_map, hq]; rfl
  rw [List.getElem?_map] at h1
  cases hi : is[k]? with
  | none => rw [hi] at h1; cases h1
  | some i => rw [hi] at h1; exact hP i q (Option.some.inj h1)
theorem kJoin {A0 : Nat → Prop} {D : va_G} {cl : List vw_C} {ws wc w1 : va_W} {H H1 : Heap} (hP : va_P D cl ws H) (hD : va_D A0 ws) (is : List Nat) (hC : is.map (fun i => ws[i]?) = wc.map some) (hf : w1.map Prod.fst = wc.map Prod.fst) (hk : ∀ q : Nat, q < H.size → ¬ kA wc q → H1[q]? = H[q]?) (hP1 : va_P D cl w1 H1) : va_P D cl (kSet ws is w1) H1 ∧ va_D A0 (kSet ws is w1) := by
  have hlen : w1.length = wc.length := by have := congrArg List.length hf; simpa using this
  have hlen2 : is.length = wc.length := by have := congrArg List.length hC; simpa using this
  have look : ∀ (k i : Nat), is[k]? = some i → ∃ q, wc[k]? = some q ∧ ws[i]? = some q := by
    intro k i hi
    have hk : k < wc.length := by rw [← hlen2]; exact (List.getElem?_eq_some_iff.mp hi).1
    refine ⟨wc[k], List.getElem?_eq_getElem hk, ?_⟩
    have h1 : (is.map (fun i => ws[i]?))[k]? = (wc.map some)[k]? := by rw [hC]
    rw [List.getElem?_map, List.getElem?_map, hi, List.getElem?_eq_getElem hk] at h1
    exact Option.some.inj h1
  have addr : ∀ (k : Nat) (q c : Nat × va_E), w1[k]? = some q → wc[k]? = some c → q.1 = c.1 := by
    intro k q c h1 h2
    have h3 : (w1.map Prod.fst)[k]? = (wc.map Prod.fst)[k]? := by rw [hf]
    rw [List.getElem?_map, List.getElem?_map, h1, h2] at h3
    exact Option.some.inj h3
  have old : ∀ (j : Nat) (q : Nat × va_E), (kSet ws is w1)[j]? = some q → ∃ q0, ws[j]? = some q0 ∧ q0.1 = q.1 := by
    intro j q h
    rcases kSet_get is ws w1 j q h with ⟨k, h1, h2⟩ | ⟨h1, -⟩
    · obtain ⟨c, h3, h4⟩ := look k j h1
      exact ⟨c, h4, (addr k q c h2 h3).symm⟩
    · exact ⟨q, h1, rfl⟩
  refine ⟨fun j q h => ?_, fun i j p q hp hq hpq => ?_, fun j q h => ?_⟩
  · rcases kSet_get is ws w1 j q h with ⟨k, h1, h2⟩ | ⟨h1, h2⟩
    · exact hP1 k q h2
    · refine (hP j q h1).kept (hk q.1 (hP j q h1).lt (fun hA => ?_))
      obtain ⟨c, hc, he⟩ := List.mem_map.mp hA
      obtain ⟨k, hk2⟩ := List.getElem?_of_mem hc
      have hkl : k < is.length := by rw [hlen2]; exact (List.getElem?_eq_some_iff.mp hk2).1
      have hik : is[k]? = some is[k] := List.getElem?_eq_getElem hkl
      obtain ⟨c', h3, h4⟩ := look k is[k] hik
      have hcc : c' = c := Option.some.inj (h3.symm.trans hk2)
      subst hcc
      have hj : is[k] = j := hD.1 _ _ _ _ h4 h1 he
      rw [hj] at hik
      have h5 := h2 k hik
      omega
  · obtain ⟨p0, h1, h2⟩ := old i p hp
    obtain ⟨q0, h3, h4⟩ := old j q hq
    exact hD.1 i j p0 q0 h1 h3 (by rw [h2, h4]; exact hpq)
  · obtain ⟨q0, h1, h2⟩ := old j q h
    rw [← h2]
    exact hD.2 j q0 h1
theorem kFree {A0 : Nat → Prop} {ws wc : va_W} (hD : va_D A0 ws) (is : List Nat) (hC : is.map (fun i => ws[i]?) = wc.map some) : ∀ q, kA wc q → A0 q := by
  intro q hq
  obtain ⟨c, hc, he⟩ := List.mem_map.mp hq
  obtain ⟨k, hk⟩ := List.getElem?_of_mem hc
  have h1 : (is.map (fun i => ws[i]?))[k]? = some (some c) := by rw [hC, List.getElem?_map, hk]; rfl
  rw [List.getElem?_map] at h1
  cases hi : is[k]? with
  | none => rw [hi] at h1; cases h1
  | some i => rw [hi] at h1; rw [← he]; exact hD.2 i c (Option.some.inj h1)
theorem va_D.same {A : Nat → Prop} {ws ws' : va_W} (h : va_D A ws) (he : ws'.map Prod.fst = ws.map Prod.fst) : va_D A ws' := by
  have old : ∀ (j : Nat) (q : Nat × va_E), ws'[j]? = some q → ∃ q0, ws[j]? = some q0 ∧ q0.1 = q.1 := by
    intro j q hj
    have h3 : (ws'.map Prod.fst)[j]? = (ws.map Prod.fst)[j]? := by rw [he]
    rw [List.getElem?_map, List.getElem?_map, hj] at h3
    cases hw : ws[j]? with
    | none => rw [hw] at h3; cases h3
    | some q0 => rw [hw] at h3; exact ⟨q0, rfl, (Option.some.inj h3).symm⟩
  refine ⟨fun i j p q hp hq hpq => ?_, fun j q hj => ?_⟩
  · obtain ⟨p0, h1, h2⟩ := old i p hp
    obtain ⟨q0, h3, h4⟩ := old j q hq
    exact h.1 i j p0 q0 h1 h3 (by rw [h2, h4]; exact hpq)
  · obtain ⟨q0, h1, h2⟩ := old j q hj
    rw [← h2]; exact h.2 j q0 h1
section KC
variable {p : Program} {l : Launch} {e : Env} {R : Room} {s : State} {m : MethodId} {args : Array Value} {below : List Frame} {meth : Method} {c : Code} {H : Heap} {locs : List Loc} {cells slots : Nat} {Q : State → Prop}
variable {pc : Nat} {ls : Array Slot} {rest st0 : List Value} {a : Array Value} {A0 : Nat → Prop} {H0 : Heap} {D : va_G}
/-- a call that writes nothing -/
theorem kPi {r : Int32} (hr : va_Run p l e R s m args below meth c H locs cells slots 0 0 (F0 m pc ls st0) rest (vp_Si (fun x => x = r) a) (fun _ => False))
    (kk : W p l e R s m args below meth c H locs cells slots Q (F0 m (pc + 3) ls (.int r :: rest))) : W p l e R s m args below meth c H locs cells slots Q (F0 m pc ls st0) := by
  intro T hT X
  obtain ⟨v, st₀, t, T', L, h0, X', hL, e1, -, ⟨r', hv, hp, hh⟩, st⟩ := hr T hT X
  cases hv
  subst hp
  obtain ⟨t2, a1, b1⟩ := kk T' (by rw [e1, hh, h0]) (Stand.forget X' (fun q h => (hL q h).elim))
  exact ⟨t2, st t2 a1, b1⟩
theorem kPl {r : Int64} (hr : va_Run p l e R s m args below meth c H locs cells slots 0 0 (F0 m pc ls st0) rest (vp_Sl (fun x => x = r) a) (fun _ => False))
    (kk : W p l e R s m args below meth c H locs cells slots Q (F0 m (pc + 3) ls (.long r :: rest))) : W p l e R s m args below meth c H locs cells slots Q (F0 m pc ls st0) := by
  intro T hT X
  obtain ⟨v, st₀, t, T', L, h0, X', hL, e1, -, ⟨r', hv, hp, hh⟩, st⟩ := hr T hT X
  cases hv
  subst hp
  obtain ⟨t2, a1, b1⟩ := kk T' (by rw [e1, hh, h0]) (Stand.forget X' (fun q h => (hL q h).elim))
  exact ⟨t2, st t2 a1, b1⟩
theorem kPq {r : Option Nat} (hr : va_Run p l e R s m args below meth c H locs cells slots 0 0 (F0 m pc ls st0) rest (va_Sq (fun x => x = r) a) (fun _ => False))
    (kk : W p l e R s m args below meth c H locs cells slots Q (F0 m (pc + 3) ls (va_rf r :: rest))) : W p l e R s m args below meth c H locs cells slots Q (F0 m pc ls st0) := by
  intro T hT X
  obtain ⟨v, st₀, t, T', L, h0, X', hL, e1, -, ⟨r', hv, hp, hh⟩, st⟩ := hr T hT X
  cases hv
  subst hp
  obtain ⟨t2, a1, b1⟩ := kk T' (by rw [e1, hh, h0]) (Stand.forget X' (fun q h => (hL q h).elim))
  exact ⟨t2, st t2 a1, b1⟩
/-- a call that writes into some of the world's cells -/
theorem kMi {wl wl' wc w1 : va_W} {r : Int32} (hP : va_P D vwCl wl H) (hD : va_D A0 wl) (hS : va_S A0 H0 H locs) (is : List Nat) (hC : is.map (fun i => wl[i]?) = wc.map some) (hf : w1.map Prod.fst = wc.map Prod.fst) (hset : kSet wl is w1 = wl')
    (hr : va_Run p l e R s m args below meth c H locs cells slots 0 0 (F0 m pc ls st0) rest (va_Qi (fun x (_ : Unit) => x = r) (kQw D w1) (kA wc) a) (kA wc))
    (kk : ∀ (H1 : Heap) (locs1 : List Loc), va_P D vwCl wl' H1 → va_D A0 wl' → va_S A0 H0 H1 locs1 → W p l e R s m args below meth c H1 locs1 cells slots Q (F0 m (pc + 3) ls (.int r :: rest))) : W p l e R s m args below meth c H locs cells slots Q (F0 m pc ls st0) := by
  refine va_calli hr hS (fun q _ h => kFree hD is hC q h) (kFree hD is hC) (fun r' u t H1 locs1 ht hvm hw hB hz hk1 hS1 => ?_)
  subst hw; subst ht; subst hset
  obtain ⟨hP1, hD1⟩ := kJoin hP hD is hC hf hk1 hB
  exact kk _ _ hP1 hD1 hS1
theorem kMl {wl wl' wc w1 : va_W} {r : Int64} (hP : va_P D vwCl wl H) (hD : va_D A0 wl) (hS : va_S A0 H0 H locs) (is : List Nat) (hC : is.map (fun i => wl[i]?) = wc.map some) (hf : w1.map Prod.fst = wc.map Prod.fst) (hset : kSet wl is w1 = wl')
    (hr : va_Run p l e R s m args below meth c H locs cells slots 0 0 (F0 m pc ls st0) rest (va_Ql (fun x (_ : Unit) => x = r) (kQw D w1) (kA wc) a) (kA wc))
    (kk : ∀ (H1 : Heap) (locs1 : List Loc), va_P D vwCl wl' H1 → va_D A0 wl' → va_S A0 H0 H1 locs1 → W p l e R s m args below meth c H1 locs1 cells slots Q (F0 m (pc + 3) ls (.long r :: rest))) : W p l e R s m args below meth c H locs cells slots Q (F0 m pc ls st0) := by
  refine va_calll hr hS (fun q _ h => kFree hD is hC q h) (kFree hD is hC) (fun r' u t H1 locs1 ht hvm hw hB hz hk1 hS1 => ?_)
  subst hw; subst ht; subst hset
  obtain ⟨hP1, hD1⟩ := kJoin hP hD is hC hf hk1 hB
  exact kk _ _ hP1 hD1 hS1
theorem kMv {wl wl' wc w1 : va_W} (hP : va_P D vwCl wl H) (hD : va_D A0 wl) (hS : va_S A0 H0 H locs) (is : List Nat) (hC : is.map (fun i => wl[i]?) = wc.map some) (hf : w1.map Prod.fst = wc.map Prod.fst) (hset : kSet wl is w1 = wl')
    (hr : va_Run p l e R s m args below meth c H locs cells slots 0 0 (F0 m pc ls st0) rest (va_Qv (fun (_ : Unit) => True) (kQw D w1) (kA wc) a) (kA wc))
    (kk : ∀ (H1 : Heap) (locs1 : List Loc), va_P D vwCl wl' H1 → va_D A0 wl' → va_S A0 H0 H1 locs1 → W p l e R s m args below meth c H1 locs1 cells slots Q (F0 m (pc + 3) ls rest)) : W p l e R s m args below meth c H locs cells slots Q (F0 m pc ls st0) := by
  refine va_callv hr hS (fun q _ h => kFree hD is hC q h) (kFree hD is hC) (fun u t H1 locs1 ht hvm hw hB hz hk1 hS1 => ?_)
  subst ht; subst hset
  obtain ⟨hP1, hD1⟩ := kJoin hP hD is hC hf hk1 hB
  exact kk _ _ hP1 hD1 hS1
theorem kMq {wl wl' wc w1 : va_W} {r : Option Nat} (hP : va_P D vwCl wl H) (hD : va_D A0 wl) (hS : va_S A0 H0 H locs) (is : List Nat) (hC : is.map (fun i => wl[i]?) = wc.map some) (hf : w1.map Prod.fst = wc.map Prod.fst) (hset : kSet wl is w1 = wl')
    (hr : va_Run p l e R s m args below meth c H locs cells slots 0 0 (F0 m pc ls st0) rest (va_Qq (fun x (_ : Unit) => x = r) (kQw D w1) (kA wc) a) (kA wc))
    (kk : ∀ (H1 : Heap) (locs1 : List Loc), va_P D vwCl wl' H1 → va_D A0 wl' → va_S A0 H0 H1 locs1 → W p l e R s m args below meth c H1 locs1 cells slots Q (F0 m (pc + 3) ls (va_rf r :: rest))) : W p l e R s m args below meth c H locs cells slots Q (F0 m pc ls st0) := by
  refine va_callq hr hS (fun q _ h => kFree hD is hC q h) (kFree hD is hC) (fun r' u t H1 locs1 ht hvm hw hB hz hk1 hS1 => ?_)
  subst hw; subst ht; subst hset
  obtain ⟨hP1, hD1⟩ := kJoin hP hD is hC hf hk1 hB
  exact kk _ _ hP1 hD1 hS1
end KC
section KCM
variable {s : State} {H : Heap} {D : va_G} {cI cS : ClassId} {wc wl : va_W} {A0 : Nat → Prop}
/-- a call's start: pure, static; pure, of an object; writing, static; writing, of an object -/
theorem kPS (hK : kK D cI cS s) (hP : va_P D vwCl wl H) (is : List Nat) (hC : is.map (fun i => wl[i]?) = wc.map some) (As : List Value) : PreS s H (va_Pc As (kB D cI cS wc)) As := ⟨kB_blind, kB_of hK (kPick hP is hC) As⟩
theorem kPV {b : Addr} {C : String} (hK : kK D cI cS s) (hP : va_P D vwCl wl H) (is : List Nat) (hC : is.map (fun i => wl[i]?) = wc.map some) (hr : ∃ cell : Cell, H[b]? = some cell ∧ cell.vm.isStatics = false ∧ s.vm.findClass C = some cell.cls) (As : List Value) : PreV s H C b (va_Pc (.ref b :: As) (kB D cI cS wc)) As := ⟨kB_blind, hr, kB_of hK (kPick hP is hC) (.ref b :: As)⟩
theorem kMS (hK : kK D cI cS s) (hP : va_P D vwCl wl H) (hD : va_D A0 wl) (is : List Nat) (hn : va_nd is = true) (hC : is.map (fun i => wl[i]?) = wc.map some) (As : List Value) : PreS s H (va_Pc As (kBD D cI cS wc)) As := ⟨kBD_blind, kBD_of hK (kPick hP is hC) (hD.sub is hn hC) As⟩
theorem kMV {b : Addr} {C : String} (hK : kK D cI cS s) (hP : va_P D vwCl wl H) (hD : va_D A0 wl) (is : List Nat) (hn : va_nd is = true) (hC : is.map (fun i => wl[i]?) = wc.map some) (hr : ∃ cell : Cell, H[b]? = some cell ∧ cell.vm.isStatics = false ∧ s.vm.findClass C = some cell.cls) (As : List Value) : PreV s H C b (va_Pc (.ref b :: As) (kBD D cI cS wc)) As := ⟨kBD_blind, hr, kBD_of hK (kPick hP is hC) (hD.sub is hn hC) (.ref b :: As)⟩
end KCM
/-! loops -/
def lp {α : Type} (f : Nat → α → α) (a : α) : Nat → α
  | 0 => a
  | k + 1 => f k (lp f a k)
theorem lp_next {α : Type} {f : Nat → α → α} {a x y : α} {k : Nat} (h : lp f a k = x) (hy : f k x = y) : lp f a (k + 1) = y := by show f k (lp f a k) = y; rw [h]; exact hy
def lq {α ρ : Type} (f : Nat → α → α ⊕ ρ) (a : α) : Nat → α ⊕ ρ
  | 0 => .inl a
  | k + 1 => match lq f a k with
    | .inl x => f k x
    | .inr r => .inr r
def lqr {α ρ : Type} (x : α ⊕ ρ) (g : α → ρ) : ρ := match x with
  | .inl a => g a
  | .inr r => r
theorem lq_next {α ρ : Type} {f : Nat → α → α ⊕ ρ} {a x y : α} {k : Nat} (h : lq f a k = .inl x) (hy : f k x = .inl y) : lq f a (k + 1) = .inl y := by
  show (match lq f a k with | .inl x => f k x | .inr r => .inr r) = _
  rw [h]; exact hy
theorem lq_stop {α ρ : Type} {f : Nat → α → α ⊕ ρ} {a : α} {r : ρ} {k : Nat} (h : lq f a k = .inr r) : ∀ n, k ≤ n → lq f a n = .inr r := by
  intro n
  induction n with
  | zero => intro hn; have hk : k = 0 := by omega
            subst hk; exact h
  | succ n ih =>
    intro hn
    rcases Nat.lt_or_ge n k with q | q
    · have hk : k = n + 1 := by omega
      subst hk; exact h
    · show (match lq f a n with | .inl x => f n x | .inr r => .inr r) = _
      rw [ih q]
theorem lq_exit {α ρ : Type} {f : Nat → α → α ⊕ ρ} {a x : α} {r : ρ} {k n : Nat} {g : α → ρ} (h : lq f a k = .inl x) (hy : f k x = .inr r) (hk : k < n) : lqr (lq f a n) g = r := by
  rw [lq_stop (k := k + 1) (by show (match lq f a k with | .inl x => f k x | .inr r => .inr r) = _; rw [h]; exact hy) n hk]
  rfl
theorem lq_end {α ρ : Type} {f : Nat → α → α ⊕ ρ} {a x : α} {n : Nat} {g : α → ρ} (h : lq f a n = .inl x) : lqr (lq f a n) g = g x := by rw [h]; rfl
/-! indices, counters -/
theorem kIn {i : Int32} {N : Nat} (hN : N < 2 ^ 31) (h0 : ¬ i < 0) (h1 : ¬ nI N ≤ i) : vp_in i N := by
  rcases pk_ix i hN with h | h | ⟨j, hj, rfl⟩
  · exact absurd h h0
  · exact absurd h h1
  · exact vp_in_nI hj hN
theorem kLt {k N : Nat} {v n : Int32} (hk : k ≤ N) (hv : v = nI k) (hn : n = nI N) (c : ¬ n ≤ v) : k < N := by
  subst hv; subst hn
  rcases Nat.lt_or_eq_of_le hk with q | q
  · exact q
  · subst q; exact absurd (Int32.le_refl _) c
theorem kEnd {k N : Nat} {v n : Int32} (hk : k ≤ N) (hv : v = nI k) (hn : n = nI N) (hN : N < 2 ^ 31) (c : n ≤ v) : k = N := by
  subst hv; subst hn
  rcases Nat.lt_or_eq_of_le hk with q | q
  · exact absurd c (nI_ge q hN)
  · exact q
theorem kLtG {k N : Nat} {v n : Int32} (hk : k ≤ N + 1) (hv : v = nI k) (hn : n = nI N) (hN : N + 1 < 2 ^ 31) (c : ¬ n < v) : k < N + 1 := by
  subst hv; subst hn
  rcases Nat.lt_or_eq_of_le hk with q | q
  · exact q
  · subst q; exact absurd (nI_lt (Nat.lt_succ_self N) hN) c
theorem kEndG {k N : Nat} {v n : Int32} (hk : k ≤ N + 1) (hv : v = nI k) (hn : n = nI N) (hN : N + 1 < 2 ^ 31) (c : n < v) : k = N + 1 := by
  subst hv; subst hn
  rcases Nat.lt_or_eq_of_le hk with q | q
  · exact absurd c (nI_nlt (by omega) (by omega))
  · exact q
theorem kLtS {k N : Nat} {v n : Int32} (hk : k ≤ N) (hv : v = nI (k + 1)) (hn : n = nI N) (hN : N + 1 < 2 ^ 31) (c : ¬ n < v) : k < N := by
  subst hv; subst hn
  rcases Nat.lt_or_eq_of_le hk with q | q
  · exact q
  · subst q; exact absurd (nI_lt (Nat.lt_succ_self k) hN) c
theorem kEndS {k N : Nat} {v n : Int32} (hk : k ≤ N) (hv : v = nI (k + 1)) (hn : n = nI N) (hN : N + 1 < 2 ^ 31) (c : n < v) : k = N := by
  subst hv; subst hn
  rcases Nat.lt_or_eq_of_le hk with q | q
  · exact absurd c (nI_nlt (by omega) (by omega))
  · exact q
theorem nI_mS (m : Nat) : nI (m + 1) - 1 = nI m := nI_pred m
theorem kDnE {k N : Nat} (hk : k ≤ N) (hN : N < 2 ^ 31) (c : nI (N - k) - 1 < 0) : k = N := by
  rcases Nat.lt_or_eq_of_le hk with q | q
  · obtain ⟨d, hd⟩ : ∃ d, N - k = d + 1 := ⟨N - k - 1, by omega⟩
    rw [hd, nI_pred] at c
    exact absurd c (nI_pos (by omega))
  · exact q
theorem kDnL {k N : Nat} (hk : k ≤ N) (c : ¬ nI (N - k) - 1 < 0) : k < N := by
  rcases Nat.lt_or_eq_of_le hk with q | q
  · exact q
  · subst q; rw [Nat.sub_self] at c; exact absurd (by decide) c
theorem kDnI {k N : Nat} (h : k < N) : nI (N - k) - 1 + (-1) = nI (N - (k + 1)) - 1 := by
  obtain ⟨d, hd⟩ : ∃ d, N - k = d + 1 := ⟨N - k - 1, by omega⟩
  have h2 : N - (k + 1) = d := by omega
  rw [hd, h2, nI_pred, Int32.sub_eq_add_neg]
theorem lp_end {α β : Type} {x y : α} {g : α → β} (h : y = x) : g y = g x := congrArg g h
end
section
abbrev wArr (cI : ClassId) (ar N : Nat) (f : Nat → Int32) : va_W := [(ar, .inl (cI, N, .inl f))]
abbrev wSec (cI : ClassId) (h ak ap aw : Nat) (an pn gr : Int32) (kd pl wt : Nat → Int32) : va_W := [(h, .inr (1, [.ref ak, .ref ap, .ref aw, .int an, .int pn, .int gr])), (ak, .inl (cI, 6, .inl kd)), (ap, .inl (cI, 6, .inl pl)), (aw, .inl (cI, 5, .inl wt))]
abbrev wSh (cI : ClassId) (h ac : Nat) (la le : Int32) (ce : Nat → Int32) : va_W := [(h, .inr (2, [.ref ac, .int la, .int le])), (ac, .inl (cI, 60, .inl ce))]
abbrev wSh2 (cI : ClassId) (h ac : Nat) (la le : Int32) (ce : Nat → Int32) (h2 ac2 : Nat) (la2 le2 : Int32) (ce2 : Nat → Int32) : va_W := [(h, .inr (2, [.ref ac, .int la, .int le])), (ac, .inl (cI, 60, .inl ce)), (h2, .inr (2, [.ref ac2, .int la2, .int le2])), (ac2, .inl (cI, 60, .inl ce2))]
abbrev wSecSh (cI : ClassId) (h ak ap aw : Nat) (an pn gr : Int32) (kd pl wt : Nat → Int32) (h2 ac2 : Nat) (la2 le2 : Int32) (ce2 : Nat → Int32) : va_W := [(h, .inr (1, [.ref ak, .ref ap, .ref aw, .int an, .int pn, .int gr])), (ak, .inl (cI, 6, .inl kd)), (ap, .inl (cI, 6, .inl pl)), (aw, .inl (cI, 5, .inl wt)), (h2, .inr (2, [.ref ac2, .int la2, .int le2])), (ac2, .inl (cI, 60, .inl ce2))]
abbrev wPl (cI : ClassId) (h p1 p2 p3 p4 : Nat) (al wo fi ni : Nat → Int32) (pa : Int32) : va_W := [(h, .inr (0, [.ref p1, .ref p2, .ref p3, .ref p4, .int pa])), (p1, .inl (cI, 36, .inl al)), (p2, .inl (cI, 64, .inl wo)), (p3, .inl (cI, 64, .inl fi)), (p4, .inl (cI, 64, .inl ni))]
abbrev wPlSec (cI : ClassId) (h p1 p2 p3 p4 : Nat) (al wo fi ni : Nat → Int32) (pa : Int32) (h2 ak ap aw : Nat) (an pn gr : Int32) (kd pl wt : Nat → Int32) : va_W := [(h, .inr (0, [.ref p1, .ref p2, .ref p3, .ref p4, .int pa])), (p1, .inl (cI, 36, .inl al)), (p2, .inl (cI, 64, .inl wo)), (p3, .inl (cI, 64, .inl fi)), (p4, .inl (cI, 64, .inl ni)), (h2, .inr (1, [.ref ak, .ref ap, .ref aw, .int an, .int pn, .int gr])), (ak, .inl (cI, 6, .inl kd)), (ap, .inl (cI, 6, .inl pl)), (aw, .inl (cI, 5, .inl wt))]
end
section
def fX3_within (v mo : Int32) : Int32 := (if v < 0 then 0 else (if (mo : Int32) < v then 0 else 1))
theorem q_X3_within : yX3_within.cls = RX3 ∧ yX3_within.cls ≠ "java/lang/invoke/MethodHandle" ∧ yX3_within.cls ≠ "java/lang/invoke/VarHandle" ∧ (parseMethodDescriptor yX3_within.desc).map (fun d => d.parameters.length) = some 2 := by decide +kernel
set_option maxHeartbeats 4000000 in
set_option maxRecDepth 100000 in
theorem c_X3_within (l : Launch) (D : va_G) (cI cS : ClassId) (v mo : Int32)  : PMi l yX3_within wsX3_within { frames := 0, cells := 0, slots := 0, locals := 0 } D cI cS [] [.int v, .int mo] (fX3_within v mo) := by
  refine kEnter (cc := cX3_within) (maxL := 2) (ret := (some .boolean)) (by decide) rfl (Nat.le_of_ble_eq_true rfl) ?_
  intro p e s m below meth c ls Qf hQ hx hb hml hr hlocks hown hts hK hP hl
  have hown : s.vm.findClass RX3 = some m.cls := hown
  have hl : lv_has ls 2 [(0, .int v), (1, .int mo)] := hl
  refine lv_iload_n hx hb dX3_within_0 rfl (lv_at hl 0 rfl) ?_
  refine lv_if_lt (tgt := 13) hx hb dX3_within_1 (by decide) (fun c1 => ?_) (fun c1 => ?_)
  · skip
    refine lv_iconst (v := 0) hx hb dX3_within_13 (by decide) ?_
    have hR1 : (fX3_within v mo) = 0 := (by unfold fX3_within; rw [if_pos c1])
    rw [hQ]
    exact W.zret (v := 0) (ty := .boolean) hx hb hr rfl (fun t ht hW => ⟨_, rfl, hR1.symm, ht⟩) (fun q h => by cases h) dX3_within_14
  refine lv_iload_n hx hb dX3_within_4 rfl (lv_at hl 0 rfl) ?_
  refine lv_iload_n hx hb dX3_within_5 rfl (lv_at hl 1 rfl) ?_
  refine lv_icmp_gt (tgt := 13) hx hb dX3_within_6 (by decide) (fun c6 => ?_) (fun c6 => ?_)
  · skip
    refine lv_iconst (v := 0) hx hb dX3_within_13 (by decide) ?_
    have hR2 : (fX3_within v mo) = 0 := (by unfold fX3_within; rw [if_neg c1, if_pos c6])
    rw [hQ]
    exact W.zret (v := 0) (ty := .boolean) hx hb hr rfl (fun t ht hW => ⟨_, rfl, hR2.symm, ht⟩) (fun q h => by cases h) dX3_within_14
  refine lv_iconst (v := 1) hx hb dX3_within_9 (by decide) ?_
  refine lv_goto (tgt := 14) hx hb dX3_within_10 (by decide) ?_
  have hR3 : (fX3_within v mo) = 1 := (by unfold fX3_within; rw [if_neg c1, if_neg c6])
  rw [hQ]
  exact W.zret (v := 1) (ty := .boolean) hx hb hr rfl (fun t ht hW => ⟨_, rfl, hR3.symm, ht⟩) (fun q h => by cases h) dX3_within_14

def fX3_has (se kk : Int32) : Int32 := (if ((se >>> (kk &&& 31)) &&& 1) = 0 then 0 else 1)
theorem q_X3_has : yX3_has.cls = RX3 ∧ yX3_has.cls ≠ "java/lang/invoke/MethodHandle" ∧ yX3_has.cls ≠ "java/lang/invoke/VarHandle" ∧ (parseMethodDescriptor yX3_has.desc).map (fun d => d.parameters.length) = some 2 := by decide +kernel
set_option maxHeartbeats 4000000 in
set_option maxRecDepth 100000 in
theorem c_X3_has (l : Launch) (D : va_G) (cI cS : ClassId) (se kk : Int32)  : PMi l yX3_has wsX3_has { frames := 0, cells := 0, slots := 0, locals := 0 } D cI cS [] [.int se, .int kk] (fX3_has se kk) := by
  refine kEnter (cc := cX3_has) (maxL := 2) (ret := (some .boolean)) (by decide) rfl (Nat.le_of_ble_eq_true rfl) ?_
  intro p e s m below meth c ls Qf hQ hx hb hml hr hlocks hown hts hK hP hl
  have hown : s.vm.findClass RX3 = some m.cls := hown
  have hl : lv_has ls 2 [(0, .int se), (1, .int kk)] := hl
  refine lv_iload_n hx hb dX3_has_0 rfl (lv_at hl 0 rfl) ?_
  refine lv_iload_n hx hb dX3_has_1 rfl (lv_at hl 1 rfl) ?_
  refine lv_ishr hx hb dX3_has_2 ?_
  refine lv_iconst (v := 1) hx hb dX3_has_3 (by decide) ?_
  refine lv_iand hx hb dX3_has_4 ?_
  refine lv_if_eq (tgt := 12) hx hb dX3_has_5 (by decide) (fun c5 => ?_) (fun c5 => ?_)
  · skip
    refine lv_iconst (v := 0) hx hb dX3_has_12 (by decide) ?_
    have hR1 : (fX3_has se kk) = 0 := (by unfold fX3_has; rw [if_pos c5])
    rw [hQ]
    exact W.zret (v := 0) (ty := .boolean) hx hb hr rfl (fun t ht hW => ⟨_, rfl, hR1.symm, ht⟩) (fun q h => by cases h) dX3_has_13
  refine lv_iconst (v := 1) hx hb dX3_has_8 (by decide) ?_
  refine lv_goto (tgt := 13) hx hb dX3_has_9 (by decide) ?_
  have hR2 : (fX3_has se kk) = 1 := (by unfold fX3_has; rw [if_neg c5])
  rw [hQ]
  exact W.zret (v := 1) (ty := .boolean) hx hb hr rfl (fun t ht hW => ⟨_, rfl, hR2.symm, ht⟩) (fun q h => by cases h) dX3_has_13

def fX3_isSetOf (ma se : Int32) : Int32 := (if se < 0 then 0 else (if ((1 <<< (ma &&& 31)) : Int32) ≤ se then 0 else 1))
theorem q_X3_isSetOf : yX3_isSetOf.cls = RX3 ∧ yX3_isSetOf.cls ≠ "java/lang/invoke/MethodHandle" ∧ yX3_isSetOf.cls ≠ "java/lang/invoke/VarHandle" ∧ (parseMethodDescriptor yX3_isSetOf.desc).map (fun d => d.parameters.length) = some 2 := by decide +kernel
set_option maxHeartbeats 4000000 in
set_option maxRecDepth 100000 in
theorem c_X3_isSetOf (l : Launch) (D : va_G) (cI cS : ClassId) (ma se : Int32)  : PMi l yX3_isSetOf wsX3_isSetOf { frames := 0, cells := 0, slots := 0, locals := 0 } D cI cS [] [.int ma, .int se] (fX3_isSetOf ma se) := by
  refine kEnter (cc := cX3_isSetOf) (maxL := 2) (ret := (some .boolean)) (by decide) rfl (Nat.le_of_ble_eq_true rfl) ?_
  intro p e s m below meth c ls Qf hQ hx hb hml hr hlocks hown hts hK hP hl
  have hown : s.vm.findClass RX3 = some m.cls := hown
  have hl : lv_has ls 2 [(0, .int ma), (1, .int se)] := hl
  refine lv_iload_n hx hb dX3_isSetOf_0 rfl (lv_at hl 1 rfl) ?_
  refine lv_if_lt (tgt := 15) hx hb dX3_isSetOf_1 (by decide) (fun c1 => ?_) (fun c1 => ?_)
  · skip
    refine lv_iconst (v := 0) hx hb dX3_isSetOf_15 (by decide) ?_
    have hR1 : (fX3_isSetOf ma se) = 0 := (by unfold fX3_isSetOf; rw [if_pos c1])
    rw [hQ]
    exact W.zret (v := 0) (ty := .boolean) hx hb hr rfl (fun t ht hW => ⟨_, rfl, hR1.symm, ht⟩) (fun q h => by cases h) dX3_isSetOf_16
  refine lv_iload_n hx hb dX3_isSetOf_4 rfl (lv_at hl 1 rfl) ?_
  refine lv_iconst (v := 1) hx hb dX3_isSetOf_5 (by decide) ?_
  refine lv_iload_n hx hb dX3_isSetOf_6 rfl (lv_at hl 0 rfl) ?_
  refine lv_ishl hx hb dX3_isSetOf_7 ?_
  refine lv_icmp_ge (tgt := 15) hx hb dX3_isSetOf_8 (by decide) (fun c8 => ?_) (fun c8 => ?_)
  · skip
    refine lv_iconst (v := 0) hx hb dX3_isSetOf_15 (by decide) ?_
    have hR2 : (fX3_isSetOf ma se) = 0 := (by unfold fX3_isSetOf; rw [if_neg c1, if_pos c8])
    rw [hQ]
    exact W.zret (v := 0) (ty := .boolean) hx hb hr rfl (fun t ht hW => ⟨_, rfl, hR2.symm, ht⟩) (fun q h => by cases h) dX3_isSetOf_16
  refine lv_iconst (v := 1) hx hb dX3_isSetOf_11 (by decide) ?_
  refine lv_goto (tgt := 16) hx hb dX3_isSetOf_12 (by decide) ?_
  have hR3 : (fX3_isSetOf ma se) = 1 := (by unfold fX3_isSetOf; rw [if_neg c1, if_neg c8])
  rw [hQ]
  exact W.zret (v := 1) (ty := .boolean) hx hb hr rfl (fun t ht hW => ⟨_, rfl, hR3.symm, ht⟩) (fun q h => by cases h) dX3_isSetOf_16

def fX3_at (N : Nat) (f : Nat → Int32) (i : Int32) : Int32 := (if i < 0 then 0 else (if ((nI N) : Int32) ≤ i then 0 else (f i.toNatClampNeg)))
theorem q_X3_at : yX3_at.cls = RX3 ∧ yX3_at.cls ≠ "java/lang/invoke/MethodHandle" ∧ yX3_at.cls ≠ "java/lang/invoke/VarHandle" ∧ (parseMethodDescriptor yX3_at.desc).map (fun d => d.parameters.length) = some 2 := by decide +kernel
set_option maxHeartbeats 4000000 in
set_option maxRecDepth 100000 in
theorem c_X3_at (l : Launch) (D : va_G) (cI cS : ClassId) (ar N : Nat) (f : Nat → Int32) (i : Int32) (hN : N < 2 ^ 31) : PMi l yX3_at wsX3_at { frames := 0, cells := 0, slots := 0, locals := 0 } D cI cS (wArr cI ar N f) [.ref ar, .int i] (fX3_at N f i) := by
  refine kEnter (cc := cX3_at) (maxL := 2) (ret := (some .int)) (by decide) rfl (Nat.le_of_ble_eq_true rfl) ?_
  intro p e s m below meth c ls Qf hQ hx hb hml hr hlocks hown hts hK hP hl
  have hown : s.vm.findClass RX3 = some m.cls := hown
  have hl : lv_has ls 2 [(0, .ref ar), (1, .int i)] := hl
  refine lv_iload_n hx hb dX3_at_0 rfl (lv_at hl 1 rfl) ?_
  refine lv_if_lt (tgt := 16) hx hb dX3_at_1 (by decide) (fun c1 => ?_) (fun c1 => ?_)
  · skip
    refine lv_iconst (v := 0) hx hb dX3_at_16 (by decide) ?_
    have hR1 : (fX3_at N f i) = 0 := (by unfold fX3_at; rw [if_pos c1])
    rw [hQ]
    exact W.iret (v := 0) hx hb hr (fun t ht hW => ⟨_, rfl, hR1.symm, ht⟩) (fun q h => by cases h) dX3_at_17
  refine lv_iload_n hx hb dX3_at_4 rfl (lv_at hl 1 rfl) ?_
  refine lv_aload_n hx hb dX3_at_5 rfl (lv_at hl 0 rfl) ?_
  refine va_alen hx hb hK.1 hP 0 0 rfl rfl (v := (nI N)) rfl dX3_at_6 ?_
  refine lv_icmp_ge (tgt := 16) hx hb dX3_at_7 (by decide) (fun c7 => ?_) (fun c7 => ?_)
  · skip
    refine lv_iconst (v := 0) hx hb dX3_at_16 (by decide) ?_
    have hR2 : (fX3_at N f i) = 0 := (by unfold fX3_at; rw [if_neg c1, if_pos c7])
    rw [hQ]
    exact W.iret (v := 0) hx hb hr (fun t ht hW => ⟨_, rfl, hR2.symm, ht⟩) (fun q h => by cases h) dX3_at_17
  refine lv_aload_n hx hb dX3_at_10 rfl (lv_at hl 0 rfl) ?_
  refine lv_iload_n hx hb dX3_at_11 rfl (lv_at hl 1 rfl) ?_
  refine va_iald hx hb hK.1 hP 0 0 rfl rfl (kIn hN c1 c7) dX3_at_12 ?_
  refine lv_goto (tgt := 17) hx hb dX3_at_13 (by decide) ?_
  have hR3 : (fX3_at N f i) = (f i.toNatClampNeg) := (by unfold fX3_at; rw [if_neg c1, if_neg c7])
  rw [hQ]
  exact W.iret (v := (f i.toNatClampNeg)) hx hb hr (fun t ht hW => ⟨_, rfl, hR3.symm, ht⟩) (fun q h => by cases h) dX3_at_17

def fX3_write (N : Nat) (f : Nat → Int32) (i v : Int32) : (Nat → Int32) := (if i < 0 then f else (if ((nI N) : Int32) ≤ i then f else (upd f i.toNatClampNeg v)))
theorem q_X3_write : yX3_write.cls = RX3 ∧ yX3_write.cls ≠ "java/lang/invoke/MethodHandle" ∧ yX3_write.cls ≠ "java/lang/invoke/VarHandle" ∧ (parseMethodDescriptor yX3_write.desc).map (fun d => d.parameters.length) = some 3 := by decide +kernel
set_option maxHeartbeats 4000000 in
set_option maxRecDepth 100000 in
theorem c_X3_write (l : Launch) (D : va_G) (cI cS : ClassId) (ar N : Nat) (f : Nat → Int32) (i v : Int32) (hN : N < 2 ^ 31) : MMv l yX3_write wsX3_write { frames := 0, cells := 0, slots := 0, locals := 0 } D cI cS (wArr cI ar N f) [.ref ar, .int i, .int v] (wArr cI ar N (fX3_write N f i v)) := by
  refine kEnterM (cc := cX3_write) (maxL := 3) (ret := none) (by decide) rfl (Nat.le_of_ble_eq_true rfl) ?_
  intro p e s m below meth c ls Qf hQ hx hb hml hr hlocks hown hts hK hP hD hS hl
  have hown : s.vm.findClass RX3 = some m.cls := hown
  have hl : lv_has ls 3 [(0, .ref ar), (1, .int i), (2, .int v)] := hl
  generalize kA (wArr cI ar N f) = A at hQ hD hS
  refine lv_iload_n hx hb dX3_write_0 rfl (lv_at hl 1 rfl) ?_
  refine lv_if_lt (tgt := 14) hx hb dX3_write_1 (by decide) (fun c1 => ?_) (fun c1 => ?_)
  · skip
    have hR1 : (fX3_write N f i v) = f := (by unfold fX3_write; rw [if_pos c1])
    rw [hQ]
    exact W.vret hx hb hr (fun t ht hW => ⟨⟨(), rfl, trivial, (by show va_P D vwCl _ t.heap; rw [hR1, ht]; exact hP)⟩, hS.F ht⟩) hS.2.2 dX3_write_14
  refine lv_iload_n hx hb dX3_write_4 rfl (lv_at hl 1 rfl) ?_
  refine lv_aload_n hx hb dX3_write_5 rfl (lv_at hl 0 rfl) ?_
  refine va_alen hx hb hK.1 hP 0 0 rfl rfl (v := (nI N)) rfl dX3_write_6 ?_
  refine lv_icmp_ge (tgt := 14) hx hb dX3_write_7 (by decide) (fun c7 => ?_) (fun c7 => ?_)
  · skip
    have hR2 : (fX3_write N f i v) = f := (by unfold fX3_write; rw [if_neg c1, if_pos c7])
    rw [hQ]
    exact W.vret hx hb hr (fun t ht hW => ⟨⟨(), rfl, trivial, (by show va_P D vwCl _ t.heap; rw [hR2, ht]; exact hP)⟩, hS.F ht⟩) hS.2.2 dX3_write_14
  refine lv_aload_n hx hb dX3_write_10 rfl (lv_at hl 0 rfl) ?_
  refine lv_iload_n hx hb dX3_write_11 rfl (lv_at hl 1 rfl) ?_
  refine lv_iload_n hx hb dX3_write_12 rfl (lv_at hl 2 rfl) ?_
  refine va_iast hx hb hK.1 hP hD hS 0 0 rfl rfl (kIn hN c1 c7) dX3_write_13 (fun H locs hP hD hS => ?_)
  have hP : va_P D vwCl (wArr cI ar N (upd f i.toNatClampNeg v)) H := hP
  have hD : va_D A (wArr cI ar N (upd f i.toNatClampNeg v)) := hD
  have hR3 : (fX3_write N f i v) = (upd f i.toNatClampNeg v) := (by unfold fX3_write; rw [if_neg c1, if_neg c7])
  rw [hQ]
  exact W.vret hx hb hr (fun t ht hW => ⟨⟨(), rfl, trivial, (by show va_P D vwCl _ t.heap; rw [hR3, ht]; exact hP)⟩, hS.F ht⟩) hS.2.2 dX3_write_14

def fX1_answers (an : Int32) : Int32 := an
theorem q_X1_answers : yX1_answers.cls = RX1 ∧ yX1_answers.cls ≠ "java/lang/invoke/MethodHandle" ∧ yX1_answers.cls ≠ "java/lang/invoke/VarHandle" ∧ (parseMethodDescriptor yX1_answers.desc).map (fun d => d.parameters.length) = some 0 := by decide +kernel
set_option maxHeartbeats 4000000 in
set_option maxRecDepth 100000 in
theorem c_X1_answers (l : Launch) (D : va_G) (cI cS : ClassId) (h ak ap aw : Nat) (an pn gr : Int32) (kd pl wt : Nat → Int32)  : PMi l yX1_answers wsX1_answers { frames := 0, cells := 0, slots := 0, locals := 0 } D cI cS (wSec cI h ak ap aw an pn gr kd pl wt) [.ref h] (fX1_answers an) := by
  refine kEnter (cc := cX1_answers) (maxL := 1) (ret := (some .int)) (by decide) rfl (Nat.le_of_ble_eq_true rfl) ?_
  intro p e s m below meth c ls Qf hQ hx hb hml hr hlocks hown hts hK hP hl
  have hown : s.vm.findClass RX1 = some m.cls := hown
  have hl : lv_has ls 1 [(0, .ref h)] := hl
  refine lv_aload_n hx hb dX1_answers_0 rfl (lv_at hl 0 rfl) ?_
  refine va_get (D := D) (ci := 1) (v := .int an) (C := RX1) (T := TX1) (N := 6) hx hb hts (fun _ h => List.mem_cons_of_mem _ (List.mem_append_right _ h)) hown hK.1 hP 0 rfl rfl 3 (by decide) (hts (.fieldLink RX1 21 "LieNights$Secret" "answers" "I") (List.mem_of_getElem? (i := 1) rfl)) (fun _ h9 => h9) rfl dX1_answers_1 ?_
  have hR1 : (fX1_answers an) = an := rfl
  rw [hQ]
  exact W.iret (v := an) hx hb hr (fun t ht hW => ⟨_, rfl, hR1.symm, ht⟩) (fun q h => by cases h) dX1_answers_4

def fX1_pillars (pn : Int32) : Int32 := pn
theorem q_X1_pillars : yX1_pillars.cls = RX1 ∧ yX1_pillars.cls ≠ "java/lang/invoke/MethodHandle" ∧ yX1_pillars.cls ≠ "java/lang/invoke/VarHandle" ∧ (parseMethodDescriptor yX1_pillars.desc).map (fun d => d.parameters.length) = some 0 := by decide +kernel
set_option maxHeartbeats 4000000 in
set_option maxRecDepth 100000 in
theorem c_X1_pillars (l : Launch) (D : va_G) (cI cS : ClassId) (h ak ap aw : Nat) (an pn gr : Int32) (kd pl wt : Nat → Int32)  : PMi l yX1_pillars wsX1_pillars { frames := 0, cells := 0, slots := 0, locals := 0 } D cI cS (wSec cI h ak ap aw an pn gr kd pl wt) [.ref h] (fX1_pillars pn) := by
  refine kEnter (cc := cX1_pillars) (maxL := 1) (ret := (some .int)) (by decide) rfl (Nat.le_of_ble_eq_true rfl) ?_
  intro p e s m below meth c ls Qf hQ hx hb hml hr hlocks hown hts hK hP hl
  have hown : s.vm.findClass RX1 = some m.cls := hown
  have hl : lv_has ls 1 [(0, .ref h)] := hl
  refine lv_aload_n hx hb dX1_pillars_0 rfl (lv_at hl 0 rfl) ?_
  refine va_get (D := D) (ci := 1) (v := .int pn) (C := RX1) (T := TX1) (N := 6) hx hb hts (fun _ h => List.mem_cons_of_mem _ (List.mem_append_right _ h)) hown hK.1 hP 0 rfl rfl 4 (by decide) (hts (.fieldLink RX1 25 "LieNights$Secret" "pillars" "I") (List.mem_of_getElem? (i := 1) rfl)) (fun _ h9 => h9) rfl dX1_pillars_1 ?_
  have hR1 : (fX1_pillars pn) = pn := rfl
  rw [hQ]
  exact W.iret (v := pn) hx hb hr (fun t ht hW => ⟨_, rfl, hR1.symm, ht⟩) (fun q h => by cases h) dX1_pillars_4

def fX1_growth (gr : Int32) : Int32 := gr
theorem q_X1_growth : yX1_growth.cls = RX1 ∧ yX1_growth.cls ≠ "java/lang/invoke/MethodHandle" ∧ yX1_growth.cls ≠ "java/lang/invoke/VarHandle" ∧ (parseMethodDescriptor yX1_growth.desc).map (fun d => d.parameters.length) = some 0 := by decide +kernel
set_option maxHeartbeats 4000000 in
set_option maxRecDepth 100000 in
theorem c_X1_growth (l : Launch) (D : va_G) (cI cS : ClassId) (h ak ap aw : Nat) (an pn gr : Int32) (kd pl wt : Nat → Int32)  : PMi l yX1_growth wsX1_growth { frames := 0, cells := 0, slots := 0, locals := 0 } D cI cS (wSec cI h ak ap aw an pn gr kd pl wt) [.ref h] (fX1_growth gr) := by
  refine kEnter (cc := cX1_growth) (maxL := 1) (ret := (some .int)) (by decide) rfl (Nat.le_of_ble_eq_true rfl) ?_
  intro p e s m below meth c ls Qf hQ hx hb hml hr hlocks hown hts hK hP hl
  have hown : s.vm.findClass RX1 = some m.cls := hown
  have hl : lv_has ls 1 [(0, .ref h)] := hl
  refine lv_aload_n hx hb dX1_growth_0 rfl (lv_at hl 0 rfl) ?_
  refine va_get (D := D) (ci := 1) (v := .int gr) (C := RX1) (T := TX1) (N := 6) hx hb hts (fun _ h => List.mem_cons_of_mem _ (List.mem_append_right _ h)) hown hK.1 hP 0 rfl rfl 5 (by decide) (hts (.fieldLink RX1 28 "LieNights$Secret" "growth" "I") (List.mem_of_getElem? (i := 1) rfl)) (fun _ h9 => h9) rfl dX1_growth_1 ?_
  have hR1 : (fX1_growth gr) = gr := rfl
  rw [hQ]
  exact W.iret (v := gr) hx hb hr (fun t ht hW => ⟨_, rfl, hR1.symm, ht⟩) (fun q h => by cases h) dX1_growth_4

def fX1_kindOf (kd : Nat → Int32) (x : Int32) : Int32 := (fX3_at 6 kd x)
theorem q_X1_kindOf : yX1_kindOf.cls = RX1 ∧ yX1_kindOf.cls ≠ "java/lang/invoke/MethodHandle" ∧ yX1_kindOf.cls ≠ "java/lang/invoke/VarHandle" ∧ (parseMethodDescriptor yX1_kindOf.desc).map (fun d => d.parameters.length) = some 1 := by decide +kernel
set_option maxHeartbeats 4000000 in
set_option maxRecDepth 100000 in
theorem c_X1_kindOf (l : Launch) (D : va_G) (cI cS : ClassId) (h ak ap aw : Nat) (an pn gr : Int32) (kd pl wt : Nat → Int32) (x : Int32)  : PMi l yX1_kindOf wsX1_kindOf { frames := 1, cells := 0, slots := 0, locals := 21 } D cI cS (wSec cI h ak ap aw an pn gr kd pl wt) [.ref h, .int x] (fX1_kindOf kd x) := by
  refine kEnter (cc := cX1_kindOf) (maxL := 2) (ret := (some .int)) (by decide) rfl (Nat.le_of_ble_eq_true rfl) ?_
  intro p e s m below meth c ls Qf hQ hx hb hml hr hlocks hown hts hK hP hl
  have hown : s.vm.findClass RX1 = some m.cls := hown
  have hl : lv_has ls 2 [(0, .ref h), (1, .int x)] := hl
  refine lv_aload_n hx hb dX1_kindOf_0 rfl (lv_at hl 0 rfl) ?_
  refine va_get (D := D) (ci := 1) (v := .ref ak) (C := RX1) (T := TX1) (N := 6) hx hb hts (fun _ h => List.mem_cons_of_mem _ (List.mem_append_right _ h)) hown hK.1 hP 0 rfl rfl 0 (by decide) (hts (.fieldLink RX1 11 "LieNights$Secret" "kinds" "[I") (List.mem_of_getElem? (i := 1) rfl)) (fun _ h9 => h9) rfl dX1_kindOf_1 ?_
  refine lv_iload_n hx hb dX1_kindOf_4 rfl (lv_at hl 1 rfl) ?_
  refine kPi (va_runSN (As := [.ref ak, .int x]) (rest := []) ⟨hx, hb, hml, hown, hts⟩ (c_X3_at l D cI cS ak 6 kd x (by decide)) ⟨va_cnB 2 hts gX1_kindOf_X3_at_n31 rfl rfl rfl (hK.2.at 7 (q := (RX1, 31, yX3_at, "LieNights")) rfl) (hts _ (List.mem_of_getElem? (i := 3) rfl)) q_X3_at.2 ⟨Nat.le_of_ble_eq_true rfl, Nat.le_of_ble_eq_true rfl⟩, hts _ (List.mem_of_getElem? (i := 2) rfl), trivial⟩ (kPS hK hP [1] rfl [.ref ak, .int x]) rfl rfl hl.1 rfl (lv_room (Nat.le_of_ble_eq_true rfl)) dX1_kindOf_5 ⟨Nat.zero_le _, Nat.zero_le _⟩) ?_
  have hR1 : (fX1_kindOf kd x) = (fX3_at 6 kd x) := rfl
  rw [hQ]
  exact W.iret (v := (fX3_at 6 kd x)) hx hb hr (fun t ht hW => ⟨_, rfl, hR1.symm, ht⟩) (fun q h => by cases h) dX1_kindOf_8

def fX1_placeOf (pl : Nat → Int32) (x : Int32) : Int32 := (fX3_at 6 pl x)
theorem q_X1_placeOf : yX1_placeOf.cls = RX1 ∧ yX1_placeOf.cls ≠ "java/lang/invoke/MethodHandle" ∧ yX1_placeOf.cls ≠ "java/lang/invoke/VarHandle" ∧ (parseMethodDescriptor yX1_placeOf.desc).map (fun d => d.parameters.length) = some 1 := by decide +kernel
set_option maxHeartbeats 4000000 in
set_option maxRecDepth 100000 in
theorem c_X1_placeOf (l : Launch) (D : va_G) (cI cS : ClassId) (h ak ap aw : Nat) (an pn gr : Int32) (kd pl wt : Nat → Int32) (x : Int32)  : PMi l yX1_placeOf wsX1_placeOf { frames := 1, cells := 0, slots := 0, locals := 21 } D cI cS (wSec cI h ak ap aw an pn gr kd pl wt) [.ref h, .int x] (fX1_placeOf pl x) := by
  refine kEnter (cc := cX1_placeOf) (maxL := 2) (ret := (some .int)) (by decide) rfl (Nat.le_of_ble_eq_true rfl) ?_
  intro p e s m below meth c ls Qf hQ hx hb hml hr hlocks hown hts hK hP hl
  have hown : s.vm.findClass RX1 = some m.cls := hown
  have hl : lv_has ls 2 [(0, .ref h), (1, .int x)] := hl
  refine lv_aload_n hx hb dX1_placeOf_0 rfl (lv_at hl 0 rfl) ?_
  refine va_get (D := D) (ci := 1) (v := .ref ap) (C := RX1) (T := TX1) (N := 6) hx hb hts (fun _ h => List.mem_cons_of_mem _ (List.mem_append_right _ h)) hown hK.1 hP 0 rfl rfl 1 (by decide) (hts (.fieldLink RX1 15 "LieNights$Secret" "places" "[I") (List.mem_of_getElem? (i := 1) rfl)) (fun _ h9 => h9) rfl dX1_placeOf_1 ?_
  refine lv_iload_n hx hb dX1_placeOf_4 rfl (lv_at hl 1 rfl) ?_
  refine kPi (va_runSN (As := [.ref ap, .int x]) (rest := []) ⟨hx, hb, hml, hown, hts⟩ (c_X3_at l D cI cS ap 6 pl x (by decide)) ⟨va_cnB 2 hts gX1_placeOf_X3_at_n31 rfl rfl rfl (hK.2.at 7 (q := (RX1, 31, yX3_at, "LieNights")) rfl) (hts _ (List.mem_of_getElem? (i := 3) rfl)) q_X3_at.2 ⟨Nat.le_of_ble_eq_true rfl, Nat.le_of_ble_eq_true rfl⟩, hts _ (List.mem_of_getElem? (i := 2) rfl), trivial⟩ (kPS hK hP [2] rfl [.ref ap, .int x]) rfl rfl hl.1 rfl (lv_room (Nat.le_of_ble_eq_true rfl)) dX1_placeOf_5 ⟨Nat.zero_le _, Nat.zero_le _⟩) ?_
  have hR1 : (fX1_placeOf pl x) = (fX3_at 6 pl x) := rfl
  rw [hQ]
  exact W.iret (v := (fX3_at 6 pl x)) hx hb hr (fun t ht hW => ⟨_, rfl, hR1.symm, ht⟩) (fun q h => by cases h) dX1_placeOf_8

def fX1_weightOf (wt : Nat → Int32) (x : Int32) : Int32 := (fX3_at 5 wt x)
theorem q_X1_weightOf : yX1_weightOf.cls = RX1 ∧ yX1_weightOf.cls ≠ "java/lang/invoke/MethodHandle" ∧ yX1_weightOf.cls ≠ "java/lang/invoke/VarHandle" ∧ (parseMethodDescriptor yX1_weightOf.desc).map (fun d => d.parameters.length) = some 1 := by decide +kernel
set_option maxHeartbeats 4000000 in
set_option maxRecDepth 100000 in
theorem c_X1_weightOf (l : Launch) (D : va_G) (cI cS : ClassId) (h ak ap aw : Nat) (an pn gr : Int32) (kd pl wt : Nat → Int32) (x : Int32)  : PMi l yX1_weightOf wsX1_weightOf { frames := 1, cells := 0, slots := 0, locals := 21 } D cI cS (wSec cI h ak ap aw an pn gr kd pl wt) [.ref h, .int x] (fX1_weightOf wt x) := by
  refine kEnter (cc := cX1_weightOf) (maxL := 2) (ret := (some .int)) (by decide) rfl (Nat.le_of_ble_eq_true rfl) ?_
  intro p e s m below meth c ls Qf hQ hx hb hml hr hlocks hown hts hK hP hl
  have hown : s.vm.findClass RX1 = some m.cls := hown
  have hl : lv_has ls 2 [(0, .ref h), (1, .int x)] := hl
  refine lv_aload_n hx hb dX1_weightOf_0 rfl (lv_at hl 0 rfl) ?_
  refine va_get (D := D) (ci := 1) (v := .ref aw) (C := RX1) (T := TX1) (N := 6) hx hb hts (fun _ h => List.mem_cons_of_mem _ (List.mem_append_right _ h)) hown hK.1 hP 0 rfl rfl 2 (by decide) (hts (.fieldLink RX1 18 "LieNights$Secret" "weights" "[I") (List.mem_of_getElem? (i := 1) rfl)) (fun _ h9 => h9) rfl dX1_weightOf_1 ?_
  refine lv_iload_n hx hb dX1_weightOf_4 rfl (lv_at hl 1 rfl) ?_
  refine kPi (va_runSN (As := [.ref aw, .int x]) (rest := []) ⟨hx, hb, hml, hown, hts⟩ (c_X3_at l D cI cS aw 5 wt x (by decide)) ⟨va_cnB 2 hts gX1_weightOf_X3_at_n31 rfl rfl rfl (hK.2.at 7 (q := (RX1, 31, yX3_at, "LieNights")) rfl) (hts _ (List.mem_of_getElem? (i := 3) rfl)) q_X3_at.2 ⟨Nat.le_of_ble_eq_true rfl, Nat.le_of_ble_eq_true rfl⟩, hts _ (List.mem_of_getElem? (i := 2) rfl), trivial⟩ (kPS hK hP [3] rfl [.ref aw, .int x]) rfl rfl hl.1 rfl (lv_room (Nat.le_of_ble_eq_true rfl)) dX1_weightOf_5 ⟨Nat.zero_le _, Nat.zero_le _⟩) ?_
  have hR1 : (fX1_weightOf wt x) = (fX3_at 5 wt x) := rfl
  rw [hQ]
  exact W.iret (v := (fX3_at 5 wt x)) hx hb hr (fun t ht hW => ⟨_, rfl, hR1.symm, ht⟩) (fun q h => by cases h) dX1_weightOf_8

def fX1_setGrowth (v : Int32) : Int32 := v
theorem q_X1_setGrowth : yX1_setGrowth.cls = RX1 ∧ yX1_setGrowth.cls ≠ "java/lang/invoke/MethodHandle" ∧ yX1_setGrowth.cls ≠ "java/lang/invoke/VarHandle" ∧ (parseMethodDescriptor yX1_setGrowth.desc).map (fun d => d.parameters.length) = some 1 := by decide +kernel
set_option maxHeartbeats 4000000 in
set_option maxRecDepth 100000 in
theorem c_X1_setGrowth (l : Launch) (D : va_G) (cI cS : ClassId) (h ak ap aw : Nat) (an pn gr : Int32) (kd pl wt : Nat → Int32) (v : Int32)  : MMv l yX1_setGrowth wsX1_setGrowth { frames := 0, cells := 0, slots := 0, locals := 0 } D cI cS (wSec cI h ak ap aw an pn gr kd pl wt) [.ref h, .int v] (wSec cI h ak ap aw an pn (fX1_setGrowth v) kd pl wt) := by
  refine kEnterM (cc := cX1_setGrowth) (maxL := 2) (ret := none) (by decide) rfl (Nat.le_of_ble_eq_true rfl) ?_
  intro p e s m below meth c ls Qf hQ hx hb hml hr hlocks hown hts hK hP hD hS hl
  have hown : s.vm.findClass RX1 = some m.cls := hown
  have hl : lv_has ls 2 [(0, .ref h), (1, .int v)] := hl
  generalize kA (wSec cI h ak ap aw an pn gr kd pl wt) = A at hQ hD hS
  refine lv_aload_n hx hb dX1_setGrowth_0 rfl (lv_at hl 0 rfl) ?_
  refine lv_iload_n hx hb dX1_setGrowth_1 rfl (lv_at hl 1 rfl) ?_
  refine va_put (D := D) (ci := 1) (v := .int v) (ty := tyX1 5) (C := RX1) (T := TX1) (N := 6) hx hb hts (fun _ h => List.mem_cons_of_mem _ (List.mem_append_right _ h)) tyX1 tyX1_ok nmX1 hown hK.1 hP hD hS 0 rfl rfl 5 (by decide) (hts (.fieldLink RX1 28 "LieNights$Secret" "growth" "I") (List.mem_of_getElem? (i := 1) rfl)) (fun _ h9 => h9) rfl (tyX1_ok 5 (by decide)) rfl rfl (Nat.le_of_ble_eq_true rfl) dX1_setGrowth_2 (fun H locs hP hD hS => ?_)
  have hP : va_P D vwCl (wSec cI h ak ap aw an pn v kd pl wt) H := hP
  have hD : va_D A (wSec cI h ak ap aw an pn v kd pl wt) := hD
  have hR1 : (fX1_setGrowth v) = v := rfl
  rw [hQ]
  exact W.vret hx hb hr (fun t ht hW => ⟨⟨(), rfl, trivial, (by show va_P D vwCl _ t.heap; rw [hR1, ht]; exact hP)⟩, hS.F ht⟩) hS.2.2 dX1_setGrowth_5

def fX1_setKind (kd : Nat → Int32) (x v : Int32) : (Nat → Int32) := (fX3_write 6 kd x v)
theorem q_X1_setKind : yX1_setKind.cls = RX1 ∧ yX1_setKind.cls ≠ "java/lang/invoke/MethodHandle" ∧ yX1_setKind.cls ≠ "java/lang/invoke/VarHandle" ∧ (parseMethodDescriptor yX1_setKind.desc).map (fun d => d.parameters.length) = some 2 := by decide +kernel
set_option maxHeartbeats 4000000 in
set_option maxRecDepth 100000 in
theorem c_X1_setKind (l : Launch) (D : va_G) (cI cS : ClassId) (h ak ap aw : Nat) (an pn gr : Int32) (kd pl wt : Nat → Int32) (x v : Int32)  : MMv l yX1_setKind wsX1_setKind { frames := 1, cells := 0, slots := 0, locals := 22 } D cI cS (wSec cI h ak ap aw an pn gr kd pl wt) [.ref h, .int x, .int v] (wSec cI h ak ap aw an pn gr (fX1_setKind kd x v) pl wt) := by
  refine kEnterM (cc := cX1_setKind) (maxL := 3) (ret := none) (by decide) rfl (Nat.le_of_ble_eq_true rfl) ?_
  intro p e s m below meth c ls Qf hQ hx hb hml hr hlocks hown hts hK hP hD hS hl
  have hown : s.vm.findClass RX1 = some m.cls := hown
  have hl : lv_has ls 3 [(0, .ref h), (1, .int x), (2, .int v)] := hl
  generalize kA (wSec cI h ak ap aw an pn gr kd pl wt) = A at hQ hD hS
  refine lv_aload_n hx hb dX1_setKind_0 rfl (lv_at hl 0 rfl) ?_
  refine va_get (D := D) (ci := 1) (v := .ref ak) (C := RX1) (T := TX1) (N := 6) hx hb hts (fun _ h => List.mem_cons_of_mem _ (List.mem_append_right _ h)) hown hK.1 hP 0 rfl rfl 0 (by decide) (hts (.fieldLink RX1 11 "LieNights$Secret" "kinds" "[I") (List.mem_of_getElem? (i := 1) rfl)) (fun _ h9 => h9) rfl dX1_setKind_1 ?_
  refine lv_iload_n hx hb dX1_setKind_4 rfl (lv_at hl 1 rfl) ?_
  refine lv_iload_n hx hb dX1_setKind_5 rfl (lv_at hl 2 rfl) ?_
  refine kMv (wl' := (wSec cI h ak ap aw an pn gr (fX3_write 6 kd x v) pl wt)) (wc := (wArr cI ak 6 kd)) (w1 := (wArr cI ak 6 (fX3_write 6 kd x v))) hP hD hS [1] rfl rfl rfl (va_runSN (As := [.ref ak, .int x, .int v]) (rest := []) ⟨hx, hb, hml, hown, hts⟩ (c_X3_write l D cI cS ak 6 kd x v (by decide)) ⟨va_cnB 3 hts gX1_setKind_X3_write_n35 rfl rfl rfl (hK.2.at 6 (q := (RX1, 35, yX3_write, "LieNights")) rfl) (hts _ (List.mem_of_getElem? (i := 3) rfl)) q_X3_write.2 ⟨Nat.le_of_ble_eq_true rfl, Nat.le_of_ble_eq_true rfl⟩, hts _ (List.mem_of_getElem? (i := 2) rfl), trivial⟩ (kMS hK hP hD [1] rfl rfl [.ref ak, .int x, .int v]) rfl rfl hl.1 rfl (lv_room (Nat.le_of_ble_eq_true rfl)) dX1_setKind_6 ⟨Nat.zero_le _, Nat.zero_le _⟩) (fun H locs hP hD hS => ?_)
  have hR1 : (fX1_setKind kd x v) = (fX3_write 6 kd x v) := rfl
  rw [hQ]
  exact W.vret hx hb hr (fun t ht hW => ⟨⟨(), rfl, trivial, (by show va_P D vwCl _ t.heap; rw [hR1, ht]; exact hP)⟩, hS.F ht⟩) hS.2.2 dX1_setKind_9

def fX1_setPlace (pl : Nat → Int32) (x v : Int32) : (Nat → Int32) := (fX3_write 6 pl x v)
theorem q_X1_setPlace : yX1_setPlace.cls = RX1 ∧ yX1_setPlace.cls ≠ "java/lang/invoke/MethodHandle" ∧ yX1_setPlace.cls ≠ "java/lang/invoke/VarHandle" ∧ (parseMethodDescriptor yX1_setPlace.desc).map (fun d => d.parameters.length) = some 2 := by decide +kernel
set_option maxHeartbeats 4000000 in
set_option maxRecDepth 100000 in
theorem c_X1_setPlace (l : Launch) (D : va_G) (cI cS : ClassId) (h ak ap aw : Nat) (an pn gr : Int32) (kd pl wt : Nat → Int32) (x v : Int32)  : MMv l yX1_setPlace wsX1_setPlace { frames := 1, cells := 0, slots := 0, locals := 22 } D cI cS (wSec cI h ak ap aw an pn gr kd pl wt) [.ref h, .int x, .int v] (wSec cI h ak ap aw an pn gr kd (fX1_setPlace pl x v) wt) := by
  refine kEnterM (cc := cX1_setPlace) (maxL := 3) (ret := none) (by decide) rfl (Nat.le_of_ble_eq_true rfl) ?_
  intro p e s m below meth c ls Qf hQ hx hb hml hr hlocks hown hts hK hP hD hS hl
  have hown : s.vm.findClass RX1 = some m.cls := hown
  have hl : lv_has ls 3 [(0, .ref h), (1, .int x), (2, .int v)] := hl
  generalize kA (wSec cI h ak ap aw an pn gr kd pl wt) = A at hQ hD hS
  refine lv_aload_n hx hb dX1_setPlace_0 rfl (lv_at hl 0 rfl) ?_
  refine va_get (D := D) (ci := 1) (v := .ref ap) (C := RX1) (T := TX1) (N := 6) hx hb hts (fun _ h => List.mem_cons_of_mem _ (List.mem_append_right _ h)) hown hK.1 hP 0 rfl rfl 1 (by decide) (hts (.fieldLink RX1 15 "LieNights$Secret" "places" "[I") (List.mem_of_getElem? (i := 1) rfl)) (fun _ h9 => h9) rfl dX1_setPlace_1 ?_
  refine lv_iload_n hx hb dX1_setPlace_4 rfl (lv_at hl 1 rfl) ?_
  refine lv_iload_n hx hb dX1_setPlace_5 rfl (lv_at hl 2 rfl) ?_
  refine kMv (wl' := (wSec cI h ak ap aw an pn gr kd (fX3_write 6 pl x v) wt)) (wc := (wArr cI ap 6 pl)) (w1 := (wArr cI ap 6 (fX3_write 6 pl x v))) hP hD hS [2] rfl rfl rfl (va_runSN (As := [.ref ap, .int x, .int v]) (rest := []) ⟨hx, hb, hml, hown, hts⟩ (c_X3_write l D cI cS ap 6 pl x v (by decide)) ⟨va_cnB 3 hts gX1_setPlace_X3_write_n35 rfl rfl rfl (hK.2.at 6 (q := (RX1, 35, yX3_write, "LieNights")) rfl) (hts _ (List.mem_of_getElem? (i := 3) rfl)) q_X3_write.2 ⟨Nat.le_of_ble_eq_true rfl, Nat.le_of_ble_eq_true rfl⟩, hts _ (List.mem_of_getElem? (i := 2) rfl), trivial⟩ (kMS hK hP hD [2] rfl rfl [.ref ap, .int x, .int v]) rfl rfl hl.1 rfl (lv_room (Nat.le_of_ble_eq_true rfl)) dX1_setPlace_6 ⟨Nat.zero_le _, Nat.zero_le _⟩) (fun H locs hP hD hS => ?_)
  have hR1 : (fX1_setPlace pl x v) = (fX3_write 6 pl x v) := rfl
  rw [hQ]
  exact W.vret hx hb hr (fun t ht hW => ⟨⟨(), rfl, trivial, (by show va_P D vwCl _ t.heap; rw [hR1, ht]; exact hP)⟩, hS.F ht⟩) hS.2.2 dX1_setPlace_9

def fX1_all (an : Int32) : Int32 := ((1 <<< (an &&& 31)) - 1)
theorem q_X1_all : yX1_all.cls = RX1 ∧ yX1_all.cls ≠ "java/lang/invoke/MethodHandle" ∧ yX1_all.cls ≠ "java/lang/invoke/VarHandle" ∧ (parseMethodDescriptor yX1_all.desc).map (fun d => d.parameters.length) = some 0 := by decide +kernel
set_option maxHeartbeats 4000000 in
set_option maxRecDepth 100000 in
theorem c_X1_all (l : Launch) (D : va_G) (cI cS : ClassId) (h ak ap aw : Nat) (an pn gr : Int32) (kd pl wt : Nat → Int32)  : PMi l yX1_all wsX1_all { frames := 0, cells := 0, slots := 0, locals := 0 } D cI cS (wSec cI h ak ap aw an pn gr kd pl wt) [.ref h] (fX1_all an) := by
  refine kEnter (cc := cX1_all) (maxL := 1) (ret := (some .int)) (by decide) rfl (Nat.le_of_ble_eq_true rfl) ?_
  intro p e s m below meth c ls Qf hQ hx hb hml hr hlocks hown hts hK hP hl
  have hown : s.vm.findClass RX1 = some m.cls := hown
  have hl : lv_has ls 1 [(0, .ref h)] := hl
  refine lv_iconst (v := 1) hx hb dX1_all_0 (by decide) ?_
  refine lv_aload_n hx hb dX1_all_1 rfl (lv_at hl 0 rfl) ?_
  refine va_get (D := D) (ci := 1) (v := .int an) (C := RX1) (T := TX1) (N := 6) hx hb hts (fun _ h => List.mem_cons_of_mem _ (List.mem_append_right _ h)) hown hK.1 hP 0 rfl rfl 3 (by decide) (hts (.fieldLink RX1 21 "LieNights$Secret" "answers" "I") (List.mem_of_getElem? (i := 1) rfl)) (fun _ h9 => h9) rfl dX1_all_2 ?_
  refine lv_ishl hx hb dX1_all_5 ?_
  refine lv_iconst (v := 1) hx hb dX1_all_6 (by decide) ?_
  refine lv_isub hx hb dX1_all_7 ?_
  have hR1 : (fX1_all an) = ((1 <<< (an &&& 31)) - 1) := rfl
  rw [hQ]
  exact W.iret (v := ((1 <<< (an &&& 31)) - 1)) hx hb hr (fun t ht hW => ⟨_, rfl, hR1.symm, ht⟩) (fun q h => by cases h) dX1_all_8

def fX1_shownBy (kd pl : Nat → Int32) (x t : Int32) : Int32 := (if x = t then (-9) else (if (fX3_at 6 kd x) = 1 then ((if 0 ≤ ((fX3_at 6 pl x) - (fX3_at 6 pl t)) then ((fX3_at 6 pl x) - (fX3_at 6 pl t)) else 0 - ((fX3_at 6 pl x) - (fX3_at 6 pl t))) + 1) else (if (fX3_at 6 kd x) = 2 then ((if 0 ≤ ((fX3_at 6 pl x) - (fX3_at 6 pl t)) then ((fX3_at 6 pl x) - (fX3_at 6 pl t)) else 0 - ((fX3_at 6 pl x) - (fX3_at 6 pl t))) / 2) else (if 0 ≤ ((fX3_at 6 pl x) - (fX3_at 6 pl t)) then ((fX3_at 6 pl x) - (fX3_at 6 pl t)) else 0 - ((fX3_at 6 pl x) - (fX3_at 6 pl t))))))
theorem q_X1_shownBy : yX1_shownBy.cls = RX1 ∧ yX1_shownBy.cls ≠ "java/lang/invoke/MethodHandle" ∧ yX1_shownBy.cls ≠ "java/lang/invoke/VarHandle" ∧ (parseMethodDescriptor yX1_shownBy.desc).map (fun d => d.parameters.length) = some 2 := by decide +kernel
set_option maxHeartbeats 4000000 in
set_option maxRecDepth 100000 in
theorem c_X1_shownBy (l : Launch) (D : va_G) (cI cS : ClassId) (h ak ap aw : Nat) (an pn gr : Int32) (kd pl wt : Nat → Int32) (x t : Int32)  : PMi l yX1_shownBy wsX1_shownBy { frames := 1, cells := 0, slots := 0, locals := 21 } D cI cS (wSec cI h ak ap aw an pn gr kd pl wt) [.ref h, .int x, .int t] (fX1_shownBy kd pl x t) := by
  refine kEnter (cc := cX1_shownBy) (maxL := 4) (ret := (some .int)) (by decide) rfl (Nat.le_of_ble_eq_true rfl) ?_
  intro p e s m below meth c ls Qf hQ hx hb hml hr hlocks hown hts hK hP hl
  have hown : s.vm.findClass RX1 = some m.cls := hown
  have hl : lv_has ls 4 [(0, .ref h), (1, .int x), (2, .int t)] := hl
  refine lv_iload_n hx hb dX1_shownBy_0 rfl (lv_at hl 1 rfl) ?_
  refine lv_iload_n hx hb dX1_shownBy_1 rfl (lv_at hl 2 rfl) ?_
  refine lv_icmp_ne (tgt := 8) hx hb dX1_shownBy_2 (by decide) (fun c2 => ?_) (fun c2 => ?_)
  · skip
    refine lv_aload_n hx hb dX1_shownBy_8 rfl (lv_at hl 0 rfl) ?_
    refine va_get (D := D) (ci := 1) (v := .ref ap) (C := RX1) (T := TX1) (N := 6) hx hb hts (fun _ h => List.mem_cons_of_mem _ (List.mem_append_right _ h)) hown hK.1 hP 0 rfl rfl 1 (by decide) (hts (.fieldLink RX1 15 "LieNights$Secret" "places" "[I") (List.mem_of_getElem? (i := 1) rfl)) (fun _ h9 => h9) rfl dX1_shownBy_9 ?_
    refine lv_iload_n hx hb dX1_shownBy_12 rfl (lv_at hl 1 rfl) ?_
    refine kPi (va_runSN (As := [.ref ap, .int x]) (rest := []) ⟨hx, hb, hml, hown, hts⟩ (c_X3_at l D cI cS ap 6 pl x (by decide)) ⟨va_cnB 2 hts gX1_shownBy_X3_at_n31 rfl rfl rfl (hK.2.at 7 (q := (RX1, 31, yX3_at, "LieNights")) rfl) (hts _ (List.mem_of_getElem? (i := 8) rfl)) q_X3_at.2 ⟨Nat.le_of_ble_eq_true rfl, Nat.le_of_ble_eq_true rfl⟩, hts _ (List.mem_of_getElem? (i := 7) rfl), trivial⟩ (kPS hK hP [2] rfl [.ref ap, .int x]) rfl rfl hl.1 rfl (lv_room (Nat.le_of_ble_eq_true rfl)) dX1_shownBy_13 ⟨Nat.zero_le _, Nat.zero_le _⟩) ?_
    refine lv_aload_n hx hb dX1_shownBy_16 rfl (lv_at hl 0 rfl) ?_
    refine va_get (D := D) (ci := 1) (v := .ref ap) (C := RX1) (T := TX1) (N := 6) hx hb hts (fun _ h => List.mem_cons_of_mem _ (List.mem_append_right _ h)) hown hK.1 hP 0 rfl rfl 1 (by decide) (hts (.fieldLink RX1 15 "LieNights$Secret" "places" "[I") (List.mem_of_getElem? (i := 1) rfl)) (fun _ h9 => h9) rfl dX1_shownBy_17 ?_
    refine lv_iload_n hx hb dX1_shownBy_20 rfl (lv_at hl 2 rfl) ?_
    refine kPi (va_runSN (As := [.ref ap, .int t]) (rest := [.int (fX3_at 6 pl x)]) ⟨hx, hb, hml, hown, hts⟩ (c_X3_at l D cI cS ap 6 pl t (by decide)) ⟨va_cnB 2 hts gX1_shownBy_X3_at_n31 rfl rfl rfl (hK.2.at 7 (q := (RX1, 31, yX3_at, "LieNights")) rfl) (hts _ (List.mem_of_getElem? (i := 8) rfl)) q_X3_at.2 ⟨Nat.le_of_ble_eq_true rfl, Nat.le_of_ble_eq_true rfl⟩, hts _ (List.mem_of_getElem? (i := 7) rfl), trivial⟩ (kPS hK hP [2] rfl [.ref ap, .int t]) rfl rfl hl.1 rfl (lv_room (Nat.le_of_ble_eq_true rfl)) dX1_shownBy_21 ⟨Nat.zero_le _, Nat.zero_le _⟩) ?_
    refine lv_isub hx hb dX1_shownBy_24 ?_
    refine va_mabs hx hb (hml.trans hl.1.symm) hown (hts (.methodLink RX1 39 Lib.Math.abs.name) (List.mem_of_getElem? (i := 2) rfl)) (hts (.static Lib.Math.abs.name) (List.mem_of_getElem? (i := 3) rfl)) (hts (.initialized "java/lang/Math") (List.mem_of_getElem? (i := 4) rfl)) (hts (.code Lib.Math.abs.name Lib.Math.abs.code 1 (some .int)) (List.mem_of_getElem? (i := 5) rfl)) (Nat.le_of_ble_eq_true rfl) (Nat.le_of_ble_eq_true rfl) (Nat.zero_le _) (Nat.zero_le _) dX1_shownBy_25 ?_
    refine lv_istore_n (lv' := [(3, .int (if 0 ≤ ((fX3_at 6 pl x) - (fX3_at 6 pl t)) then ((fX3_at 6 pl x) - (fX3_at 6 pl t)) else 0 - ((fX3_at 6 pl x) - (fX3_at 6 pl t)))), (0, .ref h), (1, .int x), (2, .int t)]) hx hb dX1_shownBy_28 rfl hl (by decide) rfl (fun ls hl => ?_)
    refine lv_aload_n hx hb dX1_shownBy_29 rfl (lv_at hl 1 rfl) ?_
    refine va_get (D := D) (ci := 1) (v := .ref ak) (C := RX1) (T := TX1) (N := 6) hx hb hts (fun _ h => List.mem_cons_of_mem _ (List.mem_append_right _ h)) hown hK.1 hP 0 rfl rfl 0 (by decide) (hts (.fieldLink RX1 11 "LieNights$Secret" "kinds" "[I") (List.mem_of_getElem? (i := 6) rfl)) (fun _ h9 => h9) rfl dX1_shownBy_30 ?_
    refine lv_iload_n hx hb dX1_shownBy_33 rfl (lv_at hl 2 rfl) ?_
    refine kPi (va_runSN (As := [.ref ak, .int x]) (rest := []) ⟨hx, hb, hml, hown, hts⟩ (c_X3_at l D cI cS ak 6 kd x (by decide)) ⟨va_cnB 2 hts gX1_shownBy_X3_at_n31 rfl rfl rfl (hK.2.at 7 (q := (RX1, 31, yX3_at, "LieNights")) rfl) (hts _ (List.mem_of_getElem? (i := 8) rfl)) q_X3_at.2 ⟨Nat.le_of_ble_eq_true rfl, Nat.le_of_ble_eq_true rfl⟩, hts _ (List.mem_of_getElem? (i := 7) rfl), trivial⟩ (kPS hK hP [1] rfl [.ref ak, .int x]) rfl rfl hl.1 rfl (lv_room (Nat.le_of_ble_eq_true rfl)) dX1_shownBy_34 ⟨Nat.zero_le _, Nat.zero_le _⟩) ?_
    by_cases c37_1 : (fX3_at 6 kd x) = 1
    · skip
      refine lv_lookup (tgt := 64) (off := 27) hx hb dX1_shownBy_37 (by decide) (by rw [c37_1]; decide) (by decide) ?_
      refine lv_iload_n hx hb dX1_shownBy_64 rfl (lv_at hl 0 rfl) ?_
      refine lv_iconst (v := 1) hx hb dX1_shownBy_65 (by decide) ?_
      refine lv_iadd hx hb dX1_shownBy_66 ?_
      have hR1 : (fX1_shownBy kd pl x t) = ((if 0 ≤ ((fX3_at 6 pl x) - (fX3_at 6 pl t)) then ((fX3_at 6 pl x) - (fX3_at 6 pl t)) else 0 - ((fX3_at 6 pl x) - (fX3_at 6 pl t))) + 1) := (by unfold fX1_shownBy; rw [if_neg c2, if_pos c37_1])
      rw [hQ]
      exact W.iret (v := ((if 0 ≤ ((fX3_at 6 pl x) - (fX3_at 6 pl t)) then ((fX3_at 6 pl x) - (fX3_at 6 pl t)) else 0 - ((fX3_at 6 pl x) - (fX3_at 6 pl t))) + 1)) hx hb hr (fun t ht hW => ⟨_, rfl, hR1.symm, ht⟩) (fun q h => by cases h) dX1_shownBy_67
    by_cases c37_2 : (fX3_at 6 kd x) = 2
    · skip
      refine lv_lookup (tgt := 68) (off := 31) hx hb dX1_shownBy_37 (by decide) (by rw [c37_2]; decide) (by decide) ?_
      refine lv_iload_n hx hb dX1_shownBy_68 rfl (lv_at hl 0 rfl) ?_
      refine lv_iconst (v := 2) hx hb dX1_shownBy_69 (by decide) ?_
      refine lv_idiv hx hb dX1_shownBy_70 (by decide) ?_
      have hR2 : (fX1_shownBy kd pl x t) = ((if 0 ≤ ((fX3_at 6 pl x) - (fX3_at 6 pl t)) then ((fX3_at 6 pl x) - (fX3_at 6 pl t)) else 0 - ((fX3_at 6 pl x) - (fX3_at 6 pl t))) / 2) := (by unfold fX1_shownBy; rw [if_neg c2, if_neg c37_1, if_pos c37_2])
      rw [hQ]
      exact W.iret (v := ((if 0 ≤ ((fX3_at 6 pl x) - (fX3_at 6 pl t)) then ((fX3_at 6 pl x) - (fX3_at 6 pl t)) else 0 - ((fX3_at 6 pl x) - (fX3_at 6 pl t))) / 2)) hx hb hr (fun t ht hW => ⟨_, rfl, hR2.symm, ht⟩) (fun q h => by cases h) dX1_shownBy_71
    refine lv_lookup (tgt := 72) (off := 35) hx hb dX1_shownBy_37 (by decide) (by rw [lv_osw (k := 1) (a := 1) c37_1 rfl, lv_osw (k := 2) (a := 2) c37_2 rfl]; rfl) (by decide) ?_
    refine lv_iload_n hx hb dX1_shownBy_72 rfl (lv_at hl 0 rfl) ?_
    have hR3 : (fX1_shownBy kd pl x t) = (if 0 ≤ ((fX3_at 6 pl x) - (fX3_at 6 pl t)) then ((fX3_at 6 pl x) - (fX3_at 6 pl t)) else 0 - ((fX3_at 6 pl x) - (fX3_at 6 pl t))) := (by unfold fX1_shownBy; rw [if_neg c2, if_neg c37_1, if_neg c37_2])
    rw [hQ]
    exact W.iret (v := (if 0 ≤ ((fX3_at 6 pl x) - (fX3_at 6 pl t)) then ((fX3_at 6 pl x) - (fX3_at 6 pl t)) else 0 - ((fX3_at 6 pl x) - (fX3_at 6 pl t)))) hx hb hr (fun t ht hW => ⟨_, rfl, hR3.symm, ht⟩) (fun q h => by cases h) dX1_shownBy_73
  refine lv_bipush (v := (-9)) hx hb dX1_shownBy_5 (by decide) ?_
  have hR4 : (fX1_shownBy kd pl x t) = (-9) := (by unfold fX1_shownBy; rw [if_pos c2])
  rw [hQ]
  exact W.iret (v := (-9)) hx hb hr (fun t ht hW => ⟨_, rfl, hR4.symm, ht⟩) (fun q h => by cases h) dX1_shownBy_7

def aX1_alike_13 (v4_13 : Int32) : Int32 := v4_13
def sX1_alike_13 (kd pl : Nat → Int32) (x t : Int32) (k13 : Nat) (v4_13 : Int32) : (Int32) := (if (fX1_shownBy kd pl x (nI k13)) = (fX1_shownBy kd pl x t) then (v4_13 ||| (1 <<< ((nI k13) &&& 31))) else v4_13)
def fX1_alike (kd pl : Nat → Int32) (N : Nat) (x t : Int32) : Int32 := (aX1_alike_13  (lp (fun k a => sX1_alike_13 kd pl x t k a) 0 N))
theorem q_X1_alike : yX1_alike.cls = RX1 ∧ yX1_alike.cls ≠ "java/lang/invoke/MethodHandle" ∧ yX1_alike.cls ≠ "java/lang/invoke/VarHandle" ∧ (parseMethodDescriptor yX1_alike.desc).map (fun d => d.parameters.length) = some 2 := by decide +kernel
set_option maxHeartbeats 4000000 in
set_option maxRecDepth 100000 in
theorem c_X1_alike (l : Launch) (D : va_G) (cI cS : ClassId) (h ak ap aw : Nat) (an pn gr : Int32) (kd pl wt : Nat → Int32) (N : Nat) (x t : Int32) (ha : an = nI N) (hN : N ≤ 6) : PMi l yX1_alike wsX1_alike { frames := 2, cells := 0, slots := 0, locals := 44 } D cI cS (wSec cI h ak ap aw an pn gr kd pl wt) [.ref h, .int x, .int t] (fX1_alike kd pl N x t) := by
  refine kEnter (cc := cX1_alike) (maxL := 6) (ret := (some .int)) (by decide) rfl (Nat.le_of_ble_eq_true rfl) ?_
  intro p e s m below meth c ls Qf hQ hx hb hml hr hlocks hown hts hK hP hl
  have hown : s.vm.findClass RX1 = some m.cls := hown
  have hl : lv_has ls 6 [(0, .ref h), (1, .int x), (2, .int t)] := hl
  refine lv_aload_n hx hb dX1_alike_0 rfl (lv_at hl 0 rfl) ?_
  refine lv_iload_n hx hb dX1_alike_1 rfl (lv_at hl 1 rfl) ?_
  refine lv_iload_n hx hb dX1_alike_2 rfl (lv_at hl 2 rfl) ?_
  refine kPi (va_runV (As := [.int x, .int t]) (rest := []) ⟨hx, hb, hml, hown, hts⟩ (c_X1_shownBy l D cI cS h ak ap aw an pn gr kd pl wt x t) (cwV 2 hts gX1_alike_X1_shownBy rfl rfl rfl q_X1_shownBy ⟨Nat.le_of_ble_eq_true rfl, Nat.le_of_ble_eq_true rfl⟩) (kPV hK hP [0, 1, 2, 3] rfl (va_recv hK.1 hP (ci := 1) (q0 := 0) rfl rfl) [.int x, .int t]) rfl rfl hl.1 rfl (lv_room (Nat.le_of_ble_eq_true rfl)) dX1_alike_3 ⟨Nat.zero_le _, Nat.zero_le _⟩) ?_
  refine lv_istore_n (lv' := [(3, .int (fX1_shownBy kd pl x t)), (0, .ref h), (1, .int x), (2, .int t)]) hx hb dX1_alike_6 rfl hl (by decide) rfl (fun ls hl => ?_)
  refine lv_iconst (v := 0) hx hb dX1_alike_7 (by decide) ?_
  refine lv_istore (lv' := [(4, .int 0), (3, .int (fX1_shownBy kd pl x t)), (0, .ref h), (1, .int x), (2, .int t)]) hx hb dX1_alike_8 hl (by decide) rfl (fun ls hl => ?_)
  refine lv_iconst (v := 0) hx hb dX1_alike_10 (by decide) ?_
  refine lv_istore (lv' := [(5, .int 0), (4, .int 0), (3, .int (fX1_shownBy kd pl x t)), (0, .ref h), (1, .int x), (2, .int t)]) hx hb dX1_alike_11 hl (by decide) rfl (fun ls hl => ?_)
  have hR1 : (fX1_alike kd pl N x t) = (aX1_alike_13  (lp (fun k a => sX1_alike_13 kd pl x t k a) 0 N)) := rfl
  have loop13 : ∀ (n k13 : Nat), k13 ≤ N → N + 1 ≤ k13 + n → ∀ (v4_13 : Int32), lp (fun k a => sX1_alike_13 kd pl x t k a) 0 k13 = v4_13 →  ∀ (ls : Array Slot), lv_has ls 6 [(0, .ref h), (1, .int x), (2, .int t), (3, .int (fX1_shownBy kd pl x t)), (4, .int v4_13), (5, .int (nI k13))] → W p l e { frames := 2, cells := 0, slots := 0, locals := 44 } s m ([.ref h, .int x, .int t] : List Value).toArray below meth c s.heap [] 0 0 Qf (F0 m 13 ls []) := by
    intro n
    induction n with
    | zero => intro k13 h1 h2; exact absurd h2 (by omega)
    | succ n ih =>
      intro k13 hk13 hn13 v4_13 hacc13  ls hl
      have ih13 := ih
      refine lv_iload hx hb dX1_alike_13 (lv_at hl 5 rfl) ?_
      refine lv_aload_n hx hb dX1_alike_15 rfl (lv_at hl 0 rfl) ?_
      refine va_get (D := D) (ci := 1) (v := .int an) (C := RX1) (T := TX1) (N := 6) hx hb hts (fun _ h => List.mem_cons_of_mem _ (List.mem_append_right _ h)) hown hK.1 hP 0 rfl rfl 3 (by decide) (hts (.fieldLink RX1 21 "LieNights$Secret" "answers" "I") (List.mem_of_getElem? (i := 1) rfl)) (fun _ h9 => h9) rfl dX1_alike_16 ?_
      refine lv_icmp_ge (tgt := 48) hx hb dX1_alike_19 (by decide) (fun c19 => ?_) (fun c19 => ?_)
      · skip
        have hkN : k13 = N := (kEnd hk13 rfl ha (by omega) c19)
        rw [hkN] at hacc13
        have hR2 : (fX1_alike kd pl N x t) = aX1_alike_13  v4_13 := hR1.trans (lp_end (x := v4_13) (g := (fun a => aX1_alike_13  a)) hacc13)
        refine lv_iload hx hb dX1_alike_48 (lv_at hl 4 rfl) ?_
        have hR3 : (fX1_alike kd pl N x t) = v4_13 := hR2.trans rfl
        rw [hQ]
        exact W.iret (v := v4_13) hx hb hr (fun t ht hW => ⟨_, rfl, hR3.symm, ht⟩) (fun q h => by cases h) dX1_alike_50
      have hlt13 : k13 < N := (kLt hk13 rfl ha c19)
      refine lv_aload_n hx hb dX1_alike_22 rfl (lv_at hl 0 rfl) ?_
      refine lv_iload_n hx hb dX1_alike_23 rfl (lv_at hl 1 rfl) ?_
      refine lv_iload hx hb dX1_alike_24 (lv_at hl 5 rfl) ?_
      refine kPi (va_runV (As := [.int x, .int (nI k13)]) (rest := []) ⟨hx, hb, hml, hown, hts⟩ (c_X1_shownBy l D cI cS h ak ap aw an pn gr kd pl wt x (nI k13)) (cwV 2 hts gX1_alike_X1_shownBy rfl rfl rfl q_X1_shownBy ⟨Nat.le_of_ble_eq_true rfl, Nat.le_of_ble_eq_true rfl⟩) (kPV hK hP [0, 1, 2, 3] rfl (va_recv hK.1 hP (ci := 1) (q0 := 0) rfl rfl) [.int x, .int (nI k13)]) rfl rfl hl.1 rfl (lv_room (Nat.le_of_ble_eq_true rfl)) dX1_alike_26 ⟨Nat.zero_le _, Nat.zero_le _⟩) ?_
      refine lv_iload_n hx hb dX1_alike_29 rfl (lv_at hl 3 rfl) ?_
      refine lv_icmp_ne (tgt := 42) hx hb dX1_alike_30 (by decide) (fun c30 => ?_) (fun c30 => ?_)
      · skip
        refine lv_iinc (v := (nI (k13 + 1))) (lv' := [(5, .int (nI (k13 + 1))), (0, .ref h), (1, .int x), (2, .int t), (3, .int (fX1_shownBy kd pl x t)), (4, .int v4_13)]) hx hb dX1_alike_42 hl (k := 5) rfl (nI_1 (k13)) (by decide) rfl (fun ls hl => ?_)
        refine lv_goto (tgt := 13) hx hb dX1_alike_45 (by decide) ?_
        have hR4 : sX1_alike_13 kd pl x t k13 v4_13 = v4_13 := (by unfold sX1_alike_13; rw [if_neg c30])
        exact ih13 (k13 + 1) hlt13 (by omega) _ (lp_next hacc13 hR4)  ls (lv_sub hl [1, 2, 3, 4, 5, 0] rfl)
      refine lv_iload hx hb dX1_alike_33 (lv_at hl 4 rfl) ?_
      refine lv_iconst (v := 1) hx hb dX1_alike_35 (by decide) ?_
      refine lv_iload hx hb dX1_alike_36 (lv_at hl 5 rfl) ?_
      refine lv_ishl hx hb dX1_alike_38 ?_
      refine lv_ior hx hb dX1_alike_39 ?_
      refine lv_istore (lv' := [(4, .int (v4_13 ||| (1 <<< ((nI k13) &&& 31)))), (0, .ref h), (1, .int x), (2, .int t), (3, .int (fX1_shownBy kd pl x t)), (5, .int (nI k13))]) hx hb dX1_alike_40 hl (by decide) rfl (fun ls hl => ?_)
      refine lv_iinc (v := (nI (k13 + 1))) (lv' := [(5, .int (nI (k13 + 1))), (4, .int (v4_13 ||| (1 <<< ((nI k13) &&& 31)))), (0, .ref h), (1, .int x), (2, .int t), (3, .int (fX1_shownBy kd pl x t))]) hx hb dX1_alike_42 hl (k := 5) rfl (nI_1 (k13)) (by decide) rfl (fun ls hl => ?_)
      refine lv_goto (tgt := 13) hx hb dX1_alike_45 (by decide) ?_
      have hR5 : sX1_alike_13 kd pl x t k13 v4_13 = (v4_13 ||| (1 <<< ((nI k13) &&& 31))) := (by unfold sX1_alike_13; rw [if_pos c30])
      exact ih13 (k13 + 1) hlt13 (by omega) _ (lp_next hacc13 hR5)  ls (lv_sub hl [2, 3, 4, 5, 1, 0] rfl)
  exact loop13 (N + 1) 0 (Nat.zero_le _) (by omega) _ rfl  ls (lv_sub hl [3, 4, 5, 2, 1, 0] rfl)

def fX2_isNothing (la : Int32) : Int32 := (if la = (-1) then 1 else 0)
theorem q_X2_isNothing : yX2_isNothing.cls = RX2 ∧ yX2_isNothing.cls ≠ "java/lang/invoke/MethodHandle" ∧ yX2_isNothing.cls ≠ "java/lang/invoke/VarHandle" ∧ (parseMethodDescriptor yX2_isNothing.desc).map (fun d => d.parameters.length) = some 0 := by decide +kernel
set_option maxHeartbeats 4000000 in
set_option maxRecDepth 100000 in
theorem c_X2_isNothing (l : Launch) (D : va_G) (cI cS : ClassId) (h ac : Nat) (la le : Int32) (ce : Nat → Int32)  : PMi l yX2_isNothing wsX2_isNothing { frames := 0, cells := 0, slots := 0, locals := 0 } D cI cS (wSh cI h ac la le ce) [.ref h] (fX2_isNothing la) := by
  refine kEnter (cc := cX2_isNothing) (maxL := 1) (ret := (some .boolean)) (by decide) rfl (Nat.le_of_ble_eq_true rfl) ?_
  intro p e s m below meth c ls Qf hQ hx hb hml hr hlocks hown hts hK hP hl
  have hown : s.vm.findClass RX2 = some m.cls := hown
  have hl : lv_has ls 1 [(0, .ref h)] := hl
  refine lv_aload_n hx hb dX2_isNothing_0 rfl (lv_at hl 0 rfl) ?_
  refine va_get (D := D) (ci := 2) (v := .int la) (C := RX2) (T := TX2) (N := 3) hx hb hts (fun _ h => List.mem_cons_of_mem _ (List.mem_append_right _ h)) hown hK.1 hP 0 rfl rfl 1 (by decide) (hts (.fieldLink RX2 15 "LieNights$Sheet" "lane" "I") (List.mem_of_getElem? (i := 1) rfl)) (fun _ h9 => h9) rfl dX2_isNothing_1 ?_
  refine lv_iconst (v := (-1)) hx hb dX2_isNothing_4 (by decide) ?_
  refine lv_icmp_ne (tgt := 12) hx hb dX2_isNothing_5 (by decide) (fun c5 => ?_) (fun c5 => ?_)
  · skip
    refine lv_iconst (v := 0) hx hb dX2_isNothing_12 (by decide) ?_
    have hR1 : (fX2_isNothing la) = 0 := (by unfold fX2_isNothing; rw [if_neg c5])
    rw [hQ]
    exact W.zret (v := 0) (ty := .boolean) hx hb hr rfl (fun t ht hW => ⟨_, rfl, hR1.symm, ht⟩) (fun q h => by cases h) dX2_isNothing_13
  refine lv_iconst (v := 1) hx hb dX2_isNothing_8 (by decide) ?_
  refine lv_goto (tgt := 13) hx hb dX2_isNothing_9 (by decide) ?_
  have hR2 : (fX2_isNothing la) = 1 := (by unfold fX2_isNothing; rw [if_pos c5])
  rw [hQ]
  exact W.zret (v := 1) (ty := .boolean) hx hb hr rfl (fun t ht hW => ⟨_, rfl, hR2.symm, ht⟩) (fun q h => by cases h) dX2_isNothing_13

def fX2_isLikeLane (la la2 : Int32) : Int32 := (if la = la2 then 1 else 0)
theorem q_X2_isLikeLane : yX2_isLikeLane.cls = RX2 ∧ yX2_isLikeLane.cls ≠ "java/lang/invoke/MethodHandle" ∧ yX2_isLikeLane.cls ≠ "java/lang/invoke/VarHandle" ∧ (parseMethodDescriptor yX2_isLikeLane.desc).map (fun d => d.parameters.length) = some 1 := by decide +kernel
set_option maxHeartbeats 4000000 in
set_option maxRecDepth 100000 in
theorem c_X2_isLikeLane (l : Launch) (D : va_G) (cI cS : ClassId) (h ac : Nat) (la le : Int32) (ce : Nat → Int32) (h2 ac2 : Nat) (la2 le2 : Int32) (ce2 : Nat → Int32)  : PMi l yX2_isLikeLane wsX2_isLikeLane { frames := 0, cells := 0, slots := 0, locals := 0 } D cI cS (wSh2 cI h ac la le ce h2 ac2 la2 le2 ce2) [.ref h, .ref h2] (fX2_isLikeLane la la2) := by
  refine kEnter (cc := cX2_isLikeLane) (maxL := 2) (ret := (some .boolean)) (by decide) rfl (Nat.le_of_ble_eq_true rfl) ?_
  intro p e s m below meth c ls Qf hQ hx hb hml hr hlocks hown hts hK hP hl
  have hown : s.vm.findClass RX2 = some m.cls := hown
  have hl : lv_has ls 2 [(0, .ref h), (1, .ref h2)] := hl
  refine lv_aload_n hx hb dX2_isLikeLane_0 rfl (lv_at hl 0 rfl) ?_
  refine va_get (D := D) (ci := 2) (v := .int la) (C := RX2) (T := TX2) (N := 3) hx hb hts (fun _ h => List.mem_cons_of_mem _ (List.mem_append_right _ h)) hown hK.1 hP 0 rfl rfl 1 (by decide) (hts (.fieldLink RX2 15 "LieNights$Sheet" "lane" "I") (List.mem_of_getElem? (i := 1) rfl)) (fun _ h9 => h9) rfl dX2_isLikeLane_1 ?_
  refine lv_aload_n hx hb dX2_isLikeLane_4 rfl (lv_at hl 1 rfl) ?_
  refine va_get (D := D) (ci := 2) (v := .int la2) (C := RX2) (T := TX2) (N := 3) hx hb hts (fun _ h => List.mem_cons_of_mem _ (List.mem_append_right _ h)) hown hK.1 hP 2 rfl rfl 1 (by decide) (hts (.fieldLink RX2 15 "LieNights$Sheet" "lane" "I") (List.mem_of_getElem? (i := 1) rfl)) (fun _ h9 => h9) rfl dX2_isLikeLane_5 ?_
  refine lv_icmp_ne (tgt := 15) hx hb dX2_isLikeLane_8 (by decide) (fun c8 => ?_) (fun c8 => ?_)
  · skip
    refine lv_iconst (v := 0) hx hb dX2_isLikeLane_15 (by decide) ?_
    have hR1 : (fX2_isLikeLane la la2) = 0 := (by unfold fX2_isLikeLane; rw [if_neg c8])
    rw [hQ]
    exact W.zret (v := 0) (ty := .boolean) hx hb hr rfl (fun t ht hW => ⟨_, rfl, hR1.symm, ht⟩) (fun q h => by cases h) dX2_isLikeLane_16
  refine lv_iconst (v := 1) hx hb dX2_isLikeLane_11 (by decide) ?_
  refine lv_goto (tgt := 16) hx hb dX2_isLikeLane_12 (by decide) ?_
  have hR2 : (fX2_isLikeLane la la2) = 1 := (by unfold fX2_isLikeLane; rw [if_pos c8])
  rw [hQ]
  exact W.zret (v := 1) (ty := .boolean) hx hb hr rfl (fun t ht hW => ⟨_, rfl, hR2.symm, ht⟩) (fun q h => by cases h) dX2_isLikeLane_16

def fX2_isLikeLane_a (la : Int32) : Int32 := (if la = la then 1 else 0)
set_option maxHeartbeats 4000000 in
set_option maxRecDepth 100000 in
theorem c_X2_isLikeLane_a (l : Launch) (D : va_G) (cI cS : ClassId) (h ac : Nat) (la le : Int32) (ce : Nat → Int32)  : PMi l yX2_isLikeLane wsX2_isLikeLane { frames := 0, cells := 0, slots := 0, locals := 0 } D cI cS (wSh cI h ac la le ce) [.ref h, .ref h] (fX2_isLikeLane_a la) := by
  refine kEnter (cc := cX2_isLikeLane) (maxL := 2) (ret := (some .boolean)) (by decide) rfl (Nat.le_of_ble_eq_true rfl) ?_
  intro p e s m below meth c ls Qf hQ hx hb hml hr hlocks hown hts hK hP hl
  have hown : s.vm.findClass RX2 = some m.cls := hown
  have hl : lv_has ls 2 [(0, .ref h), (1, .ref h)] := hl
  refine lv_aload_n hx hb dX2_isLikeLane_0 rfl (lv_at hl 0 rfl) ?_
  refine va_get (D := D) (ci := 2) (v := .int la) (C := RX2) (T := TX2) (N := 3) hx hb hts (fun _ h => List.mem_cons_of_mem _ (List.mem_append_right _ h)) hown hK.1 hP 0 rfl rfl 1 (by decide) (hts (.fieldLink RX2 15 "LieNights$Sheet" "lane" "I") (List.mem_of_getElem? (i := 1) rfl)) (fun _ h9 => h9) rfl dX2_isLikeLane_1 ?_
  refine lv_aload_n hx hb dX2_isLikeLane_4 rfl (lv_at hl 1 rfl) ?_
  refine va_get (D := D) (ci := 2) (v := .int la) (C := RX2) (T := TX2) (N := 3) hx hb hts (fun _ h => List.mem_cons_of_mem _ (List.mem_append_right _ h)) hown hK.1 hP 0 rfl rfl 1 (by decide) (hts (.fieldLink RX2 15 "LieNights$Sheet" "lane" "I") (List.mem_of_getElem? (i := 1) rfl)) (fun _ h9 => h9) rfl dX2_isLikeLane_5 ?_
  refine lv_icmp_ne (tgt := 15) hx hb dX2_isLikeLane_8 (by decide) (fun c8 => ?_) (fun c8 => ?_)
  · skip
    refine lv_iconst (v := 0) hx hb dX2_isLikeLane_15 (by decide) ?_
    have hR1 : (fX2_isLikeLane_a la) = 0 := (by unfold fX2_isLikeLane_a; rw [if_neg c8])
    rw [hQ]
    exact W.zret (v := 0) (ty := .boolean) hx hb hr rfl (fun t ht hW => ⟨_, rfl, hR1.symm, ht⟩) (fun q h => by cases h) dX2_isLikeLane_16
  refine lv_iconst (v := 1) hx hb dX2_isLikeLane_11 (by decide) ?_
  refine lv_goto (tgt := 16) hx hb dX2_isLikeLane_12 (by decide) ?_
  have hR2 : (fX2_isLikeLane_a la) = 1 := (by unfold fX2_isLikeLane_a; rw [if_pos c8])
  rw [hQ]
  exact W.zret (v := 1) (ty := .boolean) hx hb hr rfl (fun t ht hW => ⟨_, rfl, hR2.symm, ht⟩) (fun q h => by cases h) dX2_isLikeLane_16

def fX2_faultAs (la wa : Int32) : Int32 := (if (fX2_isNothing la) = 0 then (if la = wa then 0 else 2) else 1)
theorem q_X2_faultAs : yX2_faultAs.cls = RX2 ∧ yX2_faultAs.cls ≠ "java/lang/invoke/MethodHandle" ∧ yX2_faultAs.cls ≠ "java/lang/invoke/VarHandle" ∧ (parseMethodDescriptor yX2_faultAs.desc).map (fun d => d.parameters.length) = some 1 := by decide +kernel
set_option maxHeartbeats 4000000 in
set_option maxRecDepth 100000 in
theorem c_X2_faultAs (l : Launch) (D : va_G) (cI cS : ClassId) (h ac : Nat) (la le : Int32) (ce : Nat → Int32) (wa : Int32)  : PMi l yX2_faultAs wsX2_faultAs { frames := 1, cells := 0, slots := 0, locals := 20 } D cI cS (wSh cI h ac la le ce) [.ref h, .int wa] (fX2_faultAs la wa) := by
  refine kEnter (cc := cX2_faultAs) (maxL := 2) (ret := (some .int)) (by decide) rfl (Nat.le_of_ble_eq_true rfl) ?_
  intro p e s m below meth c ls Qf hQ hx hb hml hr hlocks hown hts hK hP hl
  have hown : s.vm.findClass RX2 = some m.cls := hown
  have hl : lv_has ls 2 [(0, .ref h), (1, .int wa)] := hl
  refine lv_aload_n hx hb dX2_faultAs_0 rfl (lv_at hl 0 rfl) ?_
  refine kPi (va_runV (As := []) (rest := []) ⟨hx, hb, hml, hown, hts⟩ (c_X2_isNothing l D cI cS h ac la le ce) (cwV 0 hts gX2_faultAs_X2_isNothing rfl rfl rfl q_X2_isNothing ⟨Nat.le_of_ble_eq_true rfl, Nat.le_of_ble_eq_true rfl⟩) (kPV hK hP [0, 1] rfl (va_recv hK.1 hP (ci := 2) (q0 := 0) rfl rfl) []) rfl rfl hl.1 rfl (lv_room (Nat.le_of_ble_eq_true rfl)) dX2_faultAs_1 ⟨Nat.zero_le _, Nat.zero_le _⟩) ?_
  refine lv_if_eq (tgt := 9) hx hb dX2_faultAs_4 (by decide) (fun c4 => ?_) (fun c4 => ?_)
  · skip
    refine lv_aload_n hx hb dX2_faultAs_9 rfl (lv_at hl 0 rfl) ?_
    refine va_get (D := D) (ci := 2) (v := .int la) (C := RX2) (T := TX2) (N := 3) hx hb hts (fun _ h => List.mem_cons_of_mem _ (List.mem_append_right _ h)) hown hK.1 hP 0 rfl rfl 1 (by decide) (hts (.fieldLink RX2 15 "LieNights$Sheet" "lane" "I") (List.mem_of_getElem? (i := 1) rfl)) (fun _ h9 => h9) rfl dX2_faultAs_10 ?_
    refine lv_iload_n hx hb dX2_faultAs_13 rfl (lv_at hl 1 rfl) ?_
    refine lv_icmp_ne (tgt := 21) hx hb dX2_faultAs_14 (by decide) (fun c14 => ?_) (fun c14 => ?_)
    · skip
      refine lv_iconst (v := 2) hx hb dX2_faultAs_21 (by decide) ?_
      have hR1 : (fX2_faultAs la wa) = 2 := (by unfold fX2_faultAs; rw [if_pos c4, if_neg c14])
      rw [hQ]
      exact W.iret (v := 2) hx hb hr (fun t ht hW => ⟨_, rfl, hR1.symm, ht⟩) (fun q h => by cases h) dX2_faultAs_22
    refine lv_iconst (v := 0) hx hb dX2_faultAs_17 (by decide) ?_
    refine lv_goto (tgt := 22) hx hb dX2_faultAs_18 (by decide) ?_
    have hR2 : (fX2_faultAs la wa) = 0 := (by unfold fX2_faultAs; rw [if_pos c4, if_pos c14])
    rw [hQ]
    exact W.iret (v := 0) hx hb hr (fun t ht hW => ⟨_, rfl, hR2.symm, ht⟩) (fun q h => by cases h) dX2_faultAs_22
  refine lv_iconst (v := 1) hx hb dX2_faultAs_7 (by decide) ?_
  have hR3 : (fX2_faultAs la wa) = 1 := (by unfold fX2_faultAs; rw [if_neg c4])
  rw [hQ]
  exact W.iret (v := 1) hx hb hr (fun t ht hW => ⟨_, rfl, hR3.symm, ht⟩) (fun q h => by cases h) dX2_faultAs_8

def fX2_hasCells (le i nn : Int32) : Int32 := (if (fX3_within i le) = 0 then 0 else (if (fX3_within nn (le - i)) = 0 then 0 else 1))
theorem q_X2_hasCells : yX2_hasCells.cls = RX2 ∧ yX2_hasCells.cls ≠ "java/lang/invoke/MethodHandle" ∧ yX2_hasCells.cls ≠ "java/lang/invoke/VarHandle" ∧ (parseMethodDescriptor yX2_hasCells.desc).map (fun d => d.parameters.length) = some 2 := by decide +kernel
set_option maxHeartbeats 4000000 in
set_option maxRecDepth 100000 in
theorem c_X2_hasCells (l : Launch) (D : va_G) (cI cS : ClassId) (h ac : Nat) (la le : Int32) (ce : Nat → Int32) (i nn : Int32)  : PMi l yX2_hasCells wsX2_hasCells { frames := 1, cells := 0, slots := 0, locals := 21 } D cI cS (wSh cI h ac la le ce) [.ref h, .int i, .int nn] (fX2_hasCells le i nn) := by
  refine kEnter (cc := cX2_hasCells) (maxL := 3) (ret := (some .boolean)) (by decide) rfl (Nat.le_of_ble_eq_true rfl) ?_
  intro p e s m below meth c ls Qf hQ hx hb hml hr hlocks hown hts hK hP hl
  have hown : s.vm.findClass RX2 = some m.cls := hown
  have hl : lv_has ls 3 [(0, .ref h), (1, .int i), (2, .int nn)] := hl
  refine lv_iload_n hx hb dX2_hasCells_0 rfl (lv_at hl 1 rfl) ?_
  refine lv_aload_n hx hb dX2_hasCells_1 rfl (lv_at hl 0 rfl) ?_
  refine va_get (D := D) (ci := 2) (v := .int le) (C := RX2) (T := TX2) (N := 3) hx hb hts (fun _ h => List.mem_cons_of_mem _ (List.mem_append_right _ h)) hown hK.1 hP 0 rfl rfl 2 (by decide) (hts (.fieldLink RX2 23 "LieNights$Sheet" "length" "I") (List.mem_of_getElem? (i := 1) rfl)) (fun _ h9 => h9) rfl dX2_hasCells_2 ?_
  refine kPi (va_runSN (As := [.int i, .int le]) (rest := []) ⟨hx, hb, hml, hown, hts⟩ (c_X3_within l D cI cS i le) ⟨va_cnB 2 hts gX2_hasCells_X3_within_n26 rfl rfl rfl (hK.2.at 3 (q := (RX2, 26, yX3_within, "LieNights")) rfl) (hts _ (List.mem_of_getElem? (i := 3) rfl)) q_X3_within.2 ⟨Nat.le_of_ble_eq_true rfl, Nat.le_of_ble_eq_true rfl⟩, hts _ (List.mem_of_getElem? (i := 2) rfl), trivial⟩ (kPS hK hP [] rfl [.int i, .int le]) rfl rfl hl.1 rfl (lv_room (Nat.le_of_ble_eq_true rfl)) dX2_hasCells_5 ⟨Nat.zero_le _, Nat.zero_le _⟩) ?_
  refine lv_if_eq (tgt := 28) hx hb dX2_hasCells_8 (by decide) (fun c8 => ?_) (fun c8 => ?_)
  · skip
    refine lv_iconst (v := 0) hx hb dX2_hasCells_28 (by decide) ?_
    have hR1 : (fX2_hasCells le i nn) = 0 := (by unfold fX2_hasCells; rw [if_pos c8])
    rw [hQ]
    exact W.zret (v := 0) (ty := .boolean) hx hb hr rfl (fun t ht hW => ⟨_, rfl, hR1.symm, ht⟩) (fun q h => by cases h) dX2_hasCells_29
  refine lv_iload_n hx hb dX2_hasCells_11 rfl (lv_at hl 2 rfl) ?_
  refine lv_aload_n hx hb dX2_hasCells_12 rfl (lv_at hl 0 rfl) ?_
  refine va_get (D := D) (ci := 2) (v := .int le) (C := RX2) (T := TX2) (N := 3) hx hb hts (fun _ h => List.mem_cons_of_mem _ (List.mem_append_right _ h)) hown hK.1 hP 0 rfl rfl 2 (by decide) (hts (.fieldLink RX2 23 "LieNights$Sheet" "length" "I") (List.mem_of_getElem? (i := 1) rfl)) (fun _ h9 => h9) rfl dX2_hasCells_13 ?_
  refine lv_iload_n hx hb dX2_hasCells_16 rfl (lv_at hl 1 rfl) ?_
  refine lv_isub hx hb dX2_hasCells_17 ?_
  refine kPi (va_runSN (As := [.int nn, .int (le - i)]) (rest := []) ⟨hx, hb, hml, hown, hts⟩ (c_X3_within l D cI cS nn (le - i)) ⟨va_cnB 2 hts gX2_hasCells_X3_within_n26 rfl rfl rfl (hK.2.at 3 (q := (RX2, 26, yX3_within, "LieNights")) rfl) (hts _ (List.mem_of_getElem? (i := 3) rfl)) q_X3_within.2 ⟨Nat.le_of_ble_eq_true rfl, Nat.le_of_ble_eq_true rfl⟩, hts _ (List.mem_of_getElem? (i := 2) rfl), trivial⟩ (kPS hK hP [] rfl [.int nn, .int (le - i)]) rfl rfl hl.1 rfl (lv_room (Nat.le_of_ble_eq_true rfl)) dX2_hasCells_18 ⟨Nat.zero_le _, Nat.zero_le _⟩) ?_
  refine lv_if_eq (tgt := 28) hx hb dX2_hasCells_21 (by decide) (fun c21 => ?_) (fun c21 => ?_)
  · skip
    refine lv_iconst (v := 0) hx hb dX2_hasCells_28 (by decide) ?_
    have hR2 : (fX2_hasCells le i nn) = 0 := (by unfold fX2_hasCells; rw [if_neg c8, if_pos c21])
    rw [hQ]
    exact W.zret (v := 0) (ty := .boolean) hx hb hr rfl (fun t ht hW => ⟨_, rfl, hR2.symm, ht⟩) (fun q h => by cases h) dX2_hasCells_29
  refine lv_iconst (v := 1) hx hb dX2_hasCells_24 (by decide) ?_
  refine lv_goto (tgt := 29) hx hb dX2_hasCells_25 (by decide) ?_
  have hR3 : (fX2_hasCells le i nn) = 1 := (by unfold fX2_hasCells; rw [if_neg c8, if_neg c21])
  rw [hQ]
  exact W.zret (v := 1) (ty := .boolean) hx hb hr rfl (fun t ht hW => ⟨_, rfl, hR3.symm, ht⟩) (fun q h => by cases h) dX2_hasCells_29

def aX2_renew_12 (nl nn : Int32) (wce_12 : Nat → Int32) : (Int32 × Int32 × (Nat → Int32)) := (nl, nn, wce_12)
def sX2_renew_12 (k12 : Nat) (wce_12 : Nat → Int32) : ((Nat → Int32)) := (fX3_write 60 wce_12 (nI k12) 0)
def fX2_renew (ce : Nat → Int32) (Nn : Nat) (nl nn : Int32) : Int32 × Int32 × (Nat → Int32) := (aX2_renew_12 nl nn (lp (fun k a => sX2_renew_12  k a) ce Nn))
theorem q_X2_renew : yX2_renew.cls = RX2 ∧ yX2_renew.cls ≠ "java/lang/invoke/MethodHandle" ∧ yX2_renew.cls ≠ "java/lang/invoke/VarHandle" ∧ (parseMethodDescriptor yX2_renew.desc).map (fun d => d.parameters.length) = some 2 := by decide +kernel
set_option maxHeartbeats 4000000 in
set_option maxRecDepth 100000 in
theorem c_X2_renew (l : Launch) (D : va_G) (cI cS : ClassId) (h ac : Nat) (la le : Int32) (ce : Nat → Int32) (Nn : Nat) (nl nn : Int32) (hn : nn = nI Nn) (hNn : Nn ≤ 60) : MMv l yX2_renew wsX2_renew { frames := 1, cells := 0, slots := 0, locals := 22 } D cI cS (wSh cI h ac la le ce) [.ref h, .int nl, .int nn] (wSh cI h ac ((fX2_renew ce Nn nl nn).1) ((fX2_renew ce Nn nl nn).2.1) ((fX2_renew ce Nn nl nn).2.2)) := by
  refine kEnterM (cc := cX2_renew) (maxL := 4) (ret := none) (by decide) rfl (Nat.le_of_ble_eq_true rfl) ?_
  intro p e s m below meth c ls Qf hQ hx hb hml hr hlocks hown hts hK hP hD hS hl
  have hown : s.vm.findClass RX2 = some m.cls := hown
  have hl : lv_has ls 4 [(0, .ref h), (1, .int nl), (2, .int nn)] := hl
  generalize kA (wSh cI h ac la le ce) = A at hQ hD hS
  refine lv_aload_n hx hb dX2_renew_0 rfl (lv_at hl 0 rfl) ?_
  refine lv_iload_n hx hb dX2_renew_1 rfl (lv_at hl 1 rfl) ?_
  refine va_put (D := D) (ci := 2) (v := .int nl) (ty := tyX2 1) (C := RX2) (T := TX2) (N := 3) hx hb hts (fun _ h => List.mem_cons_of_mem _ (List.mem_append_right _ h)) tyX2 tyX2_ok nmX2 hown hK.1 hP hD hS 0 rfl rfl 1 (by decide) (hts (.fieldLink RX2 15 "LieNights$Sheet" "lane" "I") (List.mem_of_getElem? (i := 1) rfl)) (fun _ h9 => h9) rfl (tyX2_ok 1 (by decide)) rfl rfl (Nat.le_of_ble_eq_true rfl) dX2_renew_2 (fun H locs hP hD hS => ?_)
  have hP : va_P D vwCl (wSh cI h ac nl le ce) H := hP
  have hD : va_D A (wSh cI h ac nl le ce) := hD
  refine lv_aload_n hx hb dX2_renew_5 rfl (lv_at hl 0 rfl) ?_
  refine lv_iload_n hx hb dX2_renew_6 rfl (lv_at hl 2 rfl) ?_
  refine va_put (D := D) (ci := 2) (v := .int nn) (ty := tyX2 2) (C := RX2) (T := TX2) (N := 3) hx hb hts (fun _ h => List.mem_cons_of_mem _ (List.mem_append_right _ h)) tyX2 tyX2_ok nmX2 hown hK.1 hP hD hS 0 rfl rfl 2 (by decide) (hts (.fieldLink RX2 23 "LieNights$Sheet" "length" "I") (List.mem_of_getElem? (i := 2) rfl)) (fun _ h9 => h9) rfl (tyX2_ok 2 (by decide)) rfl rfl (Nat.le_of_ble_eq_true rfl) dX2_renew_7 (fun H locs hP hD hS => ?_)
  have hP : va_P D vwCl (wSh cI h ac nl nn ce) H := hP
  have hD : va_D A (wSh cI h ac nl nn ce) := hD
  refine lv_iconst (v := 0) hx hb dX2_renew_10 (by decide) ?_
  refine lv_istore_n (lv' := [(3, .int 0), (0, .ref h), (1, .int nl), (2, .int nn)]) hx hb dX2_renew_11 rfl hl (by decide) rfl (fun ls hl => ?_)
  have hR1 : (fX2_renew ce Nn nl nn) = (aX2_renew_12 nl nn (lp (fun k a => sX2_renew_12  k a) ce Nn)) := rfl
  have loop12 : ∀ (n k12 : Nat), k12 ≤ Nn → Nn + 1 ≤ k12 + n → ∀ (wce_12 : Nat → Int32), lp (fun k a => sX2_renew_12  k a) ce k12 = wce_12 →  ∀ (H : Heap) (locs : List Loc), va_P D vwCl (wSh cI h ac nl nn wce_12) H → va_D A (wSh cI h ac nl nn wce_12) → va_S A s.heap H locs → ∀ (ls : Array Slot), lv_has ls 4 [(0, .ref h), (1, .int nl), (2, .int nn), (3, .int (nI k12))] → W p l e { frames := 1, cells := 0, slots := 0, locals := 22 } s m ([.ref h, .int nl, .int nn] : List Value).toArray below meth c H locs 0 0 Qf (F0 m 12 ls []) := by
    intro n
    induction n with
    | zero => intro k12 h1 h2; exact absurd h2 (by omega)
    | succ n ih =>
      intro k12 hk12 hn12 wce_12 hacc12  H locs hP hD hS ls hl
      have ih12 := ih
      refine lv_iload_n hx hb dX2_renew_12 rfl (lv_at hl 3 rfl) ?_
      refine lv_iload_n hx hb dX2_renew_13 rfl (lv_at hl 2 rfl) ?_
      refine lv_icmp_ge (tgt := 32) hx hb dX2_renew_14 (by decide) (fun c14 => ?_) (fun c14 => ?_)
      · skip
        have hkN : k12 = Nn := (kEnd hk12 rfl hn (by omega) c14)
        rw [hkN] at hacc12
        have hR2 : (fX2_renew ce Nn nl nn) = aX2_renew_12 nl nn wce_12 := hR1.trans (lp_end (x := wce_12) (g := (fun a => aX2_renew_12 nl nn a)) hacc12)
        have hR3 : (fX2_renew ce Nn nl nn) = (nl, nn, wce_12) := hR2.trans rfl
        rw [hQ]
        exact W.vret hx hb hr (fun t ht hW => ⟨⟨(), rfl, trivial, (by show va_P D vwCl _ t.heap; rw [hR3, ht]; exact hP)⟩, hS.F ht⟩) hS.2.2 dX2_renew_32
      have hlt12 : k12 < Nn := (kLt hk12 rfl hn c14)
      refine lv_aload_n hx hb dX2_renew_17 rfl (lv_at hl 0 rfl) ?_
      refine va_get (D := D) (ci := 2) (v := .ref ac) (C := RX2) (T := TX2) (N := 3) hx hb hts (fun _ h => List.mem_cons_of_mem _ (List.mem_append_right _ h)) hown hK.1 hP 0 rfl rfl 0 (by decide) (hts (.fieldLink RX2 9 "LieNights$Sheet" "cells" "[I") (List.mem_of_getElem? (i := 3) rfl)) (fun _ h9 => h9) rfl dX2_renew_18 ?_
      refine lv_iload_n hx hb dX2_renew_21 rfl (lv_at hl 3 rfl) ?_
      refine lv_iconst (v := 0) hx hb dX2_renew_22 (by decide) ?_
      refine kMv (wl' := (wSh cI h ac nl nn (fX3_write 60 wce_12 (nI k12) 0))) (wc := (wArr cI ac 60 wce_12)) (w1 := (wArr cI ac 60 (fX3_write 60 wce_12 (nI k12) 0))) hP hD hS [1] rfl rfl rfl (va_runSN (As := [.ref ac, .int (nI k12), .int 0]) (rest := []) ⟨hx, hb, hml, hown, hts⟩ (c_X3_write l D cI cS ac 60 wce_12 (nI k12) 0 (by decide)) ⟨va_cnB 3 hts gX2_renew_X3_write_n30 rfl rfl rfl (hK.2.at 5 (q := (RX2, 30, yX3_write, "LieNights")) rfl) (hts _ (List.mem_of_getElem? (i := 5) rfl)) q_X3_write.2 ⟨Nat.le_of_ble_eq_true rfl, Nat.le_of_ble_eq_true rfl⟩, hts _ (List.mem_of_getElem? (i := 4) rfl), trivial⟩ (kMS hK hP hD [1] rfl rfl [.ref ac, .int (nI k12), .int 0]) rfl rfl hl.1 rfl (lv_room (Nat.le_of_ble_eq_true rfl)) dX2_renew_23 ⟨Nat.zero_le _, Nat.zero_le _⟩) (fun H locs hP hD hS => ?_)
      refine lv_iinc (v := (nI (k12 + 1))) (lv' := [(3, .int (nI (k12 + 1))), (0, .ref h), (1, .int nl), (2, .int nn)]) hx hb dX2_renew_26 hl (k := 3) rfl (nI_1 (k12)) (by decide) rfl (fun ls hl => ?_)
      refine lv_goto (tgt := 12) hx hb dX2_renew_29 (by decide) ?_
      have hR4 : sX2_renew_12  k12 wce_12 = (fX3_write 60 wce_12 (nI k12) 0) := rfl
      exact ih12 (k12 + 1) hlt12 (by omega) _ (lp_next hacc12 hR4)  _ _ hP hD hS ls (lv_sub hl [1, 2, 3, 0] rfl)
  exact loop12 (Nn + 1) 0 (Nat.zero_le _) (by omega) _ rfl  _ _ hP hD hS ls (lv_sub hl [1, 2, 3, 0] rfl)

def fX2_clear  : Int32 × Int32 := ((-1), 0)
theorem q_X2_clear : yX2_clear.cls = RX2 ∧ yX2_clear.cls ≠ "java/lang/invoke/MethodHandle" ∧ yX2_clear.cls ≠ "java/lang/invoke/VarHandle" ∧ (parseMethodDescriptor yX2_clear.desc).map (fun d => d.parameters.length) = some 0 := by decide +kernel
set_option maxHeartbeats 4000000 in
set_option maxRecDepth 100000 in
theorem c_X2_clear (l : Launch) (D : va_G) (cI cS : ClassId) (h ac : Nat) (la le : Int32) (ce : Nat → Int32)  : MMv l yX2_clear wsX2_clear { frames := 0, cells := 0, slots := 0, locals := 0 } D cI cS (wSh cI h ac la le ce) [.ref h] (wSh cI h ac fX2_clear.1 fX2_clear.2 ce) := by
  refine kEnterM (cc := cX2_clear) (maxL := 1) (ret := none) (by decide) rfl (Nat.le_of_ble_eq_true rfl) ?_
  intro p e s m below meth c ls Qf hQ hx hb hml hr hlocks hown hts hK hP hD hS hl
  have hown : s.vm.findClass RX2 = some m.cls := hown
  have hl : lv_has ls 1 [(0, .ref h)] := hl
  generalize kA (wSh cI h ac la le ce) = A at hQ hD hS
  refine lv_aload_n hx hb dX2_clear_0 rfl (lv_at hl 0 rfl) ?_
  refine lv_iconst (v := (-1)) hx hb dX2_clear_1 (by decide) ?_
  refine va_put (D := D) (ci := 2) (v := .int (-1)) (ty := tyX2 1) (C := RX2) (T := TX2) (N := 3) hx hb hts (fun _ h => List.mem_cons_of_mem _ (List.mem_append_right _ h)) tyX2 tyX2_ok nmX2 hown hK.1 hP hD hS 0 rfl rfl 1 (by decide) (hts (.fieldLink RX2 15 "LieNights$Sheet" "lane" "I") (List.mem_of_getElem? (i := 1) rfl)) (fun _ h9 => h9) rfl (tyX2_ok 1 (by decide)) rfl rfl (Nat.le_of_ble_eq_true rfl) dX2_clear_2 (fun H locs hP hD hS => ?_)
  have hP : va_P D vwCl (wSh cI h ac (-1) le ce) H := hP
  have hD : va_D A (wSh cI h ac (-1) le ce) := hD
  refine lv_aload_n hx hb dX2_clear_5 rfl (lv_at hl 0 rfl) ?_
  refine lv_iconst (v := 0) hx hb dX2_clear_6 (by decide) ?_
  refine va_put (D := D) (ci := 2) (v := .int 0) (ty := tyX2 2) (C := RX2) (T := TX2) (N := 3) hx hb hts (fun _ h => List.mem_cons_of_mem _ (List.mem_append_right _ h)) tyX2 tyX2_ok nmX2 hown hK.1 hP hD hS 0 rfl rfl 2 (by decide) (hts (.fieldLink RX2 23 "LieNights$Sheet" "length" "I") (List.mem_of_getElem? (i := 2) rfl)) (fun _ h9 => h9) rfl (tyX2_ok 2 (by decide)) rfl rfl (Nat.le_of_ble_eq_true rfl) dX2_clear_7 (fun H locs hP hD hS => ?_)
  have hP : va_P D vwCl (wSh cI h ac (-1) 0 ce) H := hP
  have hD : va_D A (wSh cI h ac (-1) 0 ce) := hD
  have hR1 : (fX2_clear ) = ((-1), 0) := rfl
  rw [hQ]
  exact W.vret hx hb hr (fun t ht hW => ⟨⟨(), rfl, trivial, (by show va_P D vwCl _ t.heap; rw [hR1, ht]; exact hP)⟩, hS.F ht⟩) hS.2.2 dX2_clear_10

def fX2_get (ce : Nat → Int32) (i : Int32) : Int32 := (fX3_at 60 ce i)
theorem q_X2_get : yX2_get.cls = RX2 ∧ yX2_get.cls ≠ "java/lang/invoke/MethodHandle" ∧ yX2_get.cls ≠ "java/lang/invoke/VarHandle" ∧ (parseMethodDescriptor yX2_get.desc).map (fun d => d.parameters.length) = some 1 := by decide +kernel
set_option maxHeartbeats 4000000 in
set_option maxRecDepth 100000 in
theorem c_X2_get (l : Launch) (D : va_G) (cI cS : ClassId) (h ac : Nat) (la le : Int32) (ce : Nat → Int32) (i : Int32)  : PMi l yX2_get wsX2_get { frames := 1, cells := 0, slots := 0, locals := 21 } D cI cS (wSh cI h ac la le ce) [.ref h, .int i] (fX2_get ce i) := by
  refine kEnter (cc := cX2_get) (maxL := 2) (ret := (some .int)) (by decide) rfl (Nat.le_of_ble_eq_true rfl) ?_
  intro p e s m below meth c ls Qf hQ hx hb hml hr hlocks hown hts hK hP hl
  have hown : s.vm.findClass RX2 = some m.cls := hown
  have hl : lv_has ls 2 [(0, .ref h), (1, .int i)] := hl
  refine lv_aload_n hx hb dX2_get_0 rfl (lv_at hl 0 rfl) ?_
  refine va_get (D := D) (ci := 2) (v := .ref ac) (C := RX2) (T := TX2) (N := 3) hx hb hts (fun _ h => List.mem_cons_of_mem _ (List.mem_append_right _ h)) hown hK.1 hP 0 rfl rfl 0 (by decide) (hts (.fieldLink RX2 9 "LieNights$Sheet" "cells" "[I") (List.mem_of_getElem? (i := 1) rfl)) (fun _ h9 => h9) rfl dX2_get_1 ?_
  refine lv_iload_n hx hb dX2_get_4 rfl (lv_at hl 1 rfl) ?_
  refine kPi (va_runSN (As := [.ref ac, .int i]) (rest := []) ⟨hx, hb, hml, hown, hts⟩ (c_X3_at l D cI cS ac 60 ce i (by decide)) ⟨va_cnB 2 hts gX2_get_X3_at_n34 rfl rfl rfl (hK.2.at 4 (q := (RX2, 34, yX3_at, "LieNights")) rfl) (hts _ (List.mem_of_getElem? (i := 3) rfl)) q_X3_at.2 ⟨Nat.le_of_ble_eq_true rfl, Nat.le_of_ble_eq_true rfl⟩, hts _ (List.mem_of_getElem? (i := 2) rfl), trivial⟩ (kPS hK hP [1] rfl [.ref ac, .int i]) rfl rfl hl.1 rfl (lv_room (Nat.le_of_ble_eq_true rfl)) dX2_get_5 ⟨Nat.zero_le _, Nat.zero_le _⟩) ?_
  have hR1 : (fX2_get ce i) = (fX3_at 60 ce i) := rfl
  rw [hQ]
  exact W.iret (v := (fX3_at 60 ce i)) hx hb hr (fun t ht hW => ⟨_, rfl, hR1.symm, ht⟩) (fun q h => by cases h) dX2_get_8

def fX2_cut (la v : Int32) : Int32 := (if la = 0 then (v.toInt8.toInt32) else (if la = 1 then (v.toInt16.toInt32) else v))
theorem q_X2_cut : yX2_cut.cls = RX2 ∧ yX2_cut.cls ≠ "java/lang/invoke/MethodHandle" ∧ yX2_cut.cls ≠ "java/lang/invoke/VarHandle" ∧ (parseMethodDescriptor yX2_cut.desc).map (fun d => d.parameters.length) = some 1 := by decide +kernel
set_option maxHeartbeats 4000000 in
set_option maxRecDepth 100000 in
theorem c_X2_cut (l : Launch) (D : va_G) (cI cS : ClassId) (h ac : Nat) (la le : Int32) (ce : Nat → Int32) (v : Int32)  : PMi l yX2_cut wsX2_cut { frames := 0, cells := 0, slots := 0, locals := 0 } D cI cS (wSh cI h ac la le ce) [.ref h, .int v] (fX2_cut la v) := by
  refine kEnter (cc := cX2_cut) (maxL := 2) (ret := (some .int)) (by decide) rfl (Nat.le_of_ble_eq_true rfl) ?_
  intro p e s m below meth c ls Qf hQ hx hb hml hr hlocks hown hts hK hP hl
  have hown : s.vm.findClass RX2 = some m.cls := hown
  have hl : lv_has ls 2 [(0, .ref h), (1, .int v)] := hl
  refine lv_aload_n hx hb dX2_cut_0 rfl (lv_at hl 0 rfl) ?_
  refine va_get (D := D) (ci := 2) (v := .int la) (C := RX2) (T := TX2) (N := 3) hx hb hts (fun _ h => List.mem_cons_of_mem _ (List.mem_append_right _ h)) hown hK.1 hP 0 rfl rfl 1 (by decide) (hts (.fieldLink RX2 15 "LieNights$Sheet" "lane" "I") (List.mem_of_getElem? (i := 1) rfl)) (fun _ h9 => h9) rfl dX2_cut_1 ?_
  refine lv_if_ne (tgt := 10) hx hb dX2_cut_4 (by decide) (fun c4 => ?_) (fun c4 => ?_)
  · skip
    refine lv_aload_n hx hb dX2_cut_10 rfl (lv_at hl 0 rfl) ?_
    refine va_get (D := D) (ci := 2) (v := .int la) (C := RX2) (T := TX2) (N := 3) hx hb hts (fun _ h => List.mem_cons_of_mem _ (List.mem_append_right _ h)) hown hK.1 hP 0 rfl rfl 1 (by decide) (hts (.fieldLink RX2 15 "LieNights$Sheet" "lane" "I") (List.mem_of_getElem? (i := 1) rfl)) (fun _ h9 => h9) rfl dX2_cut_11 ?_
    refine lv_iconst (v := 1) hx hb dX2_cut_14 (by decide) ?_
    refine lv_icmp_ne (tgt := 23) hx hb dX2_cut_15 (by decide) (fun c15 => ?_) (fun c15 => ?_)
    · skip
      refine lv_iload_n hx hb dX2_cut_23 rfl (lv_at hl 1 rfl) ?_
      have hR1 : (fX2_cut la v) = v := (by unfold fX2_cut; rw [if_neg c4, if_neg c15])
      rw [hQ]
      exact W.iret (v := v) hx hb hr (fun t ht hW => ⟨_, rfl, hR1.symm, ht⟩) (fun q h => by cases h) dX2_cut_24
    refine lv_iload_n hx hb dX2_cut_18 rfl (lv_at hl 1 rfl) ?_
    refine lv_i2s (v := v.toInt16.toInt32) hx hb dX2_cut_19 rfl ?_
    refine lv_goto (tgt := 24) hx hb dX2_cut_20 (by decide) ?_
    have hR2 : (fX2_cut la v) = (v.toInt16.toInt32) := (by unfold fX2_cut; rw [if_neg c4, if_pos c15])
    rw [hQ]
    exact W.iret (v := (v.toInt16.toInt32)) hx hb hr (fun t ht hW => ⟨_, rfl, hR2.symm, ht⟩) (fun q h => by cases h) dX2_cut_24
  refine lv_iload_n hx hb dX2_cut_7 rfl (lv_at hl 1 rfl) ?_
  refine lv_i2b (v := v.toInt8.toInt32) hx hb dX2_cut_8 rfl ?_
  have hR3 : (fX2_cut la v) = (v.toInt8.toInt32) := (by unfold fX2_cut; rw [if_pos c4])
  rw [hQ]
  exact W.iret (v := (v.toInt8.toInt32)) hx hb hr (fun t ht hW => ⟨_, rfl, hR3.symm, ht⟩) (fun q h => by cases h) dX2_cut_9

def fX2_set (la : Int32) (ce : Nat → Int32) (i v : Int32) : (Nat → Int32) := (fX3_write 60 ce i (fX2_cut la v))
theorem q_X2_set : yX2_set.cls = RX2 ∧ yX2_set.cls ≠ "java/lang/invoke/MethodHandle" ∧ yX2_set.cls ≠ "java/lang/invoke/VarHandle" ∧ (parseMethodDescriptor yX2_set.desc).map (fun d => d.parameters.length) = some 2 := by decide +kernel
set_option maxHeartbeats 4000000 in
set_option maxRecDepth 100000 in
theorem c_X2_set (l : Launch) (D : va_G) (cI cS : ClassId) (h ac : Nat) (la le : Int32) (ce : Nat → Int32) (i v : Int32)  : MMv l yX2_set wsX2_set { frames := 1, cells := 0, slots := 0, locals := 22 } D cI cS (wSh cI h ac la le ce) [.ref h, .int i, .int v] (wSh cI h ac la le (fX2_set la ce i v)) := by
  refine kEnterM (cc := cX2_set) (maxL := 3) (ret := none) (by decide) rfl (Nat.le_of_ble_eq_true rfl) ?_
  intro p e s m below meth c ls Qf hQ hx hb hml hr hlocks hown hts hK hP hD hS hl
  have hown : s.vm.findClass RX2 = some m.cls := hown
  have hl : lv_has ls 3 [(0, .ref h), (1, .int i), (2, .int v)] := hl
  generalize kA (wSh cI h ac la le ce) = A at hQ hD hS
  refine lv_aload_n hx hb dX2_set_0 rfl (lv_at hl 0 rfl) ?_
  refine va_get (D := D) (ci := 2) (v := .ref ac) (C := RX2) (T := TX2) (N := 3) hx hb hts (fun _ h => List.mem_cons_of_mem _ (List.mem_append_right _ h)) hown hK.1 hP 0 rfl rfl 0 (by decide) (hts (.fieldLink RX2 9 "LieNights$Sheet" "cells" "[I") (List.mem_of_getElem? (i := 1) rfl)) (fun _ h9 => h9) rfl dX2_set_1 ?_
  refine lv_iload_n hx hb dX2_set_4 rfl (lv_at hl 1 rfl) ?_
  refine lv_aload_n hx hb dX2_set_5 rfl (lv_at hl 0 rfl) ?_
  refine lv_iload_n hx hb dX2_set_6 rfl (lv_at hl 2 rfl) ?_
  refine kPi (va_runV (As := [.int v]) (rest := [.int i, .ref ac]) ⟨hx, hb, hml, hown, hts⟩ (c_X2_cut l D cI cS h ac la le ce v) (cwV 1 hts gX2_set_X2_cut rfl rfl rfl q_X2_cut ⟨Nat.le_of_ble_eq_true rfl, Nat.le_of_ble_eq_true rfl⟩) (kPV hK hP [0, 1] rfl (va_recv hK.1 hP (ci := 2) (q0 := 0) rfl rfl) [.int v]) rfl rfl hl.1 rfl (lv_room (Nat.le_of_ble_eq_true rfl)) dX2_set_7 ⟨Nat.zero_le _, Nat.zero_le _⟩) ?_
  refine kMv (wl' := (wSh cI h ac la le (fX3_write 60 ce i (fX2_cut la v)))) (wc := (wArr cI ac 60 ce)) (w1 := (wArr cI ac 60 (fX3_write 60 ce i (fX2_cut la v)))) hP hD hS [1] rfl rfl rfl (va_runSN (As := [.ref ac, .int i, .int (fX2_cut la v)]) (rest := []) ⟨hx, hb, hml, hown, hts⟩ (c_X3_write l D cI cS ac 60 ce i (fX2_cut la v) (by decide)) ⟨va_cnB 3 hts gX2_set_X3_write_n30 rfl rfl rfl (hK.2.at 5 (q := (RX2, 30, yX3_write, "LieNights")) rfl) (hts _ (List.mem_of_getElem? (i := 9) rfl)) q_X3_write.2 ⟨Nat.le_of_ble_eq_true rfl, Nat.le_of_ble_eq_true rfl⟩, hts _ (List.mem_of_getElem? (i := 8) rfl), trivial⟩ (kMS hK hP hD [1] rfl rfl [.ref ac, .int i, .int (fX2_cut la v)]) rfl rfl hl.1 rfl (lv_room (Nat.le_of_ble_eq_true rfl)) dX2_set_10 ⟨Nat.zero_le _, Nat.zero_le _⟩) (fun H locs hP hD hS => ?_)
  have hR1 : (fX2_set la ce i v) = (fX3_write 60 ce i (fX2_cut la v)) := rfl
  rw [hQ]
  exact W.vret hx hb hr (fun t ht hW => ⟨⟨(), rfl, trivial, (by show va_P D vwCl _ t.heap; rw [hR1, ht]; exact hP)⟩, hS.F ht⟩) hS.2.2 dX2_set_13

def aX2_takeCells_47 (wce_47 : Nat → Int32) : (Nat → Int32) := wce_47
def sX2_takeCells_47 (ce2 : Nat → Int32) (to i : Int32) (k47 : Nat) (wce_47 : Nat → Int32) : ((Nat → Int32)) := (fX3_write 60 wce_47 (to + (nI k47)) (fX2_get ce2 (i + (nI k47))))
def aX2_takeCells_11 (wce_11 : Nat → Int32) : (Nat → Int32) := wce_11
def sX2_takeCells_11 (ce2 : Nat → Int32) (Nn : Nat) (to i : Int32) (k11 : Nat) (wce_11 : Nat → Int32) : ((Nat → Int32)) := (fX3_write 60 wce_11 (to + (nI (Nn - k11) - 1)) (fX2_get ce2 (i + (nI (Nn - k11) - 1))))
def fX2_takeCells (ce ce2 : Nat → Int32) (Nn : Nat) (to i : Int32) : (Nat → Int32) := (if to ≤ i then (aX2_takeCells_47  (lp (fun k a => sX2_takeCells_47 ce2 to i k a) ce Nn)) else (aX2_takeCells_11  (lp (fun k a => sX2_takeCells_11 ce2 Nn to i k a) ce Nn)))
theorem q_X2_takeCells : yX2_takeCells.cls = RX2 ∧ yX2_takeCells.cls ≠ "java/lang/invoke/MethodHandle" ∧ yX2_takeCells.cls ≠ "java/lang/invoke/VarHandle" ∧ (parseMethodDescriptor yX2_takeCells.desc).map (fun d => d.parameters.length) = some 4 := by decide +kernel
set_option maxHeartbeats 4000000 in
set_option maxRecDepth 100000 in
theorem c_X2_takeCells (l : Launch) (D : va_G) (cI cS : ClassId) (h ac : Nat) (la le : Int32) (ce : Nat → Int32) (h2 ac2 : Nat) (la2 le2 : Int32) (ce2 : Nat → Int32) (Nn : Nat) (to i nn : Int32) (hn : nn = nI Nn) (hNn : Nn ≤ 60) : MMv l yX2_takeCells wsX2_takeCells { frames := 2, cells := 0, slots := 0, locals := 42 } D cI cS (wSh2 cI h ac la le ce h2 ac2 la2 le2 ce2) [.ref h, .int to, .ref h2, .int i, .int nn] (wSh2 cI h ac la le (fX2_takeCells ce ce2 Nn to i) h2 ac2 la2 le2 ce2) := by
  refine kEnterM (cc := cX2_takeCells) (maxL := 6) (ret := none) (by decide) rfl (Nat.le_of_ble_eq_true rfl) ?_
  intro p e s m below meth c ls Qf hQ hx hb hml hr hlocks hown hts hK hP hD hS hl
  have hown : s.vm.findClass RX2 = some m.cls := hown
  have hl : lv_has ls 6 [(0, .ref h), (1, .int to), (2, .ref h2), (3, .int i), (4, .int nn)] := hl
  generalize kA (wSh2 cI h ac la le ce h2 ac2 la2 le2 ce2) = A at hQ hD hS
  refine lv_iload_n hx hb dX2_takeCells_0 rfl (lv_at hl 1 rfl) ?_
  refine lv_iload_n hx hb dX2_takeCells_1 rfl (lv_at hl 3 rfl) ?_
  refine lv_icmp_le (tgt := 44) hx hb dX2_takeCells_2 (by decide) (fun c2 => ?_) (fun c2 => ?_)
  · skip
    refine lv_iconst (v := 0) hx hb dX2_takeCells_44 (by decide) ?_
    refine lv_istore (lv' := [(5, .int 0), (0, .ref h), (1, .int to), (2, .ref h2), (3, .int i), (4, .int nn)]) hx hb dX2_takeCells_45 hl (by decide) rfl (fun ls hl => ?_)
    have hR1 : (fX2_takeCells ce ce2 Nn to i) = (aX2_takeCells_47  (lp (fun k a => sX2_takeCells_47 ce2 to i k a) ce Nn)) := (by unfold fX2_takeCells; rw [if_pos c2])
    have loop47 : ∀ (n k47 : Nat), k47 ≤ Nn → Nn + 1 ≤ k47 + n → ∀ (wce_47 : Nat → Int32), lp (fun k a => sX2_takeCells_47 ce2 to i k a) ce k47 = wce_47 →  ∀ (H : Heap) (locs : List Loc), va_P D vwCl (wSh2 cI h ac la le wce_47 h2 ac2 la2 le2 ce2) H → va_D A (wSh2 cI h ac la le wce_47 h2 ac2 la2 le2 ce2) → va_S A s.heap H locs → ∀ (ls : Array Slot), lv_has ls 6 [(0, .ref h), (1, .int to), (2, .ref h2), (3, .int i), (4, .int nn), (5, .int (nI k47))] → W p l e { frames := 2, cells := 0, slots := 0, locals := 42 } s m ([.ref h, .int to, .ref h2, .int i, .int nn] : List Value).toArray below meth c H locs 0 0 Qf (F0 m 47 ls []) := by
      intro n
      induction n with
      | zero => intro k47 h1 h2; exact absurd h2 (by omega)
      | succ n ih =>
        intro k47 hk47 hn47 wce_47 hacc47  H locs hP hD hS ls hl
        have ih47 := ih
        refine lv_iload hx hb dX2_takeCells_47 (lv_at hl 5 rfl) ?_
        refine lv_iload hx hb dX2_takeCells_49 (lv_at hl 4 rfl) ?_
        refine lv_icmp_ge (tgt := 79) hx hb dX2_takeCells_51 (by decide) (fun c51 => ?_) (fun c51 => ?_)
        · skip
          have hkN : k47 = Nn := (kEnd hk47 rfl hn (by omega) c51)
          rw [hkN] at hacc47
          have hR2 : (fX2_takeCells ce ce2 Nn to i) = aX2_takeCells_47  wce_47 := hR1.trans (lp_end (x := wce_47) (g := (fun a => aX2_takeCells_47  a)) hacc47)
          have hR3 : (fX2_takeCells ce ce2 Nn to i) = wce_47 := hR2.trans rfl
          rw [hQ]
          exact W.vret hx hb hr (fun t ht hW => ⟨⟨(), rfl, trivial, (by show va_P D vwCl _ t.heap; rw [hR3, ht]; exact hP)⟩, hS.F ht⟩) hS.2.2 dX2_takeCells_79
        have hlt47 : k47 < Nn := (kLt hk47 rfl hn c51)
        refine lv_aload_n hx hb dX2_takeCells_54 rfl (lv_at hl 0 rfl) ?_
        refine va_get (D := D) (ci := 2) (v := .ref ac) (C := RX2) (T := TX2) (N := 3) hx hb hts (fun _ h => List.mem_cons_of_mem _ (List.mem_append_right _ h)) hown hK.1 hP 0 rfl rfl 0 (by decide) (hts (.fieldLink RX2 9 "LieNights$Sheet" "cells" "[I") (List.mem_of_getElem? (i := 1) rfl)) (fun _ h9 => h9) rfl dX2_takeCells_55 ?_
        refine lv_iload_n hx hb dX2_takeCells_58 rfl (lv_at hl 1 rfl) ?_
        refine lv_iload hx hb dX2_takeCells_59 (lv_at hl 5 rfl) ?_
        refine lv_iadd hx hb dX2_takeCells_61 ?_
        refine lv_aload_n hx hb dX2_takeCells_62 rfl (lv_at hl 2 rfl) ?_
        refine lv_iload_n hx hb dX2_takeCells_63 rfl (lv_at hl 3 rfl) ?_
        refine lv_iload hx hb dX2_takeCells_64 (lv_at hl 5 rfl) ?_
        refine lv_iadd hx hb dX2_takeCells_66 ?_
        refine kPi (va_runV (As := [.int (i + (nI k47))]) (rest := [.int (to + (nI k47)), .ref ac]) ⟨hx, hb, hml, hown, hts⟩ (c_X2_get l D cI cS h2 ac2 la2 le2 ce2 (i + (nI k47))) (cwV 1 hts gX2_takeCells_X2_get rfl rfl rfl q_X2_get ⟨Nat.le_of_ble_eq_true rfl, Nat.le_of_ble_eq_true rfl⟩) (kPV hK hP [2, 3] rfl (va_recv hK.1 hP (ci := 2) (q0 := 2) rfl rfl) [.int (i + (nI k47))]) rfl rfl hl.1 rfl (lv_room (Nat.le_of_ble_eq_true rfl)) dX2_takeCells_67 ⟨Nat.zero_le _, Nat.zero_le _⟩) ?_
        refine kMv (wl' := (wSh2 cI h ac la le (fX3_write 60 wce_47 (to + (nI k47)) (fX2_get ce2 (i + (nI k47)))) h2 ac2 la2 le2 ce2)) (wc := (wArr cI ac 60 wce_47)) (w1 := (wArr cI ac 60 (fX3_write 60 wce_47 (to + (nI k47)) (fX2_get ce2 (i + (nI k47)))))) hP hD hS [1] rfl rfl rfl (va_runSN (As := [.ref ac, .int (to + (nI k47)), .int (fX2_get ce2 (i + (nI k47)))]) (rest := []) ⟨hx, hb, hml, hown, hts⟩ (c_X3_write l D cI cS ac 60 wce_47 (to + (nI k47)) (fX2_get ce2 (i + (nI k47))) (by decide)) ⟨va_cnB 3 hts gX2_takeCells_X3_write_n30 rfl rfl rfl (hK.2.at 5 (q := (RX2, 30, yX3_write, "LieNights")) rfl) (hts _ (List.mem_of_getElem? (i := 8) rfl)) q_X3_write.2 ⟨Nat.le_of_ble_eq_true rfl, Nat.le_of_ble_eq_true rfl⟩, hts _ (List.mem_of_getElem? (i := 10) rfl), trivial⟩ (kMS hK hP hD [1] rfl rfl [.ref ac, .int (to + (nI k47)), .int (fX2_get ce2 (i + (nI k47)))]) rfl rfl hl.1 rfl (lv_room (Nat.le_of_ble_eq_true rfl)) dX2_takeCells_70 ⟨Nat.zero_le _, Nat.zero_le _⟩) (fun H locs hP hD hS => ?_)
        refine lv_iinc (v := (nI (k47 + 1))) (lv' := [(5, .int (nI (k47 + 1))), (0, .ref h), (1, .int to), (2, .ref h2), (3, .int i), (4, .int nn)]) hx hb dX2_takeCells_73 hl (k := 5) rfl (nI_1 (k47)) (by decide) rfl (fun ls hl => ?_)
        refine lv_goto (tgt := 47) hx hb dX2_takeCells_76 (by decide) ?_
        have hR4 : sX2_takeCells_47 ce2 to i k47 wce_47 = (fX3_write 60 wce_47 (to + (nI k47)) (fX2_get ce2 (i + (nI k47)))) := rfl
        exact ih47 (k47 + 1) hlt47 (by omega) _ (lp_next hacc47 hR4)  _ _ hP hD hS ls (lv_sub hl [1, 2, 3, 4, 5, 0] rfl)
    exact loop47 (Nn + 1) 0 (Nat.zero_le _) (by omega) _ rfl  _ _ hP hD hS ls (lv_sub hl [1, 2, 3, 4, 5, 0] rfl)
  refine lv_iload hx hb dX2_takeCells_5 (lv_at hl 4 rfl) ?_
  refine lv_iconst (v := 1) hx hb dX2_takeCells_7 (by decide) ?_
  refine lv_isub hx hb dX2_takeCells_8 ?_
  refine lv_istore (lv' := [(5, .int (nn - 1)), (0, .ref h), (1, .int to), (2, .ref h2), (3, .int i), (4, .int nn)]) hx hb dX2_takeCells_9 hl (by decide) rfl (fun ls hl => ?_)
  have hR5 : (fX2_takeCells ce ce2 Nn to i) = (aX2_takeCells_11  (lp (fun k a => sX2_takeCells_11 ce2 Nn to i k a) ce Nn)) := (by unfold fX2_takeCells; rw [if_neg c2])
  have loop11 : ∀ (n k11 : Nat), k11 ≤ Nn → Nn + 1 ≤ k11 + n → ∀ (wce_11 : Nat → Int32), lp (fun k a => sX2_takeCells_11 ce2 Nn to i k a) ce k11 = wce_11 →  ∀ (H : Heap) (locs : List Loc), va_P D vwCl (wSh2 cI h ac la le wce_11 h2 ac2 la2 le2 ce2) H → va_D A (wSh2 cI h ac la le wce_11 h2 ac2 la2 le2 ce2) → va_S A s.heap H locs → ∀ (ls : Array Slot), lv_has ls 6 [(0, .ref h), (1, .int to), (2, .ref h2), (3, .int i), (4, .int nn), (5, .int (nI (Nn - k11) - 1))] → W p l e { frames := 2, cells := 0, slots := 0, locals := 42 } s m ([.ref h, .int to, .ref h2, .int i, .int nn] : List Value).toArray below meth c H locs 0 0 Qf (F0 m 11 ls []) := by
    intro n
    induction n with
    | zero => intro k11 h1 h2; exact absurd h2 (by omega)
    | succ n ih =>
      intro k11 hk11 hn11 wce_11 hacc11  H locs hP hD hS ls hl
      have ih11 := ih
      refine lv_iload hx hb dX2_takeCells_11 (lv_at hl 5 rfl) ?_
      refine lv_if_lt (tgt := 41) hx hb dX2_takeCells_13 (by decide) (fun c13 => ?_) (fun c13 => ?_)
      · skip
        have hkN : k11 = Nn := (kDnE hk11 (by omega) c13)
        rw [hkN] at hacc11
        have hR6 : (fX2_takeCells ce ce2 Nn to i) = aX2_takeCells_11  wce_11 := hR5.trans (lp_end (x := wce_11) (g := (fun a => aX2_takeCells_11  a)) hacc11)
        refine lv_goto (tgt := 79) hx hb dX2_takeCells_41 (by decide) ?_
        have hR7 : (fX2_takeCells ce ce2 Nn to i) = wce_11 := hR6.trans rfl
        rw [hQ]
        exact W.vret hx hb hr (fun t ht hW => ⟨⟨(), rfl, trivial, (by show va_P D vwCl _ t.heap; rw [hR7, ht]; exact hP)⟩, hS.F ht⟩) hS.2.2 dX2_takeCells_79
      have hlt11 : k11 < Nn := (kDnL hk11 c13)
      refine lv_aload_n hx hb dX2_takeCells_16 rfl (lv_at hl 0 rfl) ?_
      refine va_get (D := D) (ci := 2) (v := .ref ac) (C := RX2) (T := TX2) (N := 3) hx hb hts (fun _ h => List.mem_cons_of_mem _ (List.mem_append_right _ h)) hown hK.1 hP 0 rfl rfl 0 (by decide) (hts (.fieldLink RX2 9 "LieNights$Sheet" "cells" "[I") (List.mem_of_getElem? (i := 1) rfl)) (fun _ h9 => h9) rfl dX2_takeCells_17 ?_
      refine lv_iload_n hx hb dX2_takeCells_20 rfl (lv_at hl 1 rfl) ?_
      refine lv_iload hx hb dX2_takeCells_21 (lv_at hl 5 rfl) ?_
      refine lv_iadd hx hb dX2_takeCells_23 ?_
      refine lv_aload_n hx hb dX2_takeCells_24 rfl (lv_at hl 2 rfl) ?_
      refine lv_iload_n hx hb dX2_takeCells_25 rfl (lv_at hl 3 rfl) ?_
      refine lv_iload hx hb dX2_takeCells_26 (lv_at hl 5 rfl) ?_
      refine lv_iadd hx hb dX2_takeCells_28 ?_
      refine kPi (va_runV (As := [.int (i + (nI (Nn - k11) - 1))]) (rest := [.int (to + (nI (Nn - k11) - 1)), .ref ac]) ⟨hx, hb, hml, hown, hts⟩ (c_X2_get l D cI cS h2 ac2 la2 le2 ce2 (i + (nI (Nn - k11) - 1))) (cwV 1 hts gX2_takeCells_X2_get rfl rfl rfl q_X2_get ⟨Nat.le_of_ble_eq_true rfl, Nat.le_of_ble_eq_true rfl⟩) (kPV hK hP [2, 3] rfl (va_recv hK.1 hP (ci := 2) (q0 := 2) rfl rfl) [.int (i + (nI (Nn - k11) - 1))]) rfl rfl hl.1 rfl (lv_room (Nat.le_of_ble_eq_true rfl)) dX2_takeCells_29 ⟨Nat.zero_le _, Nat.zero_le _⟩) ?_
      refine kMv (wl' := (wSh2 cI h ac la le (fX3_write 60 wce_11 (to + (nI (Nn - k11) - 1)) (fX2_get ce2 (i + (nI (Nn - k11) - 1)))) h2 ac2 la2 le2 ce2)) (wc := (wArr cI ac 60 wce_11)) (w1 := (wArr cI ac 60 (fX3_write 60 wce_11 (to + (nI (Nn - k11) - 1)) (fX2_get ce2 (i + (nI (Nn - k11) - 1)))))) hP hD hS [1] rfl rfl rfl (va_runSN (As := [.ref ac, .int (to + (nI (Nn - k11) - 1)), .int (fX2_get ce2 (i + (nI (Nn - k11) - 1)))]) (rest := []) ⟨hx, hb, hml, hown, hts⟩ (c_X3_write l D cI cS ac 60 wce_11 (to + (nI (Nn - k11) - 1)) (fX2_get ce2 (i + (nI (Nn - k11) - 1))) (by decide)) ⟨va_cnB 3 hts gX2_takeCells_X3_write_n30 rfl rfl rfl (hK.2.at 5 (q := (RX2, 30, yX3_write, "LieNights")) rfl) (hts _ (List.mem_of_getElem? (i := 8) rfl)) q_X3_write.2 ⟨Nat.le_of_ble_eq_true rfl, Nat.le_of_ble_eq_true rfl⟩, hts _ (List.mem_of_getElem? (i := 10) rfl), trivial⟩ (kMS hK hP hD [1] rfl rfl [.ref ac, .int (to + (nI (Nn - k11) - 1)), .int (fX2_get ce2 (i + (nI (Nn - k11) - 1)))]) rfl rfl hl.1 rfl (lv_room (Nat.le_of_ble_eq_true rfl)) dX2_takeCells_32 ⟨Nat.zero_le _, Nat.zero_le _⟩) (fun H locs hP hD hS => ?_)
      refine lv_iinc (v := (nI (Nn - (k11 + 1)) - 1)) (lv' := [(5, .int (nI (Nn - (k11 + 1)) - 1)), (0, .ref h), (1, .int to), (2, .ref h2), (3, .int i), (4, .int nn)]) hx hb dX2_takeCells_35 hl (k := 5) rfl (kDnI hlt11) (by decide) rfl (fun ls hl => ?_)
      refine lv_goto (tgt := 11) hx hb dX2_takeCells_38 (by decide) ?_
      have hR8 : sX2_takeCells_11 ce2 Nn to i k11 wce_11 = (fX3_write 60 wce_11 (to + (nI (Nn - k11) - 1)) (fX2_get ce2 (i + (nI (Nn - k11) - 1)))) := rfl
      exact ih11 (k11 + 1) hlt11 (by omega) _ (lp_next hacc11 hR8)  _ _ hP hD hS ls (lv_sub hl [1, 2, 3, 4, 5, 0] rfl)
  exact loop11 (Nn + 1) 0 (Nat.zero_le _) (by omega) _ rfl  _ _ hP hD hS ls (lv_sub hl [1, 2, 3, 4, 5, 0] (by rw [hn]; rfl))

def aX2_takeCells_a_47 (wce_47 : Nat → Int32) : (Nat → Int32) := wce_47
def sX2_takeCells_a_47 (to i : Int32) (k47 : Nat) (wce_47 : Nat → Int32) : ((Nat → Int32)) := (fX3_write 60 wce_47 (to + (nI k47)) (fX2_get wce_47 (i + (nI k47))))
def aX2_takeCells_a_11 (wce_11 : Nat → Int32) : (Nat → Int32) := wce_11
def sX2_takeCells_a_11 (Nn : Nat) (to i : Int32) (k11 : Nat) (wce_11 : Nat → Int32) : ((Nat → Int32)) := (fX3_write 60 wce_11 (to + (nI (Nn - k11) - 1)) (fX2_get wce_11 (i + (nI (Nn - k11) - 1))))
def fX2_takeCells_a (ce : Nat → Int32) (Nn : Nat) (to i : Int32) : (Nat → Int32) := (if to ≤ i then (aX2_takeCells_a_47  (lp (fun k a => sX2_takeCells_a_47 to i k a) ce Nn)) else (aX2_takeCells_a_11  (lp (fun k a => sX2_takeCells_a_11 Nn to i k a) ce Nn)))
set_option maxHeartbeats 4000000 in
set_option maxRecDepth 100000 in
theorem c_X2_takeCells_a (l : Launch) (D : va_G) (cI cS : ClassId) (h ac : Nat) (la le : Int32) (ce : Nat → Int32) (Nn : Nat) (to i nn : Int32) (hn : nn = nI Nn) (hNn : Nn ≤ 60) : MMv l yX2_takeCells wsX2_takeCells { frames := 2, cells := 0, slots := 0, locals := 42 } D cI cS (wSh cI h ac la le ce) [.ref h, .int to, .ref h, .int i, .int nn] (wSh cI h ac la le (fX2_takeCells_a ce Nn to i)) := by
  refine kEnterM (cc := cX2_takeCells) (maxL := 6) (ret := none) (by decide) rfl (Nat.le_of_ble_eq_true rfl) ?_
  intro p e s m below meth c ls Qf hQ hx hb hml hr hlocks hown hts hK hP hD hS hl
  have hown : s.vm.findClass RX2 = some m.cls := hown
  have hl : lv_has ls 6 [(0, .ref h), (1, .int to), (2, .ref h), (3, .int i), (4, .int nn)] := hl
  generalize kA (wSh cI h ac la le ce) = A at hQ hD hS
  refine lv_iload_n hx hb dX2_takeCells_0 rfl (lv_at hl 1 rfl) ?_
  refine lv_iload_n hx hb dX2_takeCells_1 rfl (lv_at hl 3 rfl) ?_
  refine lv_icmp_le (tgt := 44) hx hb dX2_takeCells_2 (by decide) (fun c2 => ?_) (fun c2 => ?_)
  · skip
    refine lv_iconst (v := 0) hx hb dX2_takeCells_44 (by decide) ?_
    refine lv_istore (lv' := [(5, .int 0), (0, .ref h), (1, .int to), (2, .ref h), (3, .int i), (4, .int nn)]) hx hb dX2_takeCells_45 hl (by decide) rfl (fun ls hl => ?_)
    have hR1 : (fX2_takeCells_a ce Nn to i) = (aX2_takeCells_a_47  (lp (fun k a => sX2_takeCells_a_47 to i k a) ce Nn)) := (by unfold fX2_takeCells_a; rw [if_pos c2])
    have loop47 : ∀ (n k47 : Nat), k47 ≤ Nn → Nn + 1 ≤ k47 + n → ∀ (wce_47 : Nat → Int32), lp (fun k a => sX2_takeCells_a_47 to i k a) ce k47 = wce_47 →  ∀ (H : Heap) (locs : List Loc), va_P D vwCl (wSh cI h ac la le wce_47) H → va_D A (wSh cI h ac la le wce_47) → va_S A s.heap H locs → ∀ (ls : Array Slot), lv_has ls 6 [(0, .ref h), (1, .int to), (2, .ref h), (3, .int i), (4, .int nn), (5, .int (nI k47))] → W p l e { frames := 2, cells := 0, slots := 0, locals := 42 } s m ([.ref h, .int to, .ref h, .int i, .int nn] : List Value).toArray below meth c H locs 0 0 Qf (F0 m 47 ls []) := by
      intro n
      induction n with
      | zero => intro k47 h1 h2; exact absurd h2 (by omega)
      | succ n ih =>
        intro k47 hk47 hn47 wce_47 hacc47  H locs hP hD hS ls hl
        have ih47 := ih
        refine lv_iload hx hb dX2_takeCells_47 (lv_at hl 5 rfl) ?_
        refine lv_iload hx hb dX2_takeCells_49 (lv_at hl 4 rfl) ?_
        refine lv_icmp_ge (tgt := 79) hx hb dX2_takeCells_51 (by decide) (fun c51 => ?_) (fun c51 => ?_)
        · skip
          have hkN : k47 = Nn := (kEnd hk47 rfl hn (by omega) c51)
          rw [hkN] at hacc47
          have hR2 : (fX2_takeCells_a ce Nn to i) = aX2_takeCells_a_47  wce_47 := hR1.trans (lp_end (x := wce_47) (g := (fun a => aX2_takeCells_a_47  a)) hacc47)
          have hR3 : (fX2_takeCells_a ce Nn to i) = wce_47 := hR2.trans rfl
          rw [hQ]
          exact W.vret hx hb hr (fun t ht hW => ⟨⟨(), rfl, trivial, (by show va_P D vwCl _ t.heap; rw [hR3, ht]; exact hP)⟩, hS.F ht⟩) hS.2.2 dX2_takeCells_79
        have hlt47 : k47 < Nn := (kLt hk47 rfl hn c51)
        refine lv_aload_n hx hb dX2_takeCells_54 rfl (lv_at hl 0 rfl) ?_
        refine va_get (D := D) (ci := 2) (v := .ref ac) (C := RX2) (T := TX2) (N := 3) hx hb hts (fun _ h => List.mem_cons_of_mem _ (List.mem_append_right _ h)) hown hK.1 hP 0 rfl rfl 0 (by decide) (hts (.fieldLink RX2 9 "LieNights$Sheet" "cells" "[I") (List.mem_of_getElem? (i := 1) rfl)) (fun _ h9 => h9) rfl dX2_takeCells_55 ?_
        refine lv_iload_n hx hb dX2_takeCells_58 rfl (lv_at hl 1 rfl) ?_
        refine lv_iload hx hb dX2_takeCells_59 (lv_at hl 5 rfl) ?_
        refine lv_iadd hx hb dX2_takeCells_61 ?_
        refine lv_aload_n hx hb dX2_takeCells_62 rfl (lv_at hl 2 rfl) ?_
        refine lv_iload_n hx hb dX2_takeCells_63 rfl (lv_at hl 3 rfl) ?_
        refine lv_iload hx hb dX2_takeCells_64 (lv_at hl 5 rfl) ?_
        refine lv_iadd hx hb dX2_takeCells_66 ?_
        refine kPi (va_runV (As := [.int (i + (nI k47))]) (rest := [.int (to + (nI k47)), .ref ac]) ⟨hx, hb, hml, hown, hts⟩ (c_X2_get l D cI cS h ac la le wce_47 (i + (nI k47))) (cwV 1 hts gX2_takeCells_X2_get rfl rfl rfl q_X2_get ⟨Nat.le_of_ble_eq_true rfl, Nat.le_of_ble_eq_true rfl⟩) (kPV hK hP [0, 1] rfl (va_recv hK.1 hP (ci := 2) (q0 := 0) rfl rfl) [.int (i + (nI k47))]) rfl rfl hl.1 rfl (lv_room (Nat.le_of_ble_eq_true rfl)) dX2_takeCells_67 ⟨Nat.zero_le _, Nat.zero_le _⟩) ?_
        refine kMv (wl' := (wSh cI h ac la le (fX3_write 60 wce_47 (to + (nI k47)) (fX2_get wce_47 (i + (nI k47)))))) (wc := (wArr cI ac 60 wce_47)) (w1 := (wArr cI ac 60 (fX3_write 60 wce_47 (to + (nI k47)) (fX2_get wce_47 (i + (nI k47)))))) hP hD hS [1] rfl rfl rfl (va_runSN (As := [.ref ac, .int (to + (nI k47)), .int (fX2_get wce_47 (i + (nI k47)))]) (rest := []) ⟨hx, hb, hml, hown, hts⟩ (c_X3_write l D cI cS ac 60 wce_47 (to + (nI k47)) (fX2_get wce_47 (i + (nI k47))) (by decide)) ⟨va_cnB 3 hts gX2_takeCells_X3_write_n30 rfl rfl rfl (hK.2.at 5 (q := (RX2, 30, yX3_write, "LieNights")) rfl) (hts _ (List.mem_of_getElem? (i := 8) rfl)) q_X3_write.2 ⟨Nat.le_of_ble_eq_true rfl, Nat.le_of_ble_eq_true rfl⟩, hts _ (List.mem_of_getElem? (i := 10) rfl), trivial⟩ (kMS hK hP hD [1] rfl rfl [.ref ac, .int (to + (nI k47)), .int (fX2_get wce_47 (i + (nI k47)))]) rfl rfl hl.1 rfl (lv_room (Nat.le_of_ble_eq_true rfl)) dX2_takeCells_70 ⟨Nat.zero_le _, Nat.zero_le _⟩) (fun H locs hP hD hS => ?_)
        refine lv_iinc (v := (nI (k47 + 1))) (lv' := [(5, .int (nI (k47 + 1))), (0, .ref h), (1, .int to), (2, .ref h), (3, .int i), (4, .int nn)]) hx hb dX2_takeCells_73 hl (k := 5) rfl (nI_1 (k47)) (by decide) rfl (fun ls hl => ?_)
        refine lv_goto (tgt := 47) hx hb dX2_takeCells_76 (by decide) ?_
        have hR4 : sX2_takeCells_a_47 to i k47 wce_47 = (fX3_write 60 wce_47 (to + (nI k47)) (fX2_get wce_47 (i + (nI k47)))) := rfl
        exact ih47 (k47 + 1) hlt47 (by omega) _ (lp_next hacc47 hR4)  _ _ hP hD hS ls (lv_sub hl [1, 2, 3, 4, 5, 0] rfl)
    exact loop47 (Nn + 1) 0 (Nat.zero_le _) (by omega) _ rfl  _ _ hP hD hS ls (lv_sub hl [1, 2, 3, 4, 5, 0] rfl)
  refine lv_iload hx hb dX2_takeCells_5 (lv_at hl 4 rfl) ?_
  refine lv_iconst (v := 1) hx hb dX2_takeCells_7 (by decide) ?_
  refine lv_isub hx hb dX2_takeCells_8 ?_
  refine lv_istore (lv' := [(5, .int (nn - 1)), (0, .ref h), (1, .int to), (2, .ref h), (3, .int i), (4, .int nn)]) hx hb dX2_takeCells_9 hl (by decide) rfl (fun ls hl => ?_)
  have hR5 : (fX2_takeCells_a ce Nn to i) = (aX2_takeCells_a_11  (lp (fun k a => sX2_takeCells_a_11 Nn to i k a) ce Nn)) := (by unfold fX2_takeCells_a; rw [if_neg c2])
  have loop11 : ∀ (n k11 : Nat), k11 ≤ Nn → Nn + 1 ≤ k11 + n → ∀ (wce_11 : Nat → Int32), lp (fun k a => sX2_takeCells_a_11 Nn to i k a) ce k11 = wce_11 →  ∀ (H : Heap) (locs : List Loc), va_P D vwCl (wSh cI h ac la le wce_11) H → va_D A (wSh cI h ac la le wce_11) → va_S A s.heap H locs → ∀ (ls : Array Slot), lv_has ls 6 [(0, .ref h), (1, .int to), (2, .ref h), (3, .int i), (4, .int nn), (5, .int (nI (Nn - k11) - 1))] → W p l e { frames := 2, cells := 0, slots := 0, locals := 42 } s m ([.ref h, .int to, .ref h, .int i, .int nn] : List Value).toArray below meth c H locs 0 0 Qf (F0 m 11 ls []) := by
    intro n
    induction n with
    | zero => intro k11 h1 h2; exact absurd h2 (by omega)
    | succ n ih =>
      intro k11 hk11 hn11 wce_11 hacc11  H locs hP hD hS ls hl
      have ih11 := ih
      refine lv_iload hx hb dX2_takeCells_11 (lv_at hl 5 rfl) ?_
      refine lv_if_lt (tgt := 41) hx hb dX2_takeCells_13 (by decide) (fun c13 => ?_) (fun c13 => ?_)
      · skip
        have hkN : k11 = Nn := (kDnE hk11 (by omega) c13)
        rw [hkN] at hacc11
        have hR6 : (fX2_takeCells_a ce Nn to i) = aX2_takeCells_a_11  wce_11 := hR5.trans (lp_end (x := wce_11) (g := (fun a => aX2_takeCells_a_11  a)) hacc11)
        refine lv_goto (tgt := 79) hx hb dX2_takeCells_41 (by decide) ?_
        have hR7 : (fX2_takeCells_a ce Nn to i) = wce_11 := hR6.trans rfl
        rw [hQ]
        exact W.vret hx hb hr (fun t ht hW => ⟨⟨(), rfl, trivial, (by show va_P D vwCl _ t.heap; rw [hR7, ht]; exact hP)⟩, hS.F ht⟩) hS.2.2 dX2_takeCells_79
      have hlt11 : k11 < Nn := (kDnL hk11 c13)
      refine lv_aload_n hx hb dX2_takeCells_16 rfl (lv_at hl 0 rfl) ?_
      refine va_get (D := D) (ci := 2) (v := .ref ac) (C := RX2) (T := TX2) (N := 3) hx hb hts (fun _ h => List.mem_cons_of_mem _ (List.mem_append_right _ h)) hown hK.1 hP 0 rfl rfl 0 (by decide) (hts (.fieldLink RX2 9 "LieNights$Sheet" "cells" "[I") (List.mem_of_getElem? (i := 1) rfl)) (fun _ h9 => h9) rfl dX2_takeCells_17 ?_
      refine lv_iload_n hx hb dX2_takeCells_20 rfl (lv_at hl 1 rfl) ?_
      refine lv_iload hx hb dX2_takeCells_21 (lv_at hl 5 rfl) ?_
      refine lv_iadd hx hb dX2_takeCells_23 ?_
      refine lv_aload_n hx hb dX2_takeCells_24 rfl (lv_at hl 2 rfl) ?_
      refine lv_iload_n hx hb dX2_takeCells_25 rfl (lv_at hl 3 rfl) ?_
      refine lv_iload hx hb dX2_takeCells_26 (lv_at hl 5 rfl) ?_
      refine lv_iadd hx hb dX2_takeCells_28 ?_
      refine kPi (va_runV (As := [.int (i + (nI (Nn - k11) - 1))]) (rest := [.int (to + (nI (Nn - k11) - 1)), .ref ac]) ⟨hx, hb, hml, hown, hts⟩ (c_X2_get l D cI cS h ac la le wce_11 (i + (nI (Nn - k11) - 1))) (cwV 1 hts gX2_takeCells_X2_get rfl rfl rfl q_X2_get ⟨Nat.le_of_ble_eq_true rfl, Nat.le_of_ble_eq_true rfl⟩) (kPV hK hP [0, 1] rfl (va_recv hK.1 hP (ci := 2) (q0 := 0) rfl rfl) [.int (i + (nI (Nn - k11) - 1))]) rfl rfl hl.1 rfl (lv_room (Nat.le_of_ble_eq_true rfl)) dX2_takeCells_29 ⟨Nat.zero_le _, Nat.zero_le _⟩) ?_
      refine kMv (wl' := (wSh cI h ac la le (fX3_write 60 wce_11 (to + (nI (Nn - k11) - 1)) (fX2_get wce_11 (i + (nI (Nn - k11) - 1)))))) (wc := (wArr cI ac 60 wce_11)) (w1 := (wArr cI ac 60 (fX3_write 60 wce_11 (to + (nI (Nn - k11) - 1)) (fX2_get wce_11 (i + (nI (Nn - k11) - 1)))))) hP hD hS [1] rfl rfl rfl (va_runSN (As := [.ref ac, .int (to + (nI (Nn - k11) - 1)), .int (fX2_get wce_11 (i + (nI (Nn - k11) - 1)))]) (rest := []) ⟨hx, hb, hml, hown, hts⟩ (c_X3_write l D cI cS ac 60 wce_11 (to + (nI (Nn - k11) - 1)) (fX2_get wce_11 (i + (nI (Nn - k11) - 1))) (by decide)) ⟨va_cnB 3 hts gX2_takeCells_X3_write_n30 rfl rfl rfl (hK.2.at 5 (q := (RX2, 30, yX3_write, "LieNights")) rfl) (hts _ (List.mem_of_getElem? (i := 8) rfl)) q_X3_write.2 ⟨Nat.le_of_ble_eq_true rfl, Nat.le_of_ble_eq_true rfl⟩, hts _ (List.mem_of_getElem? (i := 10) rfl), trivial⟩ (kMS hK hP hD [1] rfl rfl [.ref ac, .int (to + (nI (Nn - k11) - 1)), .int (fX2_get wce_11 (i + (nI (Nn - k11) - 1)))]) rfl rfl hl.1 rfl (lv_room (Nat.le_of_ble_eq_true rfl)) dX2_takeCells_32 ⟨Nat.zero_le _, Nat.zero_le _⟩) (fun H locs hP hD hS => ?_)
      refine lv_iinc (v := (nI (Nn - (k11 + 1)) - 1)) (lv' := [(5, .int (nI (Nn - (k11 + 1)) - 1)), (0, .ref h), (1, .int to), (2, .ref h), (3, .int i), (4, .int nn)]) hx hb dX2_takeCells_35 hl (k := 5) rfl (kDnI hlt11) (by decide) rfl (fun ls hl => ?_)
      refine lv_goto (tgt := 11) hx hb dX2_takeCells_38 (by decide) ?_
      have hR8 : sX2_takeCells_a_11 Nn to i k11 wce_11 = (fX3_write 60 wce_11 (to + (nI (Nn - k11) - 1)) (fX2_get wce_11 (i + (nI (Nn - k11) - 1)))) := rfl
      exact ih11 (k11 + 1) hlt11 (by omega) _ (lp_next hacc11 hR8)  _ _ hP hD hS ls (lv_sub hl [1, 2, 3, 4, 5, 0] rfl)
  exact loop11 (Nn + 1) 0 (Nat.zero_le _) (by omega) _ rfl  _ _ hP hD hS ls (lv_sub hl [1, 2, 3, 4, 5, 0] (by rw [hn]; rfl))
end
section
def fX1_isDigit (co : Int32) : Int32 := (if co < 48 then 0 else (if (57 : Int32) < co then 0 else 1))
theorem q_X1_isDigit : yX1_isDigit.cls = RX1 ∧ yX1_isDigit.cls ≠ "java/lang/invoke/MethodHandle" ∧ yX1_isDigit.cls ≠ "java/lang/invoke/VarHandle" ∧ (parseMethodDescriptor yX1_isDigit.desc).map (fun d => d.parameters.length) = some 1 := by decide +kernel
set_option maxHeartbeats 4000000 in
set_option maxRecDepth 100000 in
theorem c_X1_isDigit (l : Launch) (D : va_G) (cI cS : ClassId) (co : Int32)  : PMi l yX1_isDigit wsX1_isDigit { frames := 0, cells := 0, slots := 0, locals := 0 } D cI cS [] [.int co] (fX1_isDigit co) := by
  refine kEnter (cc := cX1_isDigit) (maxL := 1) (ret := (some .boolean)) (by decide) rfl (Nat.le_of_ble_eq_true rfl) ?_
  intro p e s m below meth c ls Qf hQ hx hb hml hr hlocks hown hts hK hP hl
  have hown : s.vm.findClass RX1 = some m.cls := hown
  have hl : lv_has ls 1 [(0, .int co)] := hl
  refine lv_iload_n hx hb dX1_isDigit_0 rfl (lv_at hl 0 rfl) ?_
  refine lv_bipush (v := 48) hx hb dX1_isDigit_1 (by decide) ?_
  refine lv_icmp_lt (tgt := 16) hx hb dX1_isDigit_3 (by decide) (fun c3 => ?_) (fun c3 => ?_)
  · skip
    refine lv_iconst (v := 0) hx hb dX1_isDigit_16 (by decide) ?_
    have hR1 : (fX1_isDigit co) = 0 := (by unfold fX1_isDigit; rw [if_pos c3])
    rw [hQ]
    exact W.zret (v := 0) (ty := .boolean) hx hb hr rfl (fun t ht hW => ⟨_, rfl, hR1.symm, ht⟩) (fun q h => by cases h) dX1_isDigit_17
  refine lv_iload_n hx hb dX1_isDigit_6 rfl (lv_at hl 0 rfl) ?_
  refine lv_bipush (v := 57) hx hb dX1_isDigit_7 (by decide) ?_
  refine lv_icmp_gt (tgt := 16) hx hb dX1_isDigit_9 (by decide) (fun c9 => ?_) (fun c9 => ?_)
  · skip
    refine lv_iconst (v := 0) hx hb dX1_isDigit_16 (by decide) ?_
    have hR2 : (fX1_isDigit co) = 0 := (by unfold fX1_isDigit; rw [if_neg c3, if_pos c9])
    rw [hQ]
    exact W.zret (v := 0) (ty := .boolean) hx hb hr rfl (fun t ht hW => ⟨_, rfl, hR2.symm, ht⟩) (fun q h => by cases h) dX1_isDigit_17
  refine lv_iconst (v := 1) hx hb dX1_isDigit_12 (by decide) ?_
  refine lv_goto (tgt := 17) hx hb dX1_isDigit_13 (by decide) ?_
  have hR3 : (fX1_isDigit co) = 1 := (by unfold fX1_isDigit; rw [if_neg c3, if_neg c9])
  rw [hQ]
  exact W.zret (v := 1) (ty := .boolean) hx hb hr rfl (fun t ht hW => ⟨_, rfl, hR3.symm, ht⟩) (fun q h => by cases h) dX1_isDigit_17

def fX1_kindByLetter (co : Int32) : Int32 := (if co = 112 then 0 else (if co = 115 then 1 else (if co = 118 then 2 else (-9))))
theorem q_X1_kindByLetter : yX1_kindByLetter.cls = RX1 ∧ yX1_kindByLetter.cls ≠ "java/lang/invoke/MethodHandle" ∧ yX1_kindByLetter.cls ≠ "java/lang/invoke/VarHandle" ∧ (parseMethodDescriptor yX1_kindByLetter.desc).map (fun d => d.parameters.length) = some 1 := by decide +kernel
set_option maxHeartbeats 4000000 in
set_option maxRecDepth 100000 in
theorem c_X1_kindByLetter (l : Launch) (D : va_G) (cI cS : ClassId) (co : Int32)  : PMi l yX1_kindByLetter wsX1_kindByLetter { frames := 0, cells := 0, slots := 0, locals := 0 } D cI cS [] [.int co] (fX1_kindByLetter co) := by
  refine kEnter (cc := cX1_kindByLetter) (maxL := 1) (ret := (some .int)) (by decide) rfl (Nat.le_of_ble_eq_true rfl) ?_
  intro p e s m below meth c ls Qf hQ hx hb hml hr hlocks hown hts hK hP hl
  have hown : s.vm.findClass RX1 = some m.cls := hown
  have hl : lv_has ls 1 [(0, .int co)] := hl
  refine lv_iload_n hx hb dX1_kindByLetter_0 rfl (lv_at hl 0 rfl) ?_
  by_cases c1_112 : co = 112
  · skip
    refine lv_lookup (tgt := 36) (off := 35) hx hb dX1_kindByLetter_1 (by decide) (by rw [c1_112]; decide) (by decide) ?_
    refine lv_iconst (v := 0) hx hb dX1_kindByLetter_36 (by decide) ?_
    have hR1 : (fX1_kindByLetter co) = 0 := (by unfold fX1_kindByLetter; rw [if_pos c1_112])
    rw [hQ]
    exact W.iret (v := 0) hx hb hr (fun t ht hW => ⟨_, rfl, hR1.symm, ht⟩) (fun q h => by cases h) dX1_kindByLetter_37
  by_cases c1_115 : co = 115
  · skip
    refine lv_lookup (tgt := 38) (off := 37) hx hb dX1_kindByLetter_1 (by decide) (by rw [c1_115]; decide) (by decide) ?_
    refine lv_iconst (v := 1) hx hb dX1_kindByLetter_38 (by decide) ?_
    have hR2 : (fX1_kindByLetter co) = 1 := (by unfold fX1_kindByLetter; rw [if_neg c1_112, if_pos c1_115])
    rw [hQ]
    exact W.iret (v := 1) hx hb hr (fun t ht hW => ⟨_, rfl, hR2.symm, ht⟩) (fun q h => by cases h) dX1_kindByLetter_39
  by_cases c1_118 : co = 118
  · skip
    refine lv_lookup (tgt := 40) (off := 39) hx hb dX1_kindByLetter_1 (by decide) (by rw [c1_118]; decide) (by decide) ?_
    refine lv_iconst (v := 2) hx hb dX1_kindByLetter_40 (by decide) ?_
    have hR3 : (fX1_kindByLetter co) = 2 := (by unfold fX1_kindByLetter; rw [if_neg c1_112, if_neg c1_115, if_pos c1_118])
    rw [hQ]
    exact W.iret (v := 2) hx hb hr (fun t ht hW => ⟨_, rfl, hR3.symm, ht⟩) (fun q h => by cases h) dX1_kindByLetter_41
  refine lv_lookup (tgt := 42) (off := 41) hx hb dX1_kindByLetter_1 (by decide) (by rw [lv_osw (k := 112) (a := 112) c1_112 rfl, lv_osw (k := 115) (a := 115) c1_115 rfl, lv_osw (k := 118) (a := 118) c1_118 rfl]; rfl) (by decide) ?_
  refine lv_bipush (v := (-9)) hx hb dX1_kindByLetter_42 (by decide) ?_
  have hR4 : (fX1_kindByLetter co) = (-9) := (by unfold fX1_kindByLetter; rw [if_neg c1_112, if_neg c1_115, if_neg c1_118])
  rw [hQ]
  exact W.iret (v := (-9)) hx hb hr (fun t ht hW => ⟨_, rfl, hR4.symm, ht⟩) (fun q h => by cases h) dX1_kindByLetter_44

def fX1_takeKind (an : Int32) (kd : Nat → Int32) (ki : Int32) : Int32 × (Nat → Int32) := (if ki = (-9) then ((-1), kd) else (3, (fX3_write 6 kd an ki)))
theorem q_X1_takeKind : yX1_takeKind.cls = RX1 ∧ yX1_takeKind.cls ≠ "java/lang/invoke/MethodHandle" ∧ yX1_takeKind.cls ≠ "java/lang/invoke/VarHandle" ∧ (parseMethodDescriptor yX1_takeKind.desc).map (fun d => d.parameters.length) = some 1 := by decide +kernel
set_option maxHeartbeats 4000000 in
set_option maxRecDepth 100000 in
theorem c_X1_takeKind (l : Launch) (D : va_G) (cI cS : ClassId) (h ak ap aw : Nat) (an pn gr : Int32) (kd pl wt : Nat → Int32) (ki : Int32)  : MMi l yX1_takeKind wsX1_takeKind { frames := 1, cells := 0, slots := 0, locals := 22 } D cI cS (wSec cI h ak ap aw an pn gr kd pl wt) [.ref h, .int ki] ((fX1_takeKind an kd ki).1) (wSec cI h ak ap aw an pn gr ((fX1_takeKind an kd ki).2) pl wt) := by
  refine kEnterM (cc := cX1_takeKind) (maxL := 2) (ret := (some .int)) (by decide) rfl (Nat.le_of_ble_eq_true rfl) ?_
  intro p e s m below meth c ls Qf hQ hx hb hml hr hlocks hown hts hK hP hD hS hl
  have hown : s.vm.findClass RX1 = some m.cls := hown
  have hl : lv_has ls 2 [(0, .ref h), (1, .int ki)] := hl
  generalize kA (wSec cI h ak ap aw an pn gr kd pl wt) = A at hQ hD hS
  refine lv_iload_n hx hb dX1_takeKind_0 rfl (lv_at hl 1 rfl) ?_
  refine lv_bipush (v := (-9)) hx hb dX1_takeKind_1 (by decide) ?_
  refine lv_icmp_ne (tgt := 8) hx hb dX1_takeKind_3 (by decide) (fun c3 => ?_) (fun c3 => ?_)
  · skip
    refine lv_aload_n hx hb dX1_takeKind_8 rfl (lv_at hl 0 rfl) ?_
    refine va_get (D := D) (ci := 1) (v := .ref ak) (C := RX1) (T := TX1) (N := 6) hx hb hts (fun _ h => List.mem_cons_of_mem _ (List.mem_append_right _ h)) hown hK.1 hP 0 rfl rfl 0 (by decide) (hts (.fieldLink RX1 11 "LieNights$Secret" "kinds" "[I") (List.mem_of_getElem? (i := 1) rfl)) (fun _ h9 => h9) rfl dX1_takeKind_9 ?_
    refine lv_aload_n hx hb dX1_takeKind_12 rfl (lv_at hl 0 rfl) ?_
    refine va_get (D := D) (ci := 1) (v := .int an) (C := RX1) (T := TX1) (N := 6) hx hb hts (fun _ h => List.mem_cons_of_mem _ (List.mem_append_right _ h)) hown hK.1 hP 0 rfl rfl 3 (by decide) (hts (.fieldLink RX1 21 "LieNights$Secret" "answers" "I") (List.mem_of_getElem? (i := 2) rfl)) (fun _ h9 => h9) rfl dX1_takeKind_13 ?_
    refine lv_iload_n hx hb dX1_takeKind_16 rfl (lv_at hl 1 rfl) ?_
    refine kMv (wl' := (wSec cI h ak ap aw an pn gr (fX3_write 6 kd an ki) pl wt)) (wc := (wArr cI ak 6 kd)) (w1 := (wArr cI ak 6 (fX3_write 6 kd an ki))) hP hD hS [1] rfl rfl rfl (va_runSN (As := [.ref ak, .int an, .int ki]) (rest := []) ⟨hx, hb, hml, hown, hts⟩ (c_X3_write l D cI cS ak 6 kd an ki (by decide)) ⟨va_cnB 3 hts gX1_takeKind_X3_write_n35 rfl rfl rfl (hK.2.at 6 (q := (RX1, 35, yX3_write, "LieNights")) rfl) (hts _ (List.mem_of_getElem? (i := 4) rfl)) q_X3_write.2 ⟨Nat.le_of_ble_eq_true rfl, Nat.le_of_ble_eq_true rfl⟩, hts _ (List.mem_of_getElem? (i := 3) rfl), trivial⟩ (kMS hK hP hD [1] rfl rfl [.ref ak, .int an, .int ki]) rfl rfl hl.1 rfl (lv_room (Nat.le_of_ble_eq_true rfl)) dX1_takeKind_17 ⟨Nat.zero_le _, Nat.zero_le _⟩) (fun H locs hP hD hS => ?_)
    refine lv_iconst (v := 3) hx hb dX1_takeKind_20 (by decide) ?_
    have hR1 : (fX1_takeKind an kd ki) = (3, (fX3_write 6 kd an ki)) := (by unfold fX1_takeKind; rw [if_neg c3])
    rw [hQ]
    exact W.iret (v := 3) hx hb hr (fun t ht hW => ⟨⟨_, (), rfl, (by show _ = _; rw [hR1]), (by show va_P D vwCl _ t.heap; rw [hR1, ht]; exact hP)⟩, hS.F ht⟩) hS.2.2 dX1_takeKind_21
  refine lv_iconst (v := (-1)) hx hb dX1_takeKind_6 (by decide) ?_
  have hR2 : (fX1_takeKind an kd ki) = ((-1), kd) := (by unfold fX1_takeKind; rw [if_pos c3])
  rw [hQ]
  exact W.iret (v := (-1)) hx hb hr (fun t ht hW => ⟨⟨_, (), rfl, (by show _ = _; rw [hR2]), (by show va_P D vwCl _ t.heap; rw [hR2, ht]; exact hP)⟩, hS.F ht⟩) hS.2.2 dX1_takeKind_7

def fX1_takePlace (an : Int32) (pl : Nat → Int32) (co : Int32) : Int32 × Int32 × (Nat → Int32) := (if (fX1_isDigit co) = 0 then ((-1), an, pl) else (1, (an + 1), (fX3_write 6 pl an (co - 48))))
theorem q_X1_takePlace : yX1_takePlace.cls = RX1 ∧ yX1_takePlace.cls ≠ "java/lang/invoke/MethodHandle" ∧ yX1_takePlace.cls ≠ "java/lang/invoke/VarHandle" ∧ (parseMethodDescriptor yX1_takePlace.desc).map (fun d => d.parameters.length) = some 1 := by decide +kernel
set_option maxHeartbeats 4000000 in
set_option maxRecDepth 100000 in
theorem c_X1_takePlace (l : Launch) (D : va_G) (cI cS : ClassId) (h ak ap aw : Nat) (an pn gr : Int32) (kd pl wt : Nat → Int32) (co : Int32)  : MMi l yX1_takePlace wsX1_takePlace { frames := 1, cells := 0, slots := 0, locals := 22 } D cI cS (wSec cI h ak ap aw an pn gr kd pl wt) [.ref h, .int co] ((fX1_takePlace an pl co).1) (wSec cI h ak ap aw ((fX1_takePlace an pl co).2.1) pn gr kd ((fX1_takePlace an pl co).2.2) wt) := by
  refine kEnterM (cc := cX1_takePlace) (maxL := 2) (ret := (some .int)) (by decide) rfl (Nat.le_of_ble_eq_true rfl) ?_
  intro p e s m below meth c ls Qf hQ hx hb hml hr hlocks hown hts hK hP hD hS hl
  have hown : s.vm.findClass RX1 = some m.cls := hown
  have hl : lv_has ls 2 [(0, .ref h), (1, .int co)] := hl
  generalize kA (wSec cI h ak ap aw an pn gr kd pl wt) = A at hQ hD hS
  refine lv_iload_n hx hb dX1_takePlace_0 rfl (lv_at hl 1 rfl) ?_
  refine kPi (va_runS (As := [.int co]) (rest := []) ⟨hx, hb, hml, hown, hts⟩ (c_X1_isDigit l D cI cS co) (va_cwS 1 hts gX1_takePlace_X1_isDigit rfl rfl rfl q_X1_isDigit.2 ⟨Nat.le_of_ble_eq_true rfl, Nat.le_of_ble_eq_true rfl⟩) (kPS hK hP [] rfl [.int co]) rfl rfl hl.1 rfl (lv_room (Nat.le_of_ble_eq_true rfl)) dX1_takePlace_1 ⟨Nat.zero_le _, Nat.zero_le _⟩) ?_
  refine lv_if_ne (tgt := 9) hx hb dX1_takePlace_4 (by decide) (fun c4 => ?_) (fun c4 => ?_)
  · skip
    refine lv_aload_n hx hb dX1_takePlace_9 rfl (lv_at hl 0 rfl) ?_
    refine va_get (D := D) (ci := 1) (v := .ref ap) (C := RX1) (T := TX1) (N := 6) hx hb hts (fun _ h => List.mem_cons_of_mem _ (List.mem_append_right _ h)) hown hK.1 hP 0 rfl rfl 1 (by decide) (hts (.fieldLink RX1 15 "LieNights$Secret" "places" "[I") (List.mem_of_getElem? (i := 1) rfl)) (fun _ h9 => h9) rfl dX1_takePlace_10 ?_
    refine lv_aload_n hx hb dX1_takePlace_13 rfl (lv_at hl 0 rfl) ?_
    refine va_get (D := D) (ci := 1) (v := .int an) (C := RX1) (T := TX1) (N := 6) hx hb hts (fun _ h => List.mem_cons_of_mem _ (List.mem_append_right _ h)) hown hK.1 hP 0 rfl rfl 3 (by decide) (hts (.fieldLink RX1 21 "LieNights$Secret" "answers" "I") (List.mem_of_getElem? (i := 2) rfl)) (fun _ h9 => h9) rfl dX1_takePlace_14 ?_
    refine lv_iload_n hx hb dX1_takePlace_17 rfl (lv_at hl 1 rfl) ?_
    refine lv_bipush (v := 48) hx hb dX1_takePlace_18 (by decide) ?_
    refine lv_isub hx hb dX1_takePlace_20 ?_
    refine kMv (wl' := (wSec cI h ak ap aw an pn gr kd (fX3_write 6 pl an (co - 48)) wt)) (wc := (wArr cI ap 6 pl)) (w1 := (wArr cI ap 6 (fX3_write 6 pl an (co - 48)))) hP hD hS [2] rfl rfl rfl (va_runSN (As := [.ref ap, .int an, .int (co - 48)]) (rest := []) ⟨hx, hb, hml, hown, hts⟩ (c_X3_write l D cI cS ap 6 pl an (co - 48) (by decide)) ⟨va_cnB 3 hts gX1_takePlace_X3_write_n35 rfl rfl rfl (hK.2.at 6 (q := (RX1, 35, yX3_write, "LieNights")) rfl) (hts _ (List.mem_of_getElem? (i := 8) rfl)) q_X3_write.2 ⟨Nat.le_of_ble_eq_true rfl, Nat.le_of_ble_eq_true rfl⟩, hts _ (List.mem_of_getElem? (i := 7) rfl), trivial⟩ (kMS hK hP hD [2] rfl rfl [.ref ap, .int an, .int (co - 48)]) rfl rfl hl.1 rfl (lv_room (Nat.le_of_ble_eq_true rfl)) dX1_takePlace_21 ⟨Nat.zero_le _, Nat.zero_le _⟩) (fun H locs hP hD hS => ?_)
    refine lv_aload_n hx hb dX1_takePlace_24 rfl (lv_at hl 0 rfl) ?_
    refine lv_dup hx hb dX1_takePlace_25 rfl ?_
    refine va_get (D := D) (ci := 1) (v := .int an) (C := RX1) (T := TX1) (N := 6) hx hb hts (fun _ h => List.mem_cons_of_mem _ (List.mem_append_right _ h)) hown hK.1 hP 0 rfl rfl 3 (by decide) (hts (.fieldLink RX1 21 "LieNights$Secret" "answers" "I") (List.mem_of_getElem? (i := 2) rfl)) (fun _ h9 => h9) rfl dX1_takePlace_26 ?_
    refine lv_iconst (v := 1) hx hb dX1_takePlace_29 (by decide) ?_
    refine lv_iadd hx hb dX1_takePlace_30 ?_
    refine va_put (D := D) (ci := 1) (v := .int (an + 1)) (ty := tyX1 3) (C := RX1) (T := TX1) (N := 6) hx hb hts (fun _ h => List.mem_cons_of_mem _ (List.mem_append_right _ h)) tyX1 tyX1_ok nmX1 hown hK.1 hP hD hS 0 rfl rfl 3 (by decide) (hts (.fieldLink RX1 21 "LieNights$Secret" "answers" "I") (List.mem_of_getElem? (i := 2) rfl)) (fun _ h9 => h9) rfl (tyX1_ok 3 (by decide)) rfl rfl (Nat.le_of_ble_eq_true rfl) dX1_takePlace_31 (fun H locs hP hD hS => ?_)
    have hP : va_P D vwCl (wSec cI h ak ap aw (an + 1) pn gr kd (fX3_write 6 pl an (co - 48)) wt) H := hP
    have hD : va_D A (wSec cI h ak ap aw (an + 1) pn gr kd (fX3_write 6 pl an (co - 48)) wt) := hD
    refine lv_iconst (v := 1) hx hb dX1_takePlace_34 (by decide) ?_
    have hR1 : (fX1_takePlace an pl co) = (1, (an + 1), (fX3_write 6 pl an (co - 48))) := (by unfold fX1_takePlace; rw [if_neg c4])
    rw [hQ]
    exact W.iret (v := 1) hx hb hr (fun t ht hW => ⟨⟨_, (), rfl, (by show _ = _; rw [hR1]), (by show va_P D vwCl _ t.heap; rw [hR1, ht]; exact hP)⟩, hS.F ht⟩) hS.2.2 dX1_takePlace_35
  refine lv_iconst (v := (-1)) hx hb dX1_takePlace_7 (by decide) ?_
  have hR2 : (fX1_takePlace an pl co) = ((-1), an, pl) := (by unfold fX1_takePlace; rw [if_pos c4])
  rw [hQ]
  exact W.iret (v := (-1)) hx hb hr (fun t ht hW => ⟨⟨_, (), rfl, (by show _ = _; rw [hR2]), (by show va_P D vwCl _ t.heap; rw [hR2, ht]; exact hP)⟩, hS.F ht⟩) hS.2.2 dX1_takePlace_8

def fX1_takeGrowth (gr co : Int32) : Int32 × Int32 := (if (fX1_isDigit co) = 0 then ((-1), gr) else (5, (co - 48)))
theorem q_X1_takeGrowth : yX1_takeGrowth.cls = RX1 ∧ yX1_takeGrowth.cls ≠ "java/lang/invoke/MethodHandle" ∧ yX1_takeGrowth.cls ≠ "java/lang/invoke/VarHandle" ∧ (parseMethodDescriptor yX1_takeGrowth.desc).map (fun d => d.parameters.length) = some 1 := by decide +kernel
set_option maxHeartbeats 4000000 in
set_option maxRecDepth 100000 in
theorem c_X1_takeGrowth (l : Launch) (D : va_G) (cI cS : ClassId) (h ak ap aw : Nat) (an pn gr : Int32) (kd pl wt : Nat → Int32) (co : Int32)  : MMi l yX1_takeGrowth wsX1_takeGrowth { frames := 1, cells := 0, slots := 0, locals := 20 } D cI cS (wSec cI h ak ap aw an pn gr kd pl wt) [.ref h, .int co] ((fX1_takeGrowth gr co).1) (wSec cI h ak ap aw an pn ((fX1_takeGrowth gr co).2) kd pl wt) := by
  refine kEnterM (cc := cX1_takeGrowth) (maxL := 2) (ret := (some .int)) (by decide) rfl (Nat.le_of_ble_eq_true rfl) ?_
  intro p e s m below meth c ls Qf hQ hx hb hml hr hlocks hown hts hK hP hD hS hl
  have hown : s.vm.findClass RX1 = some m.cls := hown
  have hl : lv_has ls 2 [(0, .ref h), (1, .int co)] := hl
  generalize kA (wSec cI h ak ap aw an pn gr kd pl wt) = A at hQ hD hS
  refine lv_iload_n hx hb dX1_takeGrowth_0 rfl (lv_at hl 1 rfl) ?_
  refine kPi (va_runS (As := [.int co]) (rest := []) ⟨hx, hb, hml, hown, hts⟩ (c_X1_isDigit l D cI cS co) (va_cwS 1 hts gX1_takeGrowth_X1_isDigit rfl rfl rfl q_X1_isDigit.2 ⟨Nat.le_of_ble_eq_true rfl, Nat.le_of_ble_eq_true rfl⟩) (kPS hK hP [] rfl [.int co]) rfl rfl hl.1 rfl (lv_room (Nat.le_of_ble_eq_true rfl)) dX1_takeGrowth_1 ⟨Nat.zero_le _, Nat.zero_le _⟩) ?_
  refine lv_if_ne (tgt := 9) hx hb dX1_takeGrowth_4 (by decide) (fun c4 => ?_) (fun c4 => ?_)
  · skip
    refine lv_aload_n hx hb dX1_takeGrowth_9 rfl (lv_at hl 0 rfl) ?_
    refine lv_iload_n hx hb dX1_takeGrowth_10 rfl (lv_at hl 1 rfl) ?_
    refine lv_bipush (v := 48) hx hb dX1_takeGrowth_11 (by decide) ?_
    refine lv_isub hx hb dX1_takeGrowth_13 ?_
    refine va_put (D := D) (ci := 1) (v := .int (co - 48)) (ty := tyX1 5) (C := RX1) (T := TX1) (N := 6) hx hb hts (fun _ h => List.mem_cons_of_mem _ (List.mem_append_right _ h)) tyX1 tyX1_ok nmX1 hown hK.1 hP hD hS 0 rfl rfl 5 (by decide) (hts (.fieldLink RX1 28 "LieNights$Secret" "growth" "I") (List.mem_of_getElem? (i := 1) rfl)) (fun _ h9 => h9) rfl (tyX1_ok 5 (by decide)) rfl rfl (Nat.le_of_ble_eq_true rfl) dX1_takeGrowth_14 (fun H locs hP hD hS => ?_)
    have hP : va_P D vwCl (wSec cI h ak ap aw an pn (co - 48) kd pl wt) H := hP
    have hD : va_D A (wSec cI h ak ap aw an pn (co - 48) kd pl wt) := hD
    refine lv_iconst (v := 5) hx hb dX1_takeGrowth_17 (by decide) ?_
    have hR1 : (fX1_takeGrowth gr co) = (5, (co - 48)) := (by unfold fX1_takeGrowth; rw [if_neg c4])
    rw [hQ]
    exact W.iret (v := 5) hx hb hr (fun t ht hW => ⟨⟨_, (), rfl, (by show _ = _; rw [hR1]), (by show va_P D vwCl _ t.heap; rw [hR1, ht]; exact hP)⟩, hS.F ht⟩) hS.2.2 dX1_takeGrowth_18
  refine lv_iconst (v := (-1)) hx hb dX1_takeGrowth_7 (by decide) ?_
  have hR2 : (fX1_takeGrowth gr co) = ((-1), gr) := (by unfold fX1_takeGrowth; rw [if_pos c4])
  rw [hQ]
  exact W.iret (v := (-1)) hx hb hr (fun t ht hW => ⟨⟨_, (), rfl, (by show _ = _; rw [hR2]), (by show va_P D vwCl _ t.heap; rw [hR2, ht]; exact hP)⟩, hS.F ht⟩) hS.2.2 dX1_takeGrowth_8

def fX1_takeWeight (pn : Int32) (wt : Nat → Int32) (co : Int32) : Int32 × Int32 × (Nat → Int32) := (if (fX1_isDigit co) = 0 then ((-1), pn, wt) else (if co = 48 then ((-1), pn, wt) else (5, (pn + 1), (fX3_write 5 wt pn (co - 48)))))
theorem q_X1_takeWeight : yX1_takeWeight.cls = RX1 ∧ yX1_takeWeight.cls ≠ "java/lang/invoke/MethodHandle" ∧ yX1_takeWeight.cls ≠ "java/lang/invoke/VarHandle" ∧ (parseMethodDescriptor yX1_takeWeight.desc).map (fun d => d.parameters.length) = some 1 := by decide +kernel
set_option maxHeartbeats 4000000 in
set_option maxRecDepth 100000 in
theorem c_X1_takeWeight (l : Launch) (D : va_G) (cI cS : ClassId) (h ak ap aw : Nat) (an pn gr : Int32) (kd pl wt : Nat → Int32) (co : Int32)  : MMi l yX1_takeWeight wsX1_takeWeight { frames := 1, cells := 0, slots := 0, locals := 22 } D cI cS (wSec cI h ak ap aw an pn gr kd pl wt) [.ref h, .int co] ((fX1_takeWeight pn wt co).1) (wSec cI h ak ap aw an ((fX1_takeWeight pn wt co).2.1) gr kd pl ((fX1_takeWeight pn wt co).2.2)) := by
  refine kEnterM (cc := cX1_takeWeight) (maxL := 2) (ret := (some .int)) (by decide) rfl (Nat.le_of_ble_eq_true rfl) ?_
  intro p e s m below meth c ls Qf hQ hx hb hml hr hlocks hown hts hK hP hD hS hl
  have hown : s.vm.findClass RX1 = some m.cls := hown
  have hl : lv_has ls 2 [(0, .ref h), (1, .int co)] := hl
  generalize kA (wSec cI h ak ap aw an pn gr kd pl wt) = A at hQ hD hS
  refine lv_iload_n hx hb dX1_takeWeight_0 rfl (lv_at hl 1 rfl) ?_
  refine kPi (va_runS (As := [.int co]) (rest := []) ⟨hx, hb, hml, hown, hts⟩ (c_X1_isDigit l D cI cS co) (va_cwS 1 hts gX1_takeWeight_X1_isDigit rfl rfl rfl q_X1_isDigit.2 ⟨Nat.le_of_ble_eq_true rfl, Nat.le_of_ble_eq_true rfl⟩) (kPS hK hP [] rfl [.int co]) rfl rfl hl.1 rfl (lv_room (Nat.le_of_ble_eq_true rfl)) dX1_takeWeight_1 ⟨Nat.zero_le _, Nat.zero_le _⟩) ?_
  refine lv_if_eq (tgt := 13) hx hb dX1_takeWeight_4 (by decide) (fun c4 => ?_) (fun c4 => ?_)
  · skip
    refine lv_iconst (v := (-1)) hx hb dX1_takeWeight_13 (by decide) ?_
    have hR1 : (fX1_takeWeight pn wt co) = ((-1), pn, wt) := (by unfold fX1_takeWeight; rw [if_pos c4])
    rw [hQ]
    exact W.iret (v := (-1)) hx hb hr (fun t ht hW => ⟨⟨_, (), rfl, (by show _ = _; rw [hR1]), (by show va_P D vwCl _ t.heap; rw [hR1, ht]; exact hP)⟩, hS.F ht⟩) hS.2.2 dX1_takeWeight_14
  refine lv_iload_n hx hb dX1_takeWeight_7 rfl (lv_at hl 1 rfl) ?_
  refine lv_bipush (v := 48) hx hb dX1_takeWeight_8 (by decide) ?_
  refine lv_icmp_ne (tgt := 15) hx hb dX1_takeWeight_10 (by decide) (fun c10 => ?_) (fun c10 => ?_)
  · skip
    refine lv_aload_n hx hb dX1_takeWeight_15 rfl (lv_at hl 0 rfl) ?_
    refine va_get (D := D) (ci := 1) (v := .ref aw) (C := RX1) (T := TX1) (N := 6) hx hb hts (fun _ h => List.mem_cons_of_mem _ (List.mem_append_right _ h)) hown hK.1 hP 0 rfl rfl 2 (by decide) (hts (.fieldLink RX1 18 "LieNights$Secret" "weights" "[I") (List.mem_of_getElem? (i := 1) rfl)) (fun _ h9 => h9) rfl dX1_takeWeight_16 ?_
    refine lv_aload_n hx hb dX1_takeWeight_19 rfl (lv_at hl 0 rfl) ?_
    refine va_get (D := D) (ci := 1) (v := .int pn) (C := RX1) (T := TX1) (N := 6) hx hb hts (fun _ h => List.mem_cons_of_mem _ (List.mem_append_right _ h)) hown hK.1 hP 0 rfl rfl 4 (by decide) (hts (.fieldLink RX1 25 "LieNights$Secret" "pillars" "I") (List.mem_of_getElem? (i := 2) rfl)) (fun _ h9 => h9) rfl dX1_takeWeight_20 ?_
    refine lv_iload_n hx hb dX1_takeWeight_23 rfl (lv_at hl 1 rfl) ?_
    refine lv_bipush (v := 48) hx hb dX1_takeWeight_24 (by decide) ?_
    refine lv_isub hx hb dX1_takeWeight_26 ?_
    refine kMv (wl' := (wSec cI h ak ap aw an pn gr kd pl (fX3_write 5 wt pn (co - 48)))) (wc := (wArr cI aw 5 wt)) (w1 := (wArr cI aw 5 (fX3_write 5 wt pn (co - 48)))) hP hD hS [3] rfl rfl rfl (va_runSN (As := [.ref aw, .int pn, .int (co - 48)]) (rest := []) ⟨hx, hb, hml, hown, hts⟩ (c_X3_write l D cI cS aw 5 wt pn (co - 48) (by decide)) ⟨va_cnB 3 hts gX1_takeWeight_X3_write_n35 rfl rfl rfl (hK.2.at 6 (q := (RX1, 35, yX3_write, "LieNights")) rfl) (hts _ (List.mem_of_getElem? (i := 8) rfl)) q_X3_write.2 ⟨Nat.le_of_ble_eq_true rfl, Nat.le_of_ble_eq_true rfl⟩, hts _ (List.mem_of_getElem? (i := 7) rfl), trivial⟩ (kMS hK hP hD [3] rfl rfl [.ref aw, .int pn, .int (co - 48)]) rfl rfl hl.1 rfl (lv_room (Nat.le_of_ble_eq_true rfl)) dX1_takeWeight_27 ⟨Nat.zero_le _, Nat.zero_le _⟩) (fun H locs hP hD hS => ?_)
    refine lv_aload_n hx hb dX1_takeWeight_30 rfl (lv_at hl 0 rfl) ?_
    refine lv_dup hx hb dX1_takeWeight_31 rfl ?_
    refine va_get (D := D) (ci := 1) (v := .int pn) (C := RX1) (T := TX1) (N := 6) hx hb hts (fun _ h => List.mem_cons_of_mem _ (List.mem_append_right _ h)) hown hK.1 hP 0 rfl rfl 4 (by decide) (hts (.fieldLink RX1 25 "LieNights$Secret" "pillars" "I") (List.mem_of_getElem? (i := 2) rfl)) (fun _ h9 => h9) rfl dX1_takeWeight_32 ?_
    refine lv_iconst (v := 1) hx hb dX1_takeWeight_35 (by decide) ?_
    refine lv_iadd hx hb dX1_takeWeight_36 ?_
    refine va_put (D := D) (ci := 1) (v := .int (pn + 1)) (ty := tyX1 4) (C := RX1) (T := TX1) (N := 6) hx hb hts (fun _ h => List.mem_cons_of_mem _ (List.mem_append_right _ h)) tyX1 tyX1_ok nmX1 hown hK.1 hP hD hS 0 rfl rfl 4 (by decide) (hts (.fieldLink RX1 25 "LieNights$Secret" "pillars" "I") (List.mem_of_getElem? (i := 2) rfl)) (fun _ h9 => h9) rfl (tyX1_ok 4 (by decide)) rfl rfl (Nat.le_of_ble_eq_true rfl) dX1_takeWeight_37 (fun H locs hP hD hS => ?_)
    have hP : va_P D vwCl (wSec cI h ak ap aw an (pn + 1) gr kd pl (fX3_write 5 wt pn (co - 48))) H := hP
    have hD : va_D A (wSec cI h ak ap aw an (pn + 1) gr kd pl (fX3_write 5 wt pn (co - 48))) := hD
    refine lv_iconst (v := 5) hx hb dX1_takeWeight_40 (by decide) ?_
    have hR2 : (fX1_takeWeight pn wt co) = (5, (pn + 1), (fX3_write 5 wt pn (co - 48))) := (by unfold fX1_takeWeight; rw [if_neg c4, if_neg c10])
    rw [hQ]
    exact W.iret (v := 5) hx hb hr (fun t ht hW => ⟨⟨_, (), rfl, (by show _ = _; rw [hR2]), (by show va_P D vwCl _ t.heap; rw [hR2, ht]; exact hP)⟩, hS.F ht⟩) hS.2.2 dX1_takeWeight_41
  refine lv_iconst (v := (-1)) hx hb dX1_takeWeight_13 (by decide) ?_
  have hR3 : (fX1_takeWeight pn wt co) = ((-1), pn, wt) := (by unfold fX1_takeWeight; rw [if_neg c4, if_pos c10])
  rw [hQ]
  exact W.iret (v := (-1)) hx hb hr (fun t ht hW => ⟨⟨_, (), rfl, (by show _ = _; rw [hR3]), (by show va_P D vwCl _ t.heap; rw [hR3, ht]; exact hP)⟩, hS.F ht⟩) hS.2.2 dX1_takeWeight_14

def fX1_takeCode (an pn gr : Int32) (kd pl wt : Nat → Int32) (du co : Int32) : Int32 × Int32 × Int32 × Int32 × (Nat → Int32) × (Nat → Int32) × (Nat → Int32) := (if du = 0 then (if co = 97 then (1, an, pn, gr, kd, pl, wt) else ((-1), an, pn, gr, kd, pl, wt)) else (if du = 1 then (if co = 44 then (if (6 : Int32) ≤ an then ((-1), an, pn, gr, kd, pl, wt) else (2, an, pn, gr, kd, pl, wt)) else (if co = 59 then (if an < 2 then ((-1), an, pn, gr, kd, pl, wt) else (4, an, pn, gr, kd, pl, wt)) else ((-1), an, pn, gr, kd, pl, wt))) else (if du = 2 then ((fX1_takeKind an kd (fX1_kindByLetter co)).1, an, pn, gr, (fX1_takeKind an kd (fX1_kindByLetter co)).2, pl, wt) else (if du = 3 then ((fX1_takePlace an pl co).1, (fX1_takePlace an pl co).2.1, pn, gr, kd, (fX1_takePlace an pl co).2.2, wt) else (if du = 4 then ((fX1_takeGrowth gr co).1, an, pn, (fX1_takeGrowth gr co).2, kd, pl, wt) else (if du = 5 then (if co = 47 then (if (5 : Int32) ≤ pn then ((-1), an, pn, gr, kd, pl, wt) else (6, an, pn, gr, kd, pl, wt)) else ((-1), an, pn, gr, kd, pl, wt)) else (if du = 6 then ((fX1_takeWeight pn wt co).1, an, (fX1_takeWeight pn wt co).2.1, gr, kd, pl, (fX1_takeWeight pn wt co).2.2) else ((-1), an, pn, gr, kd, pl, wt))))))))
theorem q_X1_takeCode : yX1_takeCode.cls = RX1 ∧ yX1_takeCode.cls ≠ "java/lang/invoke/MethodHandle" ∧ yX1_takeCode.cls ≠ "java/lang/invoke/VarHandle" ∧ (parseMethodDescriptor yX1_takeCode.desc).map (fun d => d.parameters.length) = some 2 := by decide +kernel
set_option maxHeartbeats 4000000 in
set_option maxRecDepth 100000 in
theorem c_X1_takeCode (l : Launch) (D : va_G) (cI cS : ClassId) (h ak ap aw : Nat) (an pn gr : Int32) (kd pl wt : Nat → Int32) (du co : Int32)  : MMi l yX1_takeCode wsX1_takeCode { frames := 2, cells := 0, slots := 0, locals := 43 } D cI cS (wSec cI h ak ap aw an pn gr kd pl wt) [.ref h, .int du, .int co] ((fX1_takeCode an pn gr kd pl wt du co).1) (wSec cI h ak ap aw ((fX1_takeCode an pn gr kd pl wt du co).2.1) ((fX1_takeCode an pn gr kd pl wt du co).2.2.1) ((fX1_takeCode an pn gr kd pl wt du co).2.2.2.1) ((fX1_takeCode an pn gr kd pl wt du co).2.2.2.2.1) ((fX1_takeCode an pn gr kd pl wt du co).2.2.2.2.2.1) ((fX1_takeCode an pn gr kd pl wt du co).2.2.2.2.2.2)) := by
  refine kEnterM (cc := cX1_takeCode) (maxL := 3) (ret := (some .int)) (by decide) rfl (Nat.le_of_ble_eq_true rfl) ?_
  intro p e s m below meth c ls Qf hQ hx hb hml hr hlocks hown hts hK hP hD hS hl
  have hown : s.vm.findClass RX1 = some m.cls := hown
  have hl : lv_has ls 3 [(0, .ref h), (1, .int du), (2, .int co)] := hl
  generalize kA (wSec cI h ak ap aw an pn gr kd pl wt) = A at hQ hD hS
  refine lv_iload_n hx hb dX1_takeCode_0 rfl (lv_at hl 1 rfl) ?_
  by_cases c1_0 : du = 0
  · skip
    refine lv_tableIn (tgt := 44) (off := 43) hx hb dX1_takeCode_1 (by rw [c1_0]; decide) (by rw [c1_0]; decide) (by rw [c1_0]; decide) (by decide) ?_
    refine lv_iload_n hx hb dX1_takeCode_44 rfl (lv_at hl 2 rfl) ?_
    refine lv_bipush (v := 97) hx hb dX1_takeCode_45 (by decide) ?_
    refine lv_icmp_ne (tgt := 54) hx hb dX1_takeCode_47 (by decide) (fun c47 => ?_) (fun c47 => ?_)
    · skip
      refine lv_iconst (v := (-1)) hx hb dX1_takeCode_54 (by decide) ?_
      have hR1 : (fX1_takeCode an pn gr kd pl wt du co) = ((-1), an, pn, gr, kd, pl, wt) := (by unfold fX1_takeCode; rw [if_pos c1_0, if_neg c47])
      rw [hQ]
      exact W.iret (v := (-1)) hx hb hr (fun t ht hW => ⟨⟨_, (), rfl, (by show _ = _; rw [hR1]), (by show va_P D vwCl _ t.heap; rw [hR1, ht]; exact hP)⟩, hS.F ht⟩) hS.2.2 dX1_takeCode_55
    refine lv_iconst (v := 1) hx hb dX1_takeCode_50 (by decide) ?_
    refine lv_goto (tgt := 55) hx hb dX1_takeCode_51 (by decide) ?_
    have hR2 : (fX1_takeCode an pn gr kd pl wt du co) = (1, an, pn, gr, kd, pl, wt) := (by unfold fX1_takeCode; rw [if_pos c1_0, if_pos c47])
    rw [hQ]
    exact W.iret (v := 1) hx hb hr (fun t ht hW => ⟨⟨_, (), rfl, (by show _ = _; rw [hR2]), (by show va_P D vwCl _ t.heap; rw [hR2, ht]; exact hP)⟩, hS.F ht⟩) hS.2.2 dX1_takeCode_55
  by_cases c1_1 : du = 1
  · skip
    refine lv_tableIn (tgt := 56) (off := 55) hx hb dX1_takeCode_1 (by rw [c1_1]; decide) (by rw [c1_1]; decide) (by rw [c1_1]; decide) (by decide) ?_
    refine lv_iload_n hx hb dX1_takeCode_56 rfl (lv_at hl 2 rfl) ?_
    refine lv_bipush (v := 44) hx hb dX1_takeCode_57 (by decide) ?_
    refine lv_icmp_ne (tgt := 77) hx hb dX1_takeCode_59 (by decide) (fun c59 => ?_) (fun c59 => ?_)
    · skip
      refine lv_iload_n hx hb dX1_takeCode_77 rfl (lv_at hl 2 rfl) ?_
      refine lv_bipush (v := 59) hx hb dX1_takeCode_78 (by decide) ?_
      refine lv_icmp_ne (tgt := 95) hx hb dX1_takeCode_80 (by decide) (fun c80 => ?_) (fun c80 => ?_)
      · skip
        refine lv_iconst (v := (-1)) hx hb dX1_takeCode_95 (by decide) ?_
        have hR3 : (fX1_takeCode an pn gr kd pl wt du co) = ((-1), an, pn, gr, kd, pl, wt) := (by unfold fX1_takeCode; rw [if_neg c1_0, if_pos c1_1, if_neg c59, if_neg c80])
        rw [hQ]
        exact W.iret (v := (-1)) hx hb hr (fun t ht hW => ⟨⟨_, (), rfl, (by show _ = _; rw [hR3]), (by show va_P D vwCl _ t.heap; rw [hR3, ht]; exact hP)⟩, hS.F ht⟩) hS.2.2 dX1_takeCode_96
      refine lv_aload_n hx hb dX1_takeCode_83 rfl (lv_at hl 0 rfl) ?_
      refine va_get (D := D) (ci := 1) (v := .int an) (C := RX1) (T := TX1) (N := 6) hx hb hts (fun _ h => List.mem_cons_of_mem _ (List.mem_append_right _ h)) hown hK.1 hP 0 rfl rfl 3 (by decide) (hts (.fieldLink RX1 21 "LieNights$Secret" "answers" "I") (List.mem_of_getElem? (i := 1) rfl)) (fun _ h9 => h9) rfl dX1_takeCode_84 ?_
      refine lv_iconst (v := 2) hx hb dX1_takeCode_87 (by decide) ?_
      refine lv_icmp_lt (tgt := 95) hx hb dX1_takeCode_88 (by decide) (fun c88 => ?_) (fun c88 => ?_)
      · skip
        refine lv_iconst (v := (-1)) hx hb dX1_takeCode_95 (by decide) ?_
        have hR4 : (fX1_takeCode an pn gr kd pl wt du co) = ((-1), an, pn, gr, kd, pl, wt) := (by unfold fX1_takeCode; rw [if_neg c1_0, if_pos c1_1, if_neg c59, if_pos c80, if_pos c88])
        rw [hQ]
        exact W.iret (v := (-1)) hx hb hr (fun t ht hW => ⟨⟨_, (), rfl, (by show _ = _; rw [hR4]), (by show va_P D vwCl _ t.heap; rw [hR4, ht]; exact hP)⟩, hS.F ht⟩) hS.2.2 dX1_takeCode_96
      refine lv_iconst (v := 4) hx hb dX1_takeCode_91 (by decide) ?_
      refine lv_goto (tgt := 96) hx hb dX1_takeCode_92 (by decide) ?_
      have hR5 : (fX1_takeCode an pn gr kd pl wt du co) = (4, an, pn, gr, kd, pl, wt) := (by unfold fX1_takeCode; rw [if_neg c1_0, if_pos c1_1, if_neg c59, if_pos c80, if_neg c88])
      rw [hQ]
      exact W.iret (v := 4) hx hb hr (fun t ht hW => ⟨⟨_, (), rfl, (by show _ = _; rw [hR5]), (by show va_P D vwCl _ t.heap; rw [hR5, ht]; exact hP)⟩, hS.F ht⟩) hS.2.2 dX1_takeCode_96
    refine lv_aload_n hx hb dX1_takeCode_62 rfl (lv_at hl 0 rfl) ?_
    refine va_get (D := D) (ci := 1) (v := .int an) (C := RX1) (T := TX1) (N := 6) hx hb hts (fun _ h => List.mem_cons_of_mem _ (List.mem_append_right _ h)) hown hK.1 hP 0 rfl rfl 3 (by decide) (hts (.fieldLink RX1 21 "LieNights$Secret" "answers" "I") (List.mem_of_getElem? (i := 1) rfl)) (fun _ h9 => h9) rfl dX1_takeCode_63 ?_
    refine lv_bipush (v := 6) hx hb dX1_takeCode_66 (by decide) ?_
    refine lv_icmp_ge (tgt := 75) hx hb dX1_takeCode_68 (by decide) (fun c68 => ?_) (fun c68 => ?_)
    · skip
      refine lv_iconst (v := (-1)) hx hb dX1_takeCode_75 (by decide) ?_
      have hR6 : (fX1_takeCode an pn gr kd pl wt du co) = ((-1), an, pn, gr, kd, pl, wt) := (by unfold fX1_takeCode; rw [if_neg c1_0, if_pos c1_1, if_pos c59, if_pos c68])
      rw [hQ]
      exact W.iret (v := (-1)) hx hb hr (fun t ht hW => ⟨⟨_, (), rfl, (by show _ = _; rw [hR6]), (by show va_P D vwCl _ t.heap; rw [hR6, ht]; exact hP)⟩, hS.F ht⟩) hS.2.2 dX1_takeCode_76
    refine lv_iconst (v := 2) hx hb dX1_takeCode_71 (by decide) ?_
    refine lv_goto (tgt := 76) hx hb dX1_takeCode_72 (by decide) ?_
    have hR7 : (fX1_takeCode an pn gr kd pl wt du co) = (2, an, pn, gr, kd, pl, wt) := (by unfold fX1_takeCode; rw [if_neg c1_0, if_pos c1_1, if_pos c59, if_neg c68])
    rw [hQ]
    exact W.iret (v := 2) hx hb hr (fun t ht hW => ⟨⟨_, (), rfl, (by show _ = _; rw [hR7]), (by show va_P D vwCl _ t.heap; rw [hR7, ht]; exact hP)⟩, hS.F ht⟩) hS.2.2 dX1_takeCode_76
  by_cases c1_2 : du = 2
  · skip
    refine lv_tableIn (tgt := 97) (off := 96) hx hb dX1_takeCode_1 (by rw [c1_2]; decide) (by rw [c1_2]; decide) (by rw [c1_2]; decide) (by decide) ?_
    refine lv_aload_n hx hb dX1_takeCode_97 rfl (lv_at hl 0 rfl) ?_
    refine lv_iload_n hx hb dX1_takeCode_98 rfl (lv_at hl 2 rfl) ?_
    refine kPi (va_runS (As := [.int co]) (rest := [.ref h]) ⟨hx, hb, hml, hown, hts⟩ (c_X1_kindByLetter l D cI cS co) (va_cwS 1 hts gX1_takeCode_X1_kindByLetter rfl rfl rfl q_X1_kindByLetter.2 ⟨Nat.le_of_ble_eq_true rfl, Nat.le_of_ble_eq_true rfl⟩) (kPS hK hP [] rfl [.int co]) rfl rfl hl.1 rfl (lv_room (Nat.le_of_ble_eq_true rfl)) dX1_takeCode_99 ⟨Nat.zero_le _, Nat.zero_le _⟩) ?_
    refine kMi (wl' := (wSec cI h ak ap aw an pn gr ((fX1_takeKind an kd (fX1_kindByLetter co)).2) pl wt)) (wc := (wSec cI h ak ap aw an pn gr kd pl wt)) (w1 := (wSec cI h ak ap aw an pn gr ((fX1_takeKind an kd (fX1_kindByLetter co)).2) pl wt)) hP hD hS [0, 1, 2, 3] rfl rfl rfl (va_runV (As := [.int (fX1_kindByLetter co)]) (rest := []) ⟨hx, hb, hml, hown, hts⟩ (c_X1_takeKind l D cI cS h ak ap aw an pn gr kd pl wt (fX1_kindByLetter co)) (cwV 1 hts gX1_takeCode_X1_takeKind rfl rfl rfl q_X1_takeKind ⟨Nat.le_of_ble_eq_true rfl, Nat.le_of_ble_eq_true rfl⟩) (kMV hK hP hD [0, 1, 2, 3] rfl rfl (va_recv hK.1 hP (ci := 1) (q0 := 0) rfl rfl) [.int (fX1_kindByLetter co)]) rfl rfl hl.1 rfl (lv_room (Nat.le_of_ble_eq_true rfl)) dX1_takeCode_102 ⟨Nat.zero_le _, Nat.zero_le _⟩) (fun H locs hP hD hS => ?_)
    have hR8 : (fX1_takeCode an pn gr kd pl wt du co) = ((fX1_takeKind an kd (fX1_kindByLetter co)).1, an, pn, gr, (fX1_takeKind an kd (fX1_kindByLetter co)).2, pl, wt) := (by unfold fX1_takeCode; rw [if_neg c1_0, if_neg c1_1, if_pos c1_2])
    rw [hQ]
    exact W.iret (v := (fX1_takeKind an kd (fX1_kindByLetter co)).1) hx hb hr (fun t ht hW => ⟨⟨_, (), rfl, (by show _ = _; rw [hR8]), (by show va_P D vwCl _ t.heap; rw [hR8, ht]; exact hP)⟩, hS.F ht⟩) hS.2.2 dX1_takeCode_105
  by_cases c1_3 : du = 3
  · skip
    refine lv_tableIn (tgt := 106) (off := 105) hx hb dX1_takeCode_1 (by rw [c1_3]; decide) (by rw [c1_3]; decide) (by rw [c1_3]; decide) (by decide) ?_
    refine lv_aload_n hx hb dX1_takeCode_106 rfl (lv_at hl 0 rfl) ?_
    refine lv_iload_n hx hb dX1_takeCode_107 rfl (lv_at hl 2 rfl) ?_
    refine kMi (wl' := (wSec cI h ak ap aw ((fX1_takePlace an pl co).2.1) pn gr kd ((fX1_takePlace an pl co).2.2) wt)) (wc := (wSec cI h ak ap aw an pn gr kd pl wt)) (w1 := (wSec cI h ak ap aw ((fX1_takePlace an pl co).2.1) pn gr kd ((fX1_takePlace an pl co).2.2) wt)) hP hD hS [0, 1, 2, 3] rfl rfl rfl (va_runV (As := [.int co]) (rest := []) ⟨hx, hb, hml, hown, hts⟩ (c_X1_takePlace l D cI cS h ak ap aw an pn gr kd pl wt co) (cwV 1 hts gX1_takeCode_X1_takePlace rfl rfl rfl q_X1_takePlace ⟨Nat.le_of_ble_eq_true rfl, Nat.le_of_ble_eq_true rfl⟩) (kMV hK hP hD [0, 1, 2, 3] rfl rfl (va_recv hK.1 hP (ci := 1) (q0 := 0) rfl rfl) [.int co]) rfl rfl hl.1 rfl (lv_room (Nat.le_of_ble_eq_true rfl)) dX1_takeCode_108 ⟨Nat.zero_le _, Nat.zero_le _⟩) (fun H locs hP hD hS => ?_)
    have hR9 : (fX1_takeCode an pn gr kd pl wt du co) = ((fX1_takePlace an pl co).1, (fX1_takePlace an pl co).2.1, pn, gr, kd, (fX1_takePlace an pl co).2.2, wt) := (by unfold fX1_takeCode; rw [if_neg c1_0, if_neg c1_1, if_neg c1_2, if_pos c1_3])
    rw [hQ]
    exact W.iret (v := (fX1_takePlace an pl co).1) hx hb hr (fun t ht hW => ⟨⟨_, (), rfl, (by show _ = _; rw [hR9]), (by show va_P D vwCl _ t.heap; rw [hR9, ht]; exact hP)⟩, hS.F ht⟩) hS.2.2 dX1_takeCode_111
  by_cases c1_4 : du = 4
  · skip
    refine lv_tableIn (tgt := 112) (off := 111) hx hb dX1_takeCode_1 (by rw [c1_4]; decide) (by rw [c1_4]; decide) (by rw [c1_4]; decide) (by decide) ?_
    refine lv_aload_n hx hb dX1_takeCode_112 rfl (lv_at hl 0 rfl) ?_
    refine lv_iload_n hx hb dX1_takeCode_113 rfl (lv_at hl 2 rfl) ?_
    refine kMi (wl' := (wSec cI h ak ap aw an pn ((fX1_takeGrowth gr co).2) kd pl wt)) (wc := (wSec cI h ak ap aw an pn gr kd pl wt)) (w1 := (wSec cI h ak ap aw an pn ((fX1_takeGrowth gr co).2) kd pl wt)) hP hD hS [0, 1, 2, 3] rfl rfl rfl (va_runV (As := [.int co]) (rest := []) ⟨hx, hb, hml, hown, hts⟩ (c_X1_takeGrowth l D cI cS h ak ap aw an pn gr kd pl wt co) (cwV 1 hts gX1_takeCode_X1_takeGrowth rfl rfl rfl q_X1_takeGrowth ⟨Nat.le_of_ble_eq_true rfl, Nat.le_of_ble_eq_true rfl⟩) (kMV hK hP hD [0, 1, 2, 3] rfl rfl (va_recv hK.1 hP (ci := 1) (q0 := 0) rfl rfl) [.int co]) rfl rfl hl.1 rfl (lv_room (Nat.le_of_ble_eq_true rfl)) dX1_takeCode_114 ⟨Nat.zero_le _, Nat.zero_le _⟩) (fun H locs hP hD hS => ?_)
    have hR10 : (fX1_takeCode an pn gr kd pl wt du co) = ((fX1_takeGrowth gr co).1, an, pn, (fX1_takeGrowth gr co).2, kd, pl, wt) := (by unfold fX1_takeCode; rw [if_neg c1_0, if_neg c1_1, if_neg c1_2, if_neg c1_3, if_pos c1_4])
    rw [hQ]
    exact W.iret (v := (fX1_takeGrowth gr co).1) hx hb hr (fun t ht hW => ⟨⟨_, (), rfl, (by show _ = _; rw [hR10]), (by show va_P D vwCl _ t.heap; rw [hR10, ht]; exact hP)⟩, hS.F ht⟩) hS.2.2 dX1_takeCode_117
  by_cases c1_5 : du = 5
  · skip
    refine lv_tableIn (tgt := 118) (off := 117) hx hb dX1_takeCode_1 (by rw [c1_5]; decide) (by rw [c1_5]; decide) (by rw [c1_5]; decide) (by decide) ?_
    refine lv_iload_n hx hb dX1_takeCode_118 rfl (lv_at hl 2 rfl) ?_
    refine lv_bipush (v := 47) hx hb dX1_takeCode_119 (by decide) ?_
    refine lv_icmp_ne (tgt := 137) hx hb dX1_takeCode_121 (by decide) (fun c121 => ?_) (fun c121 => ?_)
    · skip
      refine lv_iconst (v := (-1)) hx hb dX1_takeCode_137 (by decide) ?_
      have hR11 : (fX1_takeCode an pn gr kd pl wt du co) = ((-1), an, pn, gr, kd, pl, wt) := (by unfold fX1_takeCode; rw [if_neg c1_0, if_neg c1_1, if_neg c1_2, if_neg c1_3, if_neg c1_4, if_pos c1_5, if_neg c121])
      rw [hQ]
      exact W.iret (v := (-1)) hx hb hr (fun t ht hW => ⟨⟨_, (), rfl, (by show _ = _; rw [hR11]), (by show va_P D vwCl _ t.heap; rw [hR11, ht]; exact hP)⟩, hS.F ht⟩) hS.2.2 dX1_takeCode_138
    refine lv_aload_n hx hb dX1_takeCode_124 rfl (lv_at hl 0 rfl) ?_
    refine va_get (D := D) (ci := 1) (v := .int pn) (C := RX1) (T := TX1) (N := 6) hx hb hts (fun _ h => List.mem_cons_of_mem _ (List.mem_append_right _ h)) hown hK.1 hP 0 rfl rfl 4 (by decide) (hts (.fieldLink RX1 25 "LieNights$Secret" "pillars" "I") (List.mem_of_getElem? (i := 2) rfl)) (fun _ h9 => h9) rfl dX1_takeCode_125 ?_
    refine lv_iconst (v := 5) hx hb dX1_takeCode_128 (by decide) ?_
    refine lv_icmp_ge (tgt := 137) hx hb dX1_takeCode_129 (by decide) (fun c129 => ?_) (fun c129 => ?_)
    · skip
      refine lv_iconst (v := (-1)) hx hb dX1_takeCode_137 (by decide) ?_
      have hR12 : (fX1_takeCode an pn gr kd pl wt du co) = ((-1), an, pn, gr, kd, pl, wt) := (by unfold fX1_takeCode; rw [if_neg c1_0, if_neg c1_1, if_neg c1_2, if_neg c1_3, if_neg c1_4, if_pos c1_5, if_pos c121, if_pos c129])
      rw [hQ]
      exact W.iret (v := (-1)) hx hb hr (fun t ht hW => ⟨⟨_, (), rfl, (by show _ = _; rw [hR12]), (by show va_P D vwCl _ t.heap; rw [hR12, ht]; exact hP)⟩, hS.F ht⟩) hS.2.2 dX1_takeCode_138
    refine lv_bipush (v := 6) hx hb dX1_takeCode_132 (by decide) ?_
    refine lv_goto (tgt := 138) hx hb dX1_takeCode_134 (by decide) ?_
    have hR13 : (fX1_takeCode an pn gr kd pl wt du co) = (6, an, pn, gr, kd, pl, wt) := (by unfold fX1_takeCode; rw [if_neg c1_0, if_neg c1_1, if_neg c1_2, if_neg c1_3, if_neg c1_4, if_pos c1_5, if_pos c121, if_neg c129])
    rw [hQ]
    exact W.iret (v := 6) hx hb hr (fun t ht hW => ⟨⟨_, (), rfl, (by show _ = _; rw [hR13]), (by show va_P D vwCl _ t.heap; rw [hR13, ht]; exact hP)⟩, hS.F ht⟩) hS.2.2 dX1_takeCode_138
  by_cases c1_6 : du = 6
  · skip
    refine lv_tableIn (tgt := 139) (off := 138) hx hb dX1_takeCode_1 (by rw [c1_6]; decide) (by rw [c1_6]; decide) (by rw [c1_6]; decide) (by decide) ?_
    refine lv_aload_n hx hb dX1_takeCode_139 rfl (lv_at hl 0 rfl) ?_
    refine lv_iload_n hx hb dX1_takeCode_140 rfl (lv_at hl 2 rfl) ?_
    refine kMi (wl' := (wSec cI h ak ap aw an ((fX1_takeWeight pn wt co).2.1) gr kd pl ((fX1_takeWeight pn wt co).2.2))) (wc := (wSec cI h ak ap aw an pn gr kd pl wt)) (w1 := (wSec cI h ak ap aw an ((fX1_takeWeight pn wt co).2.1) gr kd pl ((fX1_takeWeight pn wt co).2.2))) hP hD hS [0, 1, 2, 3] rfl rfl rfl (va_runV (As := [.int co]) (rest := []) ⟨hx, hb, hml, hown, hts⟩ (c_X1_takeWeight l D cI cS h ak ap aw an pn gr kd pl wt co) (cwV 1 hts gX1_takeCode_X1_takeWeight rfl rfl rfl q_X1_takeWeight ⟨Nat.le_of_ble_eq_true rfl, Nat.le_of_ble_eq_true rfl⟩) (kMV hK hP hD [0, 1, 2, 3] rfl rfl (va_recv hK.1 hP (ci := 1) (q0 := 0) rfl rfl) [.int co]) rfl rfl hl.1 rfl (lv_room (Nat.le_of_ble_eq_true rfl)) dX1_takeCode_141 ⟨Nat.zero_le _, Nat.zero_le _⟩) (fun H locs hP hD hS => ?_)
    have hR14 : (fX1_takeCode an pn gr kd pl wt du co) = ((fX1_takeWeight pn wt co).1, an, (fX1_takeWeight pn wt co).2.1, gr, kd, pl, (fX1_takeWeight pn wt co).2.2) := (by unfold fX1_takeCode; rw [if_neg c1_0, if_neg c1_1, if_neg c1_2, if_neg c1_3, if_neg c1_4, if_neg c1_5, if_pos c1_6])
    rw [hQ]
    exact W.iret (v := (fX1_takeWeight pn wt co).1) hx hb hr (fun t ht hW => ⟨⟨_, (), rfl, (by show _ = _; rw [hR14]), (by show va_P D vwCl _ t.heap; rw [hR14, ht]; exact hP)⟩, hS.F ht⟩) hS.2.2 dX1_takeCode_144
  refine lv_tableOut (tgt := 145) hx hb dX1_takeCode_1 (by have h0 := lv_neT (k := 0) (a := 0) c1_0 rfl; have h1 := lv_neT (k := 1) (a := 1) c1_1 rfl; have h2 := lv_neT (k := 2) (a := 2) c1_2 rfl; have h3 := lv_neT (k := 3) (a := 3) c1_3 rfl; have h4 := lv_neT (k := 4) (a := 4) c1_4 rfl; have h5 := lv_neT (k := 5) (a := 5) c1_5 rfl; have h6 := lv_neT (k := 6) (a := 6) c1_6 rfl; omega) (by decide) ?_
  refine lv_iconst (v := (-1)) hx hb dX1_takeCode_145 (by decide) ?_
  have hR15 : (fX1_takeCode an pn gr kd pl wt du co) = ((-1), an, pn, gr, kd, pl, wt) := (by unfold fX1_takeCode; rw [if_neg c1_0, if_neg c1_1, if_neg c1_2, if_neg c1_3, if_neg c1_4, if_neg c1_5, if_neg c1_6])
  rw [hQ]
  exact W.iret (v := (-1)) hx hb hr (fun t ht hW => ⟨⟨_, (), rfl, (by show _ = _; rw [hR15]), (by show va_P D vwCl _ t.heap; rw [hR15, ht]; exact hP)⟩, hS.F ht⟩) hS.2.2 dX1_takeCode_146

def aX1_readText_16 (nn v4_16 wan_16 wpn_16 wgr_16 : Int32) (wkd_16 wpl_16 wwt_16 : Nat → Int32) : (Int32 × Int32 × Int32 × Int32 × (Nat → Int32) × (Nat → Int32) × (Nat → Int32)) := (if v4_16 = 5 then (if wpn_16 < 1 then (nn, wan_16, wpn_16, wgr_16, wkd_16, wpl_16, wwt_16) else ((-1), wan_16, wpn_16, wgr_16, wkd_16, wpl_16, wwt_16)) else (nn, wan_16, wpn_16, wgr_16, wkd_16, wpl_16, wwt_16))
def sX1_readText_16 (ce2 : Nat → Int32) (i : Int32) (k16 : Nat) (v4_16 wan_16 wpn_16 wgr_16 : Int32) (wkd_16 wpl_16 wwt_16 : Nat → Int32) : (Int32 × Int32 × Int32 × Int32 × (Nat → Int32) × (Nat → Int32) × (Nat → Int32)) ⊕ (Int32 × Int32 × Int32 × Int32 × (Nat → Int32) × (Nat → Int32) × (Nat → Int32)) := (if (fX1_takeCode wan_16 wpn_16 wgr_16 wkd_16 wpl_16 wwt_16 v4_16 (fX2_get ce2 (i + (nI k16)))).1 = (-1) then (.inr ((nI k16), (fX1_takeCode wan_16 wpn_16 wgr_16 wkd_16 wpl_16 wwt_16 v4_16 (fX2_get ce2 (i + (nI k16)))).2.1, (fX1_takeCode wan_16 wpn_16 wgr_16 wkd_16 wpl_16 wwt_16 v4_16 (fX2_get ce2 (i + (nI k16)))).2.2.1, (fX1_takeCode wan_16 wpn_16 wgr_16 wkd_16 wpl_16 wwt_16 v4_16 (fX2_get ce2 (i + (nI k16)))).2.2.2.1, (fX1_takeCode wan_16 wpn_16 wgr_16 wkd_16 wpl_16 wwt_16 v4_16 (fX2_get ce2 (i + (nI k16)))).2.2.2.2.1, (fX1_takeCode wan_16 wpn_16 wgr_16 wkd_16 wpl_16 wwt_16 v4_16 (fX2_get ce2 (i + (nI k16)))).2.2.2.2.2.1, (fX1_takeCode wan_16 wpn_16 wgr_16 wkd_16 wpl_16 wwt_16 v4_16 (fX2_get ce2 (i + (nI k16)))).2.2.2.2.2.2)) else (.inl ((fX1_takeCode wan_16 wpn_16 wgr_16 wkd_16 wpl_16 wwt_16 v4_16 (fX2_get ce2 (i + (nI k16)))).1, (fX1_takeCode wan_16 wpn_16 wgr_16 wkd_16 wpl_16 wwt_16 v4_16 (fX2_get ce2 (i + (nI k16)))).2.1, (fX1_takeCode wan_16 wpn_16 wgr_16 wkd_16 wpl_16 wwt_16 v4_16 (fX2_get ce2 (i + (nI k16)))).2.2.1, (fX1_takeCode wan_16 wpn_16 wgr_16 wkd_16 wpl_16 wwt_16 v4_16 (fX2_get ce2 (i + (nI k16)))).2.2.2.1, (fX1_takeCode wan_16 wpn_16 wgr_16 wkd_16 wpl_16 wwt_16 v4_16 (fX2_get ce2 (i + (nI k16)))).2.2.2.2.1, (fX1_takeCode wan_16 wpn_16 wgr_16 wkd_16 wpl_16 wwt_16 v4_16 (fX2_get ce2 (i + (nI k16)))).2.2.2.2.2.1, (fX1_takeCode wan_16 wpn_16 wgr_16 wkd_16 wpl_16 wwt_16 v4_16 (fX2_get ce2 (i + (nI k16)))).2.2.2.2.2.2)))
def fX1_readText (gr : Int32) (kd pl wt ce2 : Nat → Int32) (Nn : Nat) (i nn : Int32) : Int32 × Int32 × Int32 × Int32 × (Nat → Int32) × (Nat → Int32) × (Nat → Int32) := (lqr (lq (fun k a => sX1_readText_16 ce2 i k a.1 a.2.1 a.2.2.1 a.2.2.2.1 a.2.2.2.2.1 a.2.2.2.2.2.1 a.2.2.2.2.2.2) (0, 0, 0, gr, kd, pl, wt) Nn) (fun a => aX1_readText_16 nn a.1 a.2.1 a.2.2.1 a.2.2.2.1 a.2.2.2.2.1 a.2.2.2.2.2.1 a.2.2.2.2.2.2))
theorem q_X1_readText : yX1_readText.cls = RX1 ∧ yX1_readText.cls ≠ "java/lang/invoke/MethodHandle" ∧ yX1_readText.cls ≠ "java/lang/invoke/VarHandle" ∧ (parseMethodDescriptor yX1_readText.desc).map (fun d => d.parameters.length) = some 3 := by decide +kernel
set_option maxHeartbeats 4000000 in
set_option maxRecDepth 100000 in
theorem c_X1_readText (l : Launch) (D : va_G) (cI cS : ClassId) (h ak ap aw : Nat) (an pn gr : Int32) (kd pl wt : Nat → Int32) (h2 ac2 : Nat) (la2 le2 : Int32) (ce2 : Nat → Int32) (Nn : Nat) (i nn : Int32) (hn : nn = nI Nn) (hNn : Nn ≤ 60) : MMi l yX1_readText wsX1_readText { frames := 3, cells := 0, slots := 0, locals := 65 } D cI cS (wSecSh cI h ak ap aw an pn gr kd pl wt h2 ac2 la2 le2 ce2) [.ref h, .ref h2, .int i, .int nn] ((fX1_readText gr kd pl wt ce2 Nn i nn).1) (wSecSh cI h ak ap aw ((fX1_readText gr kd pl wt ce2 Nn i nn).2.1) ((fX1_readText gr kd pl wt ce2 Nn i nn).2.2.1) ((fX1_readText gr kd pl wt ce2 Nn i nn).2.2.2.1) ((fX1_readText gr kd pl wt ce2 Nn i nn).2.2.2.2.1) ((fX1_readText gr kd pl wt ce2 Nn i nn).2.2.2.2.2.1) ((fX1_readText gr kd pl wt ce2 Nn i nn).2.2.2.2.2.2) h2 ac2 la2 le2 ce2) := by
  refine kEnterM (cc := cX1_readText) (maxL := 6) (ret := (some .int)) (by decide) rfl (Nat.le_of_ble_eq_true rfl) ?_
  intro p e s m below meth c ls Qf hQ hx hb hml hr hlocks hown hts hK hP hD hS hl
  have hown : s.vm.findClass RX1 = some m.cls := hown
  have hl : lv_has ls 6 [(0, .ref h), (1, .ref h2), (2, .int i), (3, .int nn)] := hl
  generalize kA (wSecSh cI h ak ap aw an pn gr kd pl wt h2 ac2 la2 le2 ce2) = A at hQ hD hS
  refine lv_aload_n hx hb dX1_readText_0 rfl (lv_at hl 0 rfl) ?_
  refine lv_iconst (v := 0) hx hb dX1_readText_1 (by decide) ?_
  refine va_put (D := D) (ci := 1) (v := .int 0) (ty := tyX1 3) (C := RX1) (T := TX1) (N := 6) hx hb hts (fun _ h => List.mem_cons_of_mem _ (List.mem_append_left _ (List.mem_append_right _ h))) tyX1 tyX1_ok nmX1 hown hK.1 hP hD hS 0 rfl rfl 3 (by decide) (hts (.fieldLink RX1 21 "LieNights$Secret" "answers" "I") (List.mem_of_getElem? (i := 1) rfl)) (fun _ h9 => h9) rfl (tyX1_ok 3 (by decide)) rfl rfl (Nat.le_of_ble_eq_true rfl) dX1_readText_2 (fun H locs hP hD hS => ?_)
  have hP : va_P D vwCl (wSecSh cI h ak ap aw 0 pn gr kd pl wt h2 ac2 la2 le2 ce2) H := hP
  have hD : va_D A (wSecSh cI h ak ap aw 0 pn gr kd pl wt h2 ac2 la2 le2 ce2) := hD
  refine lv_aload_n hx hb dX1_readText_5 rfl (lv_at hl 0 rfl) ?_
  refine lv_iconst (v := 0) hx hb dX1_readText_6 (by decide) ?_
  refine va_put (D := D) (ci := 1) (v := .int 0) (ty := tyX1 4) (C := RX1) (T := TX1) (N := 6) hx hb hts (fun _ h => List.mem_cons_of_mem _ (List.mem_append_left _ (List.mem_append_right _ h))) tyX1 tyX1_ok nmX1 hown hK.1 hP hD hS 0 rfl rfl 4 (by decide) (hts (.fieldLink RX1 25 "LieNights$Secret" "pillars" "I") (List.mem_of_getElem? (i := 2) rfl)) (fun _ h9 => h9) rfl (tyX1_ok 4 (by decide)) rfl rfl (Nat.le_of_ble_eq_true rfl) dX1_readText_7 (fun H locs hP hD hS => ?_)
  have hP : va_P D vwCl (wSecSh cI h ak ap aw 0 0 gr kd pl wt h2 ac2 la2 le2 ce2) H := hP
  have hD : va_D A (wSecSh cI h ak ap aw 0 0 gr kd pl wt h2 ac2 la2 le2 ce2) := hD
  refine lv_iconst (v := 0) hx hb dX1_readText_10 (by decide) ?_
  refine lv_istore (lv' := [(4, .int 0), (0, .ref h), (1, .ref h2), (2, .int i), (3, .int nn)]) hx hb dX1_readText_11 hl (by decide) rfl (fun ls hl => ?_)
  refine lv_iconst (v := 0) hx hb dX1_readText_13 (by decide) ?_
  refine lv_istore (lv' := [(5, .int 0), (4, .int 0), (0, .ref h), (1, .ref h2), (2, .int i), (3, .int nn)]) hx hb dX1_readText_14 hl (by decide) rfl (fun ls hl => ?_)
  have hR1 : (fX1_readText gr kd pl wt ce2 Nn i nn) = (lqr (lq (fun k a => sX1_readText_16 ce2 i k a.1 a.2.1 a.2.2.1 a.2.2.2.1 a.2.2.2.2.1 a.2.2.2.2.2.1 a.2.2.2.2.2.2) (0, 0, 0, gr, kd, pl, wt) Nn) (fun a => aX1_readText_16 nn a.1 a.2.1 a.2.2.1 a.2.2.2.1 a.2.2.2.2.1 a.2.2.2.2.2.1 a.2.2.2.2.2.2)) := rfl
  have loop16 : ∀ (n k16 : Nat), k16 ≤ Nn → Nn + 1 ≤ k16 + n → ∀ (v4_16 : Int32) (wan_16 : Int32) (wpn_16 : Int32) (wgr_16 : Int32) (wkd_16 : Nat → Int32) (wpl_16 : Nat → Int32) (wwt_16 : Nat → Int32), lq (fun k a => sX1_readText_16 ce2 i k a.1 a.2.1 a.2.2.1 a.2.2.2.1 a.2.2.2.2.1 a.2.2.2.2.2.1 a.2.2.2.2.2.2) (0, 0, 0, gr, kd, pl, wt) k16 = Sum.inl (v4_16, wan_16, wpn_16, wgr_16, wkd_16, wpl_16, wwt_16) →  ∀ (H : Heap) (locs : List Loc), va_P D vwCl (wSecSh cI h ak ap aw wan_16 wpn_16 wgr_16 wkd_16 wpl_16 wwt_16 h2 ac2 la2 le2 ce2) H → va_D A (wSecSh cI h ak ap aw wan_16 wpn_16 wgr_16 wkd_16 wpl_16 wwt_16 h2 ac2 la2 le2 ce2) → va_S A s.heap H locs → ∀ (ls : Array Slot), lv_has ls 6 [(0, .ref h), (1, .ref h2), (2, .int i), (3, .int nn), (4, .int v4_16), (5, .int (nI k16))] → W p l e { frames := 3, cells := 0, slots := 0, locals := 65 } s m ([.ref h, .ref h2, .int i, .int nn] : List Value).toArray below meth c H locs 0 0 Qf (F0 m 16 ls []) := by
    intro n
    induction n with
    | zero => intro k16 h1 h2; exact absurd h2 (by omega)
    | succ n ih =>
      intro k16 hk16 hn16 v4_16 wan_16 wpn_16 wgr_16 wkd_16 wpl_16 wwt_16 hacc16  H locs hP hD hS ls hl
      have ih16 := ih
      refine lv_iload hx hb dX1_readText_16 (lv_at hl 5 rfl) ?_
      refine lv_iload_n hx hb dX1_readText_18 rfl (lv_at hl 3 rfl) ?_
      refine lv_icmp_ge (tgt := 53) hx hb dX1_readText_19 (by decide) (fun c19 => ?_) (fun c19 => ?_)
      · skip
        have hkN : k16 = Nn := (kEnd hk16 rfl hn (by omega) c19)
        rw [hkN] at hacc16
        have hR2 : (fX1_readText gr kd pl wt ce2 Nn i nn) = aX1_readText_16 nn v4_16 wan_16 wpn_16 wgr_16 wkd_16 wpl_16 wwt_16 := hR1.trans (lq_end (x := (v4_16, wan_16, wpn_16, wgr_16, wkd_16, wpl_16, wwt_16)) (g := (fun a => aX1_readText_16 nn a.1 a.2.1 a.2.2.1 a.2.2.2.1 a.2.2.2.2.1 a.2.2.2.2.2.1 a.2.2.2.2.2.2)) hacc16)
        refine lv_iload hx hb dX1_readText_53 (lv_at hl 4 rfl) ?_
        refine lv_iconst (v := 5) hx hb dX1_readText_55 (by decide) ?_
        refine lv_icmp_ne (tgt := 71) hx hb dX1_readText_56 (by decide) (fun c56 => ?_) (fun c56 => ?_)
        · skip
          refine lv_iload_n hx hb dX1_readText_71 rfl (lv_at hl 3 rfl) ?_
          have hR3 : (fX1_readText gr kd pl wt ce2 Nn i nn) = (nn, wan_16, wpn_16, wgr_16, wkd_16, wpl_16, wwt_16) := hR2.trans (by unfold aX1_readText_16; rw [if_neg c56])
          rw [hQ]
          exact W.iret (v := nn) hx hb hr (fun t ht hW => ⟨⟨_, (), rfl, (by show _ = _; rw [hR3]), (by show va_P D vwCl _ t.heap; rw [hR3, ht]; exact hP)⟩, hS.F ht⟩) hS.2.2 dX1_readText_72
        refine lv_aload_n hx hb dX1_readText_59 rfl (lv_at hl 0 rfl) ?_
        refine va_get (D := D) (ci := 1) (v := .int wpn_16) (C := RX1) (T := TX1) (N := 6) hx hb hts (fun _ h => List.mem_cons_of_mem _ (List.mem_append_left _ (List.mem_append_right _ h))) hown hK.1 hP 0 rfl rfl 4 (by decide) (hts (.fieldLink RX1 25 "LieNights$Secret" "pillars" "I") (List.mem_of_getElem? (i := 2) rfl)) (fun _ h9 => h9) rfl dX1_readText_60 ?_
        refine lv_iconst (v := 1) hx hb dX1_readText_63 (by decide) ?_
        refine lv_icmp_lt (tgt := 71) hx hb dX1_readText_64 (by decide) (fun c64 => ?_) (fun c64 => ?_)
        · skip
          refine lv_iload_n hx hb dX1_readText_71 rfl (lv_at hl 3 rfl) ?_
          have hR4 : (fX1_readText gr kd pl wt ce2 Nn i nn) = (nn, wan_16, wpn_16, wgr_16, wkd_16, wpl_16, wwt_16) := hR2.trans (by unfold aX1_readText_16; rw [if_pos c56, if_pos c64])
          rw [hQ]
          exact W.iret (v := nn) hx hb hr (fun t ht hW => ⟨⟨_, (), rfl, (by show _ = _; rw [hR4]), (by show va_P D vwCl _ t.heap; rw [hR4, ht]; exact hP)⟩, hS.F ht⟩) hS.2.2 dX1_readText_72
        refine lv_iconst (v := (-1)) hx hb dX1_readText_67 (by decide) ?_
        refine lv_goto (tgt := 72) hx hb dX1_readText_68 (by decide) ?_
        have hR5 : (fX1_readText gr kd pl wt ce2 Nn i nn) = ((-1), wan_16, wpn_16, wgr_16, wkd_16, wpl_16, wwt_16) := hR2.trans (by unfold aX1_readText_16; rw [if_pos c56, if_neg c64])
        rw [hQ]
        exact W.iret (v := (-1)) hx hb hr (fun t ht hW => ⟨⟨_, (), rfl, (by show _ = _; rw [hR5]), (by show va_P D vwCl _ t.heap; rw [hR5, ht]; exact hP)⟩, hS.F ht⟩) hS.2.2 dX1_readText_72
      have hlt16 : k16 < Nn := (kLt hk16 rfl hn c19)
      refine lv_aload_n hx hb dX1_readText_22 rfl (lv_at hl 0 rfl) ?_
      refine lv_iload hx hb dX1_readText_23 (lv_at hl 4 rfl) ?_
      refine lv_aload_n hx hb dX1_readText_25 rfl (lv_at hl 1 rfl) ?_
      refine lv_iload_n hx hb dX1_readText_26 rfl (lv_at hl 2 rfl) ?_
      refine lv_iload hx hb dX1_readText_27 (lv_at hl 5 rfl) ?_
      refine lv_iadd hx hb dX1_readText_29 ?_
      refine kPi (va_runV (As := [.int (i + (nI k16))]) (rest := [.int v4_16, .ref h]) ⟨hx, hb, hml, hown, hts⟩ (c_X2_get l D cI cS h2 ac2 la2 le2 ce2 (i + (nI k16))) (cwV 1 hts gX1_readText_X2_get rfl rfl rfl q_X2_get ⟨Nat.le_of_ble_eq_true rfl, Nat.le_of_ble_eq_true rfl⟩) (kPV hK hP [4, 5] rfl (va_recv hK.1 hP (ci := 2) (q0 := 4) rfl rfl) [.int (i + (nI k16))]) rfl rfl hl.1 rfl (lv_room (Nat.le_of_ble_eq_true rfl)) dX1_readText_30 ⟨Nat.zero_le _, Nat.zero_le _⟩) ?_
      refine kMi (wl' := (wSecSh cI h ak ap aw ((fX1_takeCode wan_16 wpn_16 wgr_16 wkd_16 wpl_16 wwt_16 v4_16 (fX2_get ce2 (i + (nI k16)))).2.1) ((fX1_takeCode wan_16 wpn_16 wgr_16 wkd_16 wpl_16 wwt_16 v4_16 (fX2_get ce2 (i + (nI k16)))).2.2.1) ((fX1_takeCode wan_16 wpn_16 wgr_16 wkd_16 wpl_16 wwt_16 v4_16 (fX2_get ce2 (i + (nI k16)))).2.2.2.1) ((fX1_takeCode wan_16 wpn_16 wgr_16 wkd_16 wpl_16 wwt_16 v4_16 (fX2_get ce2 (i + (nI k16)))).2.2.2.2.1) ((fX1_takeCode wan_16 wpn_16 wgr_16 wkd_16 wpl_16 wwt_16 v4_16 (fX2_get ce2 (i + (nI k16)))).2.2.2.2.2.1) ((fX1_takeCode wan_16 wpn_16 wgr_16 wkd_16 wpl_16 wwt_16 v4_16 (fX2_get ce2 (i + (nI k16)))).2.2.2.2.2.2) h2 ac2 la2 le2 ce2)) (wc := (wSec cI h ak ap aw wan_16 wpn_16 wgr_16 wkd_16 wpl_16 wwt_16)) (w1 := (wSec cI h ak ap aw ((fX1_takeCode wan_16 wpn_16 wgr_16 wkd_16 wpl_16 wwt_16 v4_16 (fX2_get ce2 (i + (nI k16)))).2.1) ((fX1_takeCode wan_16 wpn_16 wgr_16 wkd_16 wpl_16 wwt_16 v4_16 (fX2_get ce2 (i + (nI k16)))).2.2.1) ((fX1_takeCode wan_16 wpn_16 wgr_16 wkd_16 wpl_16 wwt_16 v4_16 (fX2_get ce2 (i + (nI k16)))).2.2.2.1) ((fX1_takeCode wan_16 wpn_16 wgr_16 wkd_16 wpl_16 wwt_16 v4_16 (fX2_get ce2 (i + (nI k16)))).2.2.2.2.1) ((fX1_takeCode wan_16 wpn_16 wgr_16 wkd_16 wpl_16 wwt_16 v4_16 (fX2_get ce2 (i + (nI k16)))).2.2.2.2.2.1) ((fX1_takeCode wan_16 wpn_16 wgr_16 wkd_16 wpl_16 wwt_16 v4_16 (fX2_get ce2 (i + (nI k16)))).2.2.2.2.2.2))) hP hD hS [0, 1, 2, 3] rfl rfl rfl (va_runV (As := [.int v4_16, .int (fX2_get ce2 (i + (nI k16)))]) (rest := []) ⟨hx, hb, hml, hown, hts⟩ (c_X1_takeCode l D cI cS h ak ap aw wan_16 wpn_16 wgr_16 wkd_16 wpl_16 wwt_16 v4_16 (fX2_get ce2 (i + (nI k16)))) (cwV 2 hts gX1_readText_X1_takeCode rfl rfl rfl q_X1_takeCode ⟨Nat.le_of_ble_eq_true rfl, Nat.le_of_ble_eq_true rfl⟩) (kMV hK hP hD [0, 1, 2, 3] rfl rfl (va_recv hK.1 hP (ci := 1) (q0 := 0) rfl rfl) [.int v4_16, .int (fX2_get ce2 (i + (nI k16)))]) rfl rfl hl.1 rfl (lv_room (Nat.le_of_ble_eq_true rfl)) dX1_readText_33 ⟨Nat.zero_le _, Nat.zero_le _⟩) (fun H locs hP hD hS => ?_)
      refine lv_istore (lv' := [(4, .int ((fX1_takeCode wan_16 wpn_16 wgr_16 wkd_16 wpl_16 wwt_16 v4_16 (fX2_get ce2 (i + (nI k16)))).1)), (0, .ref h), (1, .ref h2), (2, .int i), (3, .int nn), (5, .int (nI k16))]) hx hb dX1_readText_36 hl (by decide) rfl (fun ls hl => ?_)
      refine lv_iload hx hb dX1_readText_38 (lv_at hl 0 rfl) ?_
      refine lv_iconst (v := (-1)) hx hb dX1_readText_40 (by decide) ?_
      refine lv_icmp_ne (tgt := 47) hx hb dX1_readText_41 (by decide) (fun c41 => ?_) (fun c41 => ?_)
      · skip
        refine lv_iinc (v := (nI (k16 + 1))) (lv' := [(5, .int (nI (k16 + 1))), (4, .int ((fX1_takeCode wan_16 wpn_16 wgr_16 wkd_16 wpl_16 wwt_16 v4_16 (fX2_get ce2 (i + (nI k16)))).1)), (0, .ref h), (1, .ref h2), (2, .int i), (3, .int nn)]) hx hb dX1_readText_47 hl (k := 5) rfl (nI_1 (k16)) (by decide) rfl (fun ls hl => ?_)
        refine lv_goto (tgt := 16) hx hb dX1_readText_50 (by decide) ?_
        have hR6 : sX1_readText_16 ce2 i k16 v4_16 wan_16 wpn_16 wgr_16 wkd_16 wpl_16 wwt_16 = (.inl ((fX1_takeCode wan_16 wpn_16 wgr_16 wkd_16 wpl_16 wwt_16 v4_16 (fX2_get ce2 (i + (nI k16)))).1, (fX1_takeCode wan_16 wpn_16 wgr_16 wkd_16 wpl_16 wwt_16 v4_16 (fX2_get ce2 (i + (nI k16)))).2.1, (fX1_takeCode wan_16 wpn_16 wgr_16 wkd_16 wpl_16 wwt_16 v4_16 (fX2_get ce2 (i + (nI k16)))).2.2.1, (fX1_takeCode wan_16 wpn_16 wgr_16 wkd_16 wpl_16 wwt_16 v4_16 (fX2_get ce2 (i + (nI k16)))).2.2.2.1, (fX1_takeCode wan_16 wpn_16 wgr_16 wkd_16 wpl_16 wwt_16 v4_16 (fX2_get ce2 (i + (nI k16)))).2.2.2.2.1, (fX1_takeCode wan_16 wpn_16 wgr_16 wkd_16 wpl_16 wwt_16 v4_16 (fX2_get ce2 (i + (nI k16)))).2.2.2.2.2.1, (fX1_takeCode wan_16 wpn_16 wgr_16 wkd_16 wpl_16 wwt_16 v4_16 (fX2_get ce2 (i + (nI k16)))).2.2.2.2.2.2)) := (by unfold sX1_readText_16; rw [if_neg c41])
        exact ih16 (k16 + 1) hlt16 (by omega) _ _ _ _ _ _ _ (lq_next hacc16 hR6)  _ _ hP hD hS ls (lv_sub hl [2, 3, 4, 5, 1, 0] rfl)
      refine lv_iload hx hb dX1_readText_44 (lv_at hl 5 rfl) ?_
      have hR7 : sX1_readText_16 ce2 i k16 v4_16 wan_16 wpn_16 wgr_16 wkd_16 wpl_16 wwt_16 = (.inr ((nI k16), (fX1_takeCode wan_16 wpn_16 wgr_16 wkd_16 wpl_16 wwt_16 v4_16 (fX2_get ce2 (i + (nI k16)))).2.1, (fX1_takeCode wan_16 wpn_16 wgr_16 wkd_16 wpl_16 wwt_16 v4_16 (fX2_get ce2 (i + (nI k16)))).2.2.1, (fX1_takeCode wan_16 wpn_16 wgr_16 wkd_16 wpl_16 wwt_16 v4_16 (fX2_get ce2 (i + (nI k16)))).2.2.2.1, (fX1_takeCode wan_16 wpn_16 wgr_16 wkd_16 wpl_16 wwt_16 v4_16 (fX2_get ce2 (i + (nI k16)))).2.2.2.2.1, (fX1_takeCode wan_16 wpn_16 wgr_16 wkd_16 wpl_16 wwt_16 v4_16 (fX2_get ce2 (i + (nI k16)))).2.2.2.2.2.1, (fX1_takeCode wan_16 wpn_16 wgr_16 wkd_16 wpl_16 wwt_16 v4_16 (fX2_get ce2 (i + (nI k16)))).2.2.2.2.2.2)) := (by unfold sX1_readText_16; rw [if_pos c41])
      have hR8 : (fX1_readText gr kd pl wt ce2 Nn i nn) = ((nI k16), (fX1_takeCode wan_16 wpn_16 wgr_16 wkd_16 wpl_16 wwt_16 v4_16 (fX2_get ce2 (i + (nI k16)))).2.1, (fX1_takeCode wan_16 wpn_16 wgr_16 wkd_16 wpl_16 wwt_16 v4_16 (fX2_get ce2 (i + (nI k16)))).2.2.1, (fX1_takeCode wan_16 wpn_16 wgr_16 wkd_16 wpl_16 wwt_16 v4_16 (fX2_get ce2 (i + (nI k16)))).2.2.2.1, (fX1_takeCode wan_16 wpn_16 wgr_16 wkd_16 wpl_16 wwt_16 v4_16 (fX2_get ce2 (i + (nI k16)))).2.2.2.2.1, (fX1_takeCode wan_16 wpn_16 wgr_16 wkd_16 wpl_16 wwt_16 v4_16 (fX2_get ce2 (i + (nI k16)))).2.2.2.2.2.1, (fX1_takeCode wan_16 wpn_16 wgr_16 wkd_16 wpl_16 wwt_16 v4_16 (fX2_get ce2 (i + (nI k16)))).2.2.2.2.2.2) := hR1.trans (lq_exit hacc16 hR7 hlt16)
      rw [hQ]
      exact W.iret (v := (nI k16)) hx hb hr (fun t ht hW => ⟨⟨_, (), rfl, (by show _ = _; rw [hR8]), (by show va_P D vwCl _ t.heap; rw [hR8, ht]; exact hP)⟩, hS.F ht⟩) hS.2.2 dX1_readText_46
  exact loop16 (Nn + 1) 0 (Nat.zero_le _) (by omega) _ _ _ _ _ _ _ rfl  _ _ hP hD hS ls (lv_sub hl [2, 3, 4, 5, 1, 0] rfl)
end
section
def fX0_worstOf (wo : Nat → Int32) (se : Int32) : Int32 := (fX3_at 64 wo se)
theorem q_X0_worstOf : yX0_worstOf.cls = RX0 ∧ yX0_worstOf.cls ≠ "java/lang/invoke/MethodHandle" ∧ yX0_worstOf.cls ≠ "java/lang/invoke/VarHandle" ∧ (parseMethodDescriptor yX0_worstOf.desc).map (fun d => d.parameters.length) = some 1 := by decide +kernel
set_option maxHeartbeats 4000000 in
set_option maxRecDepth 100000 in
theorem c_X0_worstOf (l : Launch) (D : va_G) (cI cS : ClassId) (h p1 p2 p3 p4 : Nat) (al wo fi ni : Nat → Int32) (pa se : Int32)  : PMi l yX0_worstOf wsX0_worstOf { frames := 1, cells := 0, slots := 0, locals := 21 } D cI cS (wPl cI h p1 p2 p3 p4 al wo fi ni pa) [.ref h, .int se] (fX0_worstOf wo se) := by
  refine kEnter (cc := cX0_worstOf) (maxL := 2) (ret := (some .int)) (by decide) rfl (Nat.le_of_ble_eq_true rfl) ?_
  intro p e s m below meth c ls Qf hQ hx hb hml hr hlocks hown hts hK hP hl
  have hown : s.vm.findClass RX0 = some m.cls := hown
  have hl : lv_has ls 2 [(0, .ref h), (1, .int se)] := hl
  refine lv_aload_n hx hb dX0_worstOf_0 rfl (lv_at hl 0 rfl) ?_
  refine va_get (D := D) (ci := 0) (v := .ref p2) (C := RX0) (T := TX0) (N := 5) hx hb hts (fun _ h => List.mem_cons_of_mem _ (List.mem_append_right _ h)) hown hK.1 hP 0 rfl rfl 1 (by decide) (hts (.fieldLink RX0 17 "LieNights$Plan" "worst" "[I") (List.mem_of_getElem? (i := 1) rfl)) (fun _ h9 => h9) rfl dX0_worstOf_1 ?_
  refine lv_iload_n hx hb dX0_worstOf_4 rfl (lv_at hl 1 rfl) ?_
  refine kPi (va_runSN (As := [.ref p2, .int se]) (rest := []) ⟨hx, hb, hml, hown, hts⟩ (c_X3_at l D cI cS p2 64 wo se (by decide)) ⟨va_cnB 2 hts gX0_worstOf_X3_at_n26 rfl rfl rfl (hK.2.at 10 (q := (RX0, 26, yX3_at, "LieNights")) rfl) (hts _ (List.mem_of_getElem? (i := 3) rfl)) q_X3_at.2 ⟨Nat.le_of_ble_eq_true rfl, Nat.le_of_ble_eq_true rfl⟩, hts _ (List.mem_of_getElem? (i := 2) rfl), trivial⟩ (kPS hK hP [2] rfl [.ref p2, .int se]) rfl rfl hl.1 rfl (lv_room (Nat.le_of_ble_eq_true rfl)) dX0_worstOf_5 ⟨Nat.zero_le _, Nat.zero_le _⟩) ?_
  have hR1 : (fX0_worstOf wo se) = (fX3_at 64 wo se) := rfl
  rw [hQ]
  exact W.iret (v := (fX3_at 64 wo se)) hx hb hr (fun t ht hW => ⟨_, rfl, hR1.symm, ht⟩) (fun q h => by cases h) dX0_worstOf_8

def fX0_askOf (fi : Nat → Int32) (se : Int32) : Int32 := (if se = 0 then (-9) else (fX3_at 64 fi se))
theorem q_X0_askOf : yX0_askOf.cls = RX0 ∧ yX0_askOf.cls ≠ "java/lang/invoke/MethodHandle" ∧ yX0_askOf.cls ≠ "java/lang/invoke/VarHandle" ∧ (parseMethodDescriptor yX0_askOf.desc).map (fun d => d.parameters.length) = some 1 := by decide +kernel
set_option maxHeartbeats 4000000 in
set_option maxRecDepth 100000 in
theorem c_X0_askOf (l : Launch) (D : va_G) (cI cS : ClassId) (h p1 p2 p3 p4 : Nat) (al wo fi ni : Nat → Int32) (pa se : Int32)  : PMi l yX0_askOf wsX0_askOf { frames := 1, cells := 0, slots := 0, locals := 21 } D cI cS (wPl cI h p1 p2 p3 p4 al wo fi ni pa) [.ref h, .int se] (fX0_askOf fi se) := by
  refine kEnter (cc := cX0_askOf) (maxL := 2) (ret := (some .int)) (by decide) rfl (Nat.le_of_ble_eq_true rfl) ?_
  intro p e s m below meth c ls Qf hQ hx hb hml hr hlocks hown hts hK hP hl
  have hown : s.vm.findClass RX0 = some m.cls := hown
  have hl : lv_has ls 2 [(0, .ref h), (1, .int se)] := hl
  refine lv_iload_n hx hb dX0_askOf_0 rfl (lv_at hl 1 rfl) ?_
  refine lv_if_ne (tgt := 9) hx hb dX0_askOf_1 (by decide) (fun c1 => ?_) (fun c1 => ?_)
  · skip
    refine lv_aload_n hx hb dX0_askOf_9 rfl (lv_at hl 0 rfl) ?_
    refine va_get (D := D) (ci := 0) (v := .ref p3) (C := RX0) (T := TX0) (N := 5) hx hb hts (fun _ h => List.mem_cons_of_mem _ (List.mem_append_right _ h)) hown hK.1 hP 0 rfl rfl 2 (by decide) (hts (.fieldLink RX0 20 "LieNights$Plan" "first" "[I") (List.mem_of_getElem? (i := 1) rfl)) (fun _ h9 => h9) rfl dX0_askOf_10 ?_
    refine lv_iload_n hx hb dX0_askOf_13 rfl (lv_at hl 1 rfl) ?_
    refine kPi (va_runSN (As := [.ref p3, .int se]) (rest := []) ⟨hx, hb, hml, hown, hts⟩ (c_X3_at l D cI cS p3 64 fi se (by decide)) ⟨va_cnB 2 hts gX0_askOf_X3_at_n26 rfl rfl rfl (hK.2.at 10 (q := (RX0, 26, yX3_at, "LieNights")) rfl) (hts _ (List.mem_of_getElem? (i := 3) rfl)) q_X3_at.2 ⟨Nat.le_of_ble_eq_true rfl, Nat.le_of_ble_eq_true rfl⟩, hts _ (List.mem_of_getElem? (i := 2) rfl), trivial⟩ (kPS hK hP [3] rfl [.ref p3, .int se]) rfl rfl hl.1 rfl (lv_room (Nat.le_of_ble_eq_true rfl)) dX0_askOf_14 ⟨Nat.zero_le _, Nat.zero_le _⟩) ?_
    have hR1 : (fX0_askOf fi se) = (fX3_at 64 fi se) := (by unfold fX0_askOf; rw [if_neg c1])
    rw [hQ]
    exact W.iret (v := (fX3_at 64 fi se)) hx hb hr (fun t ht hW => ⟨_, rfl, hR1.symm, ht⟩) (fun q h => by cases h) dX0_askOf_17
  refine lv_bipush (v := (-9)) hx hb dX0_askOf_4 (by decide) ?_
  refine lv_goto (tgt := 17) hx hb dX0_askOf_6 (by decide) ?_
  have hR2 : (fX0_askOf fi se) = (-9) := (by unfold fX0_askOf; rw [if_pos c1])
  rw [hQ]
  exact W.iret (v := (-9)) hx hb hr (fun t ht hW => ⟨_, rfl, hR2.symm, ht⟩) (fun q h => by cases h) dX0_askOf_17

def fX0_nightsOf (ni : Nat → Int32) (se : Int32) : Int32 := (fX3_at 64 ni se)
theorem q_X0_nightsOf : yX0_nightsOf.cls = RX0 ∧ yX0_nightsOf.cls ≠ "java/lang/invoke/MethodHandle" ∧ yX0_nightsOf.cls ≠ "java/lang/invoke/VarHandle" ∧ (parseMethodDescriptor yX0_nightsOf.desc).map (fun d => d.parameters.length) = some 1 := by decide +kernel
set_option maxHeartbeats 4000000 in
set_option maxRecDepth 100000 in
theorem c_X0_nightsOf (l : Launch) (D : va_G) (cI cS : ClassId) (h p1 p2 p3 p4 : Nat) (al wo fi ni : Nat → Int32) (pa se : Int32)  : PMi l yX0_nightsOf wsX0_nightsOf { frames := 1, cells := 0, slots := 0, locals := 21 } D cI cS (wPl cI h p1 p2 p3 p4 al wo fi ni pa) [.ref h, .int se] (fX0_nightsOf ni se) := by
  refine kEnter (cc := cX0_nightsOf) (maxL := 2) (ret := (some .int)) (by decide) rfl (Nat.le_of_ble_eq_true rfl) ?_
  intro p e s m below meth c ls Qf hQ hx hb hml hr hlocks hown hts hK hP hl
  have hown : s.vm.findClass RX0 = some m.cls := hown
  have hl : lv_has ls 2 [(0, .ref h), (1, .int se)] := hl
  refine lv_aload_n hx hb dX0_nightsOf_0 rfl (lv_at hl 0 rfl) ?_
  refine va_get (D := D) (ci := 0) (v := .ref p4) (C := RX0) (T := TX0) (N := 5) hx hb hts (fun _ h => List.mem_cons_of_mem _ (List.mem_append_right _ h)) hown hK.1 hP 0 rfl rfl 3 (by decide) (hts (.fieldLink RX0 23 "LieNights$Plan" "nights" "[I") (List.mem_of_getElem? (i := 1) rfl)) (fun _ h9 => h9) rfl dX0_nightsOf_1 ?_
  refine lv_iload_n hx hb dX0_nightsOf_4 rfl (lv_at hl 1 rfl) ?_
  refine kPi (va_runSN (As := [.ref p4, .int se]) (rest := []) ⟨hx, hb, hml, hown, hts⟩ (c_X3_at l D cI cS p4 64 ni se (by decide)) ⟨va_cnB 2 hts gX0_nightsOf_X3_at_n26 rfl rfl rfl (hK.2.at 10 (q := (RX0, 26, yX3_at, "LieNights")) rfl) (hts _ (List.mem_of_getElem? (i := 3) rfl)) q_X3_at.2 ⟨Nat.le_of_ble_eq_true rfl, Nat.le_of_ble_eq_true rfl⟩, hts _ (List.mem_of_getElem? (i := 2) rfl), trivial⟩ (kPS hK hP [4] rfl [.ref p4, .int se]) rfl rfl hl.1 rfl (lv_room (Nat.le_of_ble_eq_true rfl)) dX0_nightsOf_5 ⟨Nat.zero_le _, Nat.zero_le _⟩) ?_
  have hR1 : (fX0_nightsOf ni se) = (fX3_at 64 ni se) := rfl
  rw [hQ]
  exact W.iret (v := (fX3_at 64 ni se)) hx hb hr (fun t ht hW => ⟨_, rfl, hR1.symm, ht⟩) (fun q h => by cases h) dX0_nightsOf_8

def fJ6_bitCount_0f7a4 (x : Int32) : Int32 := ((((((((x - (((x.toUInt32 >>> (Int32.toUInt32 1 &&& Int32.toUInt32 31)).toInt32) &&& (1431655765))) &&& (858993459)) + ((((x - (((x.toUInt32 >>> (Int32.toUInt32 1 &&& Int32.toUInt32 31)).toInt32) &&& (1431655765))).toUInt32 >>> (Int32.toUInt32 2 &&& Int32.toUInt32 31)).toInt32) &&& (858993459))) + (((((x - (((x.toUInt32 >>> (Int32.toUInt32 1 &&& Int32.toUInt32 31)).toInt32) &&& (1431655765))) &&& (858993459)) + ((((x - (((x.toUInt32 >>> (Int32.toUInt32 1 &&& Int32.toUInt32 31)).toInt32) &&& (1431655765))).toUInt32 >>> (Int32.toUInt32 2 &&& Int32.toUInt32 31)).toInt32) &&& (858993459))).toUInt32 >>> (Int32.toUInt32 4 &&& Int32.toUInt32 31)).toInt32)) &&& (252645135)) + (((((((x - (((x.toUInt32 >>> (Int32.toUInt32 1 &&& Int32.toUInt32 31)).toInt32) &&& (1431655765))) &&& (858993459)) + ((((x - (((x.toUInt32 >>> (Int32.toUInt32 1 &&& Int32.toUInt32 31)).toInt32) &&& (1431655765))).toUInt32 >>> (Int32.toUInt32 2 &&& Int32.toUInt32 31)).toInt32) &&& (858993459))) + (((((x - (((x.toUInt32 >>> (Int32.toUInt32 1 &&& Int32.toUInt32 31)).toInt32) &&& (1431655765))) &&& (858993459)) + ((((x - (((x.toUInt32 >>> (Int32.toUInt32 1 &&& Int32.toUInt32 31)).toInt32) &&& (1431655765))).toUInt32 >>> (Int32.toUInt32 2 &&& Int32.toUInt32 31)).toInt32) &&& (858993459))).toUInt32 >>> (Int32.toUInt32 4 &&& Int32.toUInt32 31)).toInt32)) &&& (252645135)).toUInt32 >>> (Int32.toUInt32 8 &&& Int32.toUInt32 31)).toInt32)) + ((((((((x - (((x.toUInt32 >>> (Int32.toUInt32 1 &&& Int32.toUInt32 31)).toInt32) &&& (1431655765))) &&& (858993459)) + ((((x - (((x.toUInt32 >>> (Int32.toUInt32 1 &&& Int32.toUInt32 31)).toInt32) &&& (1431655765))).toUInt32 >>> (Int32.toUInt32 2 &&& Int32.toUInt32 31)).toInt32) &&& (858993459))) + (((((x - (((x.toUInt32 >>> (Int32.toUInt32 1 &&& Int32.toUInt32 31)).toInt32) &&& (1431655765))) &&& (858993459)) + ((((x - (((x.toUInt32 >>> (Int32.toUInt32 1 &&& Int32.toUInt32 31)).toInt32) &&& (1431655765))).toUInt32 >>> (Int32.toUInt32 2 &&& Int32.toUInt32 31)).toInt32) &&& (858993459))).toUInt32 >>> (Int32.toUInt32 4 &&& Int32.toUInt32 31)).toInt32)) &&& (252645135)) + (((((((x - (((x.toUInt32 >>> (Int32.toUInt32 1 &&& Int32.toUInt32 31)).toInt32) &&& (1431655765))) &&& (858993459)) + ((((x - (((x.toUInt32 >>> (Int32.toUInt32 1 &&& Int32.toUInt32 31)).toInt32) &&& (1431655765))).toUInt32 >>> (Int32.toUInt32 2 &&& Int32.toUInt32 31)).toInt32) &&& (858993459))) + (((((x - (((x.toUInt32 >>> (Int32.toUInt32 1 &&& Int32.toUInt32 31)).toInt32) &&& (1431655765))) &&& (858993459)) + ((((x - (((x.toUInt32 >>> (Int32.toUInt32 1 &&& Int32.toUInt32 31)).toInt32) &&& (1431655765))).toUInt32 >>> (Int32.toUInt32 2 &&& Int32.toUInt32 31)).toInt32) &&& (858993459))).toUInt32 >>> (Int32.toUInt32 4 &&& Int32.toUInt32 31)).toInt32)) &&& (252645135)).toUInt32 >>> (Int32.toUInt32 8 &&& Int32.toUInt32 31)).toInt32)).toUInt32 >>> (Int32.toUInt32 16 &&& Int32.toUInt32 31)).toInt32)) &&& 63)
theorem q_J6_bitCount_0f7a4 : yJ6_bitCount_0f7a4.cls = RJ6 ∧ yJ6_bitCount_0f7a4.cls ≠ "java/lang/invoke/MethodHandle" ∧ yJ6_bitCount_0f7a4.cls ≠ "java/lang/invoke/VarHandle" ∧ (parseMethodDescriptor yJ6_bitCount_0f7a4.desc).map (fun d => d.parameters.length) = some 1 := by decide +kernel
set_option maxHeartbeats 4000000 in
set_option maxRecDepth 100000 in
theorem c_J6_bitCount_0f7a4 (l : Launch) (D : va_G) (cI cS : ClassId) (x : Int32)  : PMi l yJ6_bitCount_0f7a4 wsJ6_bitCount_0f7a4 { frames := 0, cells := 0, slots := 0, locals := 0 } D cI cS [] [.int x] (fJ6_bitCount_0f7a4 x) := by
  refine kEnter (cc := cJ6_bitCount_0f7a4) (maxL := 1) (ret := (some .int)) (by decide) rfl (Nat.le_of_ble_eq_true rfl) ?_
  intro p e s m below meth c ls Qf hQ hx hb hml hr hlocks hown hts hK hP hl
  have hown : s.vm.findClass RJ6 = some m.cls := hown
  have hl : lv_has ls 1 [(0, .int x)] := hl
  refine lv_iload_n hx hb dJ6_bitCount_0f7a4_0 rfl (lv_at hl 0 rfl) ?_
  refine lv_iload_n hx hb dJ6_bitCount_0f7a4_1 rfl (lv_at hl 0 rfl) ?_
  refine lv_iconst (v := 1) hx hb dJ6_bitCount_0f7a4_2 (by decide) ?_
  refine lv_iushr (v := (x.toUInt32 >>> (Int32.toUInt32 1 &&& Int32.toUInt32 31)).toInt32) hx hb dJ6_bitCount_0f7a4_3 rfl ?_
  refine lv_ldcw hx hb hown (hts (.constant RJ6 265 (1431655765)) (List.mem_of_getElem? (i := 1) rfl)) dJ6_bitCount_0f7a4_4 ?_
  refine lv_iand hx hb dJ6_bitCount_0f7a4_7 ?_
  refine lv_isub hx hb dJ6_bitCount_0f7a4_8 ?_
  refine lv_istore_n (lv' := [(0, .int (x - (((x.toUInt32 >>> (Int32.toUInt32 1 &&& Int32.toUInt32 31)).toInt32) &&& (1431655765))))]) hx hb dJ6_bitCount_0f7a4_9 rfl hl (by decide) rfl (fun ls hl => ?_)
  refine lv_iload_n hx hb dJ6_bitCount_0f7a4_10 rfl (lv_at hl 0 rfl) ?_
  refine lv_ldcw hx hb hown (hts (.constant RJ6 266 (858993459)) (List.mem_of_getElem? (i := 2) rfl)) dJ6_bitCount_0f7a4_11 ?_
  refine lv_iand hx hb dJ6_bitCount_0f7a4_14 ?_
  refine lv_iload_n hx hb dJ6_bitCount_0f7a4_15 rfl (lv_at hl 0 rfl) ?_
  refine lv_iconst (v := 2) hx hb dJ6_bitCount_0f7a4_16 (by decide) ?_
  refine lv_iushr (v := ((x - (((x.toUInt32 >>> (Int32.toUInt32 1 &&& Int32.toUInt32 31)).toInt32) &&& (1431655765))).toUInt32 >>> (Int32.toUInt32 2 &&& Int32.toUInt32 31)).toInt32) hx hb dJ6_bitCount_0f7a4_17 rfl ?_
  refine lv_ldcw hx hb hown (hts (.constant RJ6 266 (858993459)) (List.mem_of_getElem? (i := 2) rfl)) dJ6_bitCount_0f7a4_18 ?_
  refine lv_iand hx hb dJ6_bitCount_0f7a4_21 ?_
  refine lv_iadd hx hb dJ6_bitCount_0f7a4_22 ?_
  refine lv_istore_n (lv' := [(0, .int (((x - (((x.toUInt32 >>> (Int32.toUInt32 1 &&& Int32.toUInt32 31)).toInt32) &&& (1431655765))) &&& (858993459)) + ((((x - (((x.toUInt32 >>> (Int32.toUInt32 1 &&& Int32.toUInt32 31)).toInt32) &&& (1431655765))).toUInt32 >>> (Int32.toUInt32 2 &&& Int32.toUInt32 31)).toInt32) &&& (858993459))))]) hx hb dJ6_bitCount_0f7a4_23 rfl hl (by decide) rfl (fun ls hl => ?_)
  refine lv_iload_n hx hb dJ6_bitCount_0f7a4_24 rfl (lv_at hl 0 rfl) ?_
  refine lv_iload_n hx hb dJ6_bitCount_0f7a4_25 rfl (lv_at hl 0 rfl) ?_
  refine lv_iconst (v := 4) hx hb dJ6_bitCount_0f7a4_26 (by decide) ?_
  refine lv_iushr (v := ((((x - (((x.toUInt32 >>> (Int32.toUInt32 1 &&& Int32.toUInt32 31)).toInt32) &&& (1431655765))) &&& (858993459)) + ((((x - (((x.toUInt32 >>> (Int32.toUInt32 1 &&& Int32.toUInt32 31)).toInt32) &&& (1431655765))).toUInt32 >>> (Int32.toUInt32 2 &&& Int32.toUInt32 31)).toInt32) &&& (858993459))).toUInt32 >>> (Int32.toUInt32 4 &&& Int32.toUInt32 31)).toInt32) hx hb dJ6_bitCount_0f7a4_27 rfl ?_
  refine lv_iadd hx hb dJ6_bitCount_0f7a4_28 ?_
  refine lv_ldcw hx hb hown (hts (.constant RJ6 267 (252645135)) (List.mem_of_getElem? (i := 3) rfl)) dJ6_bitCount_0f7a4_29 ?_
  refine lv_iand hx hb dJ6_bitCount_0f7a4_32 ?_
  refine lv_istore_n (lv' := [(0, .int (((((x - (((x.toUInt32 >>> (Int32.toUInt32 1 &&& Int32.toUInt32 31)).toInt32) &&& (1431655765))) &&& (858993459)) + ((((x - (((x.toUInt32 >>> (Int32.toUInt32 1 &&& Int32.toUInt32 31)).toInt32) &&& (1431655765))).toUInt32 >>> (Int32.toUInt32 2 &&& Int32.toUInt32 31)).toInt32) &&& (858993459))) + (((((x - (((x.toUInt32 >>> (Int32.toUInt32 1 &&& Int32.toUInt32 31)).toInt32) &&& (1431655765))) &&& (858993459)) + ((((x - (((x.toUInt32 >>> (Int32.toUInt32 1 &&& Int32.toUInt32 31)).toInt32) &&& (1431655765))).toUInt32 >>> (Int32.toUInt32 2 &&& Int32.toUInt32 31)).toInt32) &&& (858993459))).toUInt32 >>> (Int32.toUInt32 4 &&& Int32.toUInt32 31)).toInt32)) &&& (252645135)))]) hx hb dJ6_bitCount_0f7a4_33 rfl hl (by decide) rfl (fun ls hl => ?_)
  refine lv_iload_n hx hb dJ6_bitCount_0f7a4_34 rfl (lv_at hl 0 rfl) ?_
  refine lv_iload_n hx hb dJ6_bitCount_0f7a4_35 rfl (lv_at hl 0 rfl) ?_
  refine lv_bipush (v := 8) hx hb dJ6_bitCount_0f7a4_36 (by decide) ?_
  refine lv_iushr (v := ((((((x - (((x.toUInt32 >>> (Int32.toUInt32 1 &&& Int32.toUInt32 31)).toInt32) &&& (1431655765))) &&& (858993459)) + ((((x - (((x.toUInt32 >>> (Int32.toUInt32 1 &&& Int32.toUInt32 31)).toInt32) &&& (1431655765))).toUInt32 >>> (Int32.toUInt32 2 &&& Int32.toUInt32 31)).toInt32) &&& (858993459))) + (((((x - (((x.toUInt32 >>> (Int32.toUInt32 1 &&& Int32.toUInt32 31)).toInt32) &&& (1431655765))) &&& (858993459)) + ((((x - (((x.toUInt32 >>> (Int32.toUInt32 1 &&& Int32.toUInt32 31)).toInt32) &&& (1431655765))).toUInt32 >>> (Int32.toUInt32 2 &&& Int32.toUInt32 31)).toInt32) &&& (858993459))).toUInt32 >>> (Int32.toUInt32 4 &&& Int32.toUInt32 31)).toInt32)) &&& (252645135)).toUInt32 >>> (Int32.toUInt32 8 &&& Int32.toUInt32 31)).toInt32) hx hb dJ6_bitCount_0f7a4_38 rfl ?_
  refine lv_iadd hx hb dJ6_bitCount_0f7a4_39 ?_
  refine lv_istore_n (lv' := [(0, .int ((((((x - (((x.toUInt32 >>> (Int32.toUInt32 1 &&& Int32.toUInt32 31)).toInt32) &&& (1431655765))) &&& (858993459)) + ((((x - (((x.toUInt32 >>> (Int32.toUInt32 1 &&& Int32.toUInt32 31)).toInt32) &&& (1431655765))).toUInt32 >>> (Int32.toUInt32 2 &&& Int32.toUInt32 31)).toInt32) &&& (858993459))) + (((((x - (((x.toUInt32 >>> (Int32.toUInt32 1 &&& Int32.toUInt32 31)).toInt32) &&& (1431655765))) &&& (858993459)) + ((((x - (((x.toUInt32 >>> (Int32.toUInt32 1 &&& Int32.toUInt32 31)).toInt32) &&& (1431655765))).toUInt32 >>> (Int32.toUInt32 2 &&& Int32.toUInt32 31)).toInt32) &&& (858993459))).toUInt32 >>> (Int32.toUInt32 4 &&& Int32.toUInt32 31)).toInt32)) &&& (252645135)) + (((((((x - (((x.toUInt32 >>> (Int32.toUInt32 1 &&& Int32.toUInt32 31)).toInt32) &&& (1431655765))) &&& (858993459)) + ((((x - (((x.toUInt32 >>> (Int32.toUInt32 1 &&& Int32.toUInt32 31)).toInt32) &&& (1431655765))).toUInt32 >>> (Int32.toUInt32 2 &&& Int32.toUInt32 31)).toInt32) &&& (858993459))) + (((((x - (((x.toUInt32 >>> (Int32.toUInt32 1 &&& Int32.toUInt32 31)).toInt32) &&& (1431655765))) &&& (858993459)) + ((((x - (((x.toUInt32 >>> (Int32.toUInt32 1 &&& Int32.toUInt32 31)).toInt32) &&& (1431655765))).toUInt32 >>> (Int32.toUInt32 2 &&& Int32.toUInt32 31)).toInt32) &&& (858993459))).toUInt32 >>> (Int32.toUInt32 4 &&& Int32.toUInt32 31)).toInt32)) &&& (252645135)).toUInt32 >>> (Int32.toUInt32 8 &&& Int32.toUInt32 31)).toInt32)))]) hx hb dJ6_bitCount_0f7a4_40 rfl hl (by decide) rfl (fun ls hl => ?_)
  refine lv_iload_n hx hb dJ6_bitCount_0f7a4_41 rfl (lv_at hl 0 rfl) ?_
  refine lv_iload_n hx hb dJ6_bitCount_0f7a4_42 rfl (lv_at hl 0 rfl) ?_
  refine lv_bipush (v := 16) hx hb dJ6_bitCount_0f7a4_43 (by decide) ?_
  refine lv_iushr (v := (((((((x - (((x.toUInt32 >>> (Int32.toUInt32 1 &&& Int32.toUInt32 31)).toInt32) &&& (1431655765))) &&& (858993459)) + ((((x - (((x.toUInt32 >>> (Int32.toUInt32 1 &&& Int32.toUInt32 31)).toInt32) &&& (1431655765))).toUInt32 >>> (Int32.toUInt32 2 &&& Int32.toUInt32 31)).toInt32) &&& (858993459))) + (((((x - (((x.toUInt32 >>> (Int32.toUInt32 1 &&& Int32.toUInt32 31)).toInt32) &&& (1431655765))) &&& (858993459)) + ((((x - (((x.toUInt32 >>> (Int32.toUInt32 1 &&& Int32.toUInt32 31)).toInt32) &&& (1431655765))).toUInt32 >>> (Int32.toUInt32 2 &&& Int32.toUInt32 31)).toInt32) &&& (858993459))).toUInt32 >>> (Int32.toUInt32 4 &&& Int32.toUInt32 31)).toInt32)) &&& (252645135)) + (((((((x - (((x.toUInt32 >>> (Int32.toUInt32 1 &&& Int32.toUInt32 31)).toInt32) &&& (1431655765))) &&& (858993459)) + ((((x - (((x.toUInt32 >>> (Int32.toUInt32 1 &&& Int32.toUInt32 31)).toInt32) &&& (1431655765))).toUInt32 >>> (Int32.toUInt32 2 &&& Int32.toUInt32 31)).toInt32) &&& (858993459))) + (((((x - (((x.toUInt32 >>> (Int32.toUInt32 1 &&& Int32.toUInt32 31)).toInt32) &&& (1431655765))) &&& (858993459)) + ((((x - (((x.toUInt32 >>> (Int32.toUInt32 1 &&& Int32.toUInt32 31)).toInt32) &&& (1431655765))).toUInt32 >>> (Int32.toUInt32 2 &&& Int32.toUInt32 31)).toInt32) &&& (858993459))).toUInt32 >>> (Int32.toUInt32 4 &&& Int32.toUInt32 31)).toInt32)) &&& (252645135)).toUInt32 >>> (Int32.toUInt32 8 &&& Int32.toUInt32 31)).toInt32)).toUInt32 >>> (Int32.toUInt32 16 &&& Int32.toUInt32 31)).toInt32) hx hb dJ6_bitCount_0f7a4_45 rfl ?_
  refine lv_iadd hx hb dJ6_bitCount_0f7a4_46 ?_
  refine lv_istore_n (lv' := [(0, .int (((((((x - (((x.toUInt32 >>> (Int32.toUInt32 1 &&& Int32.toUInt32 31)).toInt32) &&& (1431655765))) &&& (858993459)) + ((((x - (((x.toUInt32 >>> (Int32.toUInt32 1 &&& Int32.toUInt32 31)).toInt32) &&& (1431655765))).toUInt32 >>> (Int32.toUInt32 2 &&& Int32.toUInt32 31)).toInt32) &&& (858993459))) + (((((x - (((x.toUInt32 >>> (Int32.toUInt32 1 &&& Int32.toUInt32 31)).toInt32) &&& (1431655765))) &&& (858993459)) + ((((x - (((x.toUInt32 >>> (Int32.toUInt32 1 &&& Int32.toUInt32 31)).toInt32) &&& (1431655765))).toUInt32 >>> (Int32.toUInt32 2 &&& Int32.toUInt32 31)).toInt32) &&& (858993459))).toUInt32 >>> (Int32.toUInt32 4 &&& Int32.toUInt32 31)).toInt32)) &&& (252645135)) + (((((((x - (((x.toUInt32 >>> (Int32.toUInt32 1 &&& Int32.toUInt32 31)).toInt32) &&& (1431655765))) &&& (858993459)) + ((((x - (((x.toUInt32 >>> (Int32.toUInt32 1 &&& Int32.toUInt32 31)).toInt32) &&& (1431655765))).toUInt32 >>> (Int32.toUInt32 2 &&& Int32.toUInt32 31)).toInt32) &&& (858993459))) + (((((x - (((x.toUInt32 >>> (Int32.toUInt32 1 &&& Int32.toUInt32 31)).toInt32) &&& (1431655765))) &&& (858993459)) + ((((x - (((x.toUInt32 >>> (Int32.toUInt32 1 &&& Int32.toUInt32 31)).toInt32) &&& (1431655765))).toUInt32 >>> (Int32.toUInt32 2 &&& Int32.toUInt32 31)).toInt32) &&& (858993459))).toUInt32 >>> (Int32.toUInt32 4 &&& Int32.toUInt32 31)).toInt32)) &&& (252645135)).toUInt32 >>> (Int32.toUInt32 8 &&& Int32.toUInt32 31)).toInt32)) + ((((((((x - (((x.toUInt32 >>> (Int32.toUInt32 1 &&& Int32.toUInt32 31)).toInt32) &&& (1431655765))) &&& (858993459)) + ((((x - (((x.toUInt32 >>> (Int32.toUInt32 1 &&& Int32.toUInt32 31)).toInt32) &&& (1431655765))).toUInt32 >>> (Int32.toUInt32 2 &&& Int32.toUInt32 31)).toInt32) &&& (858993459))) + (((((x - (((x.toUInt32 >>> (Int32.toUInt32 1 &&& Int32.toUInt32 31)).toInt32) &&& (1431655765))) &&& (858993459)) + ((((x - (((x.toUInt32 >>> (Int32.toUInt32 1 &&& Int32.toUInt32 31)).toInt32) &&& (1431655765))).toUInt32 >>> (Int32.toUInt32 2 &&& Int32.toUInt32 31)).toInt32) &&& (858993459))).toUInt32 >>> (Int32.toUInt32 4 &&& Int32.toUInt32 31)).toInt32)) &&& (252645135)) + (((((((x - (((x.toUInt32 >>> (Int32.toUInt32 1 &&& Int32.toUInt32 31)).toInt32) &&& (1431655765))) &&& (858993459)) + ((((x - (((x.toUInt32 >>> (Int32.toUInt32 1 &&& Int32.toUInt32 31)).toInt32) &&& (1431655765))).toUInt32 >>> (Int32.toUInt32 2 &&& Int32.toUInt32 31)).toInt32) &&& (858993459))) + (((((x - (((x.toUInt32 >>> (Int32.toUInt32 1 &&& Int32.toUInt32 31)).toInt32) &&& (1431655765))) &&& (858993459)) + ((((x - (((x.toUInt32 >>> (Int32.toUInt32 1 &&& Int32.toUInt32 31)).toInt32) &&& (1431655765))).toUInt32 >>> (Int32.toUInt32 2 &&& Int32.toUInt32 31)).toInt32) &&& (858993459))).toUInt32 >>> (Int32.toUInt32 4 &&& Int32.toUInt32 31)).toInt32)) &&& (252645135)).toUInt32 >>> (Int32.toUInt32 8 &&& Int32.toUInt32 31)).toInt32)).toUInt32 >>> (Int32.toUInt32 16 &&& Int32.toUInt32 31)).toInt32)))]) hx hb dJ6_bitCount_0f7a4_47 rfl hl (by decide) rfl (fun ls hl => ?_)
  refine lv_iload_n hx hb dJ6_bitCount_0f7a4_48 rfl (lv_at hl 0 rfl) ?_
  refine lv_bipush (v := 63) hx hb dJ6_bitCount_0f7a4_49 (by decide) ?_
  refine lv_iand hx hb dJ6_bitCount_0f7a4_51 ?_
  have hR1 : (fJ6_bitCount_0f7a4 x) = ((((((((x - (((x.toUInt32 >>> (Int32.toUInt32 1 &&& Int32.toUInt32 31)).toInt32) &&& (1431655765))) &&& (858993459)) + ((((x - (((x.toUInt32 >>> (Int32.toUInt32 1 &&& Int32.toUInt32 31)).toInt32) &&& (1431655765))).toUInt32 >>> (Int32.toUInt32 2 &&& Int32.toUInt32 31)).toInt32) &&& (858993459))) + (((((x - (((x.toUInt32 >>> (Int32.toUInt32 1 &&& Int32.toUInt32 31)).toInt32) &&& (1431655765))) &&& (858993459)) + ((((x - (((x.toUInt32 >>> (Int32.toUInt32 1 &&& Int32.toUInt32 31)).toInt32) &&& (1431655765))).toUInt32 >>> (Int32.toUInt32 2 &&& Int32.toUInt32 31)).toInt32) &&& (858993459))).toUInt32 >>> (Int32.toUInt32 4 &&& Int32.toUInt32 31)).toInt32)) &&& (252645135)) + (((((((x - (((x.toUInt32 >>> (Int32.toUInt32 1 &&& Int32.toUInt32 31)).toInt32) &&& (1431655765))) &&& (858993459)) + ((((x - (((x.toUInt32 >>> (Int32.toUInt32 1 &&& Int32.toUInt32 31)).toInt32) &&& (1431655765))).toUInt32 >>> (Int32.toUInt32 2 &&& Int32.toUInt32 31)).toInt32) &&& (858993459))) + (((((x - (((x.toUInt32 >>> (Int32.toUInt32 1 &&& Int32.toUInt32 31)).toInt32) &&& (1431655765))) &&& (858993459)) + ((((x - (((x.toUInt32 >>> (Int32.toUInt32 1 &&& Int32.toUInt32 31)).toInt32) &&& (1431655765))).toUInt32 >>> (Int32.toUInt32 2 &&& Int32.toUInt32 31)).toInt32) &&& (858993459))).toUInt32 >>> (Int32.toUInt32 4 &&& Int32.toUInt32 31)).toInt32)) &&& (252645135)).toUInt32 >>> (Int32.toUInt32 8 &&& Int32.toUInt32 31)).toInt32)) + ((((((((x - (((x.toUInt32 >>> (Int32.toUInt32 1 &&& Int32.toUInt32 31)).toInt32) &&& (1431655765))) &&& (858993459)) + ((((x - (((x.toUInt32 >>> (Int32.toUInt32 1 &&& Int32.toUInt32 31)).toInt32) &&& (1431655765))).toUInt32 >>> (Int32.toUInt32 2 &&& Int32.toUInt32 31)).toInt32) &&& (858993459))) + (((((x - (((x.toUInt32 >>> (Int32.toUInt32 1 &&& Int32.toUInt32 31)).toInt32) &&& (1431655765))) &&& (858993459)) + ((((x - (((x.toUInt32 >>> (Int32.toUInt32 1 &&& Int32.toUInt32 31)).toInt32) &&& (1431655765))).toUInt32 >>> (Int32.toUInt32 2 &&& Int32.toUInt32 31)).toInt32) &&& (858993459))).toUInt32 >>> (Int32.toUInt32 4 &&& Int32.toUInt32 31)).toInt32)) &&& (252645135)) + (((((((x - (((x.toUInt32 >>> (Int32.toUInt32 1 &&& Int32.toUInt32 31)).toInt32) &&& (1431655765))) &&& (858993459)) + ((((x - (((x.toUInt32 >>> (Int32.toUInt32 1 &&& Int32.toUInt32 31)).toInt32) &&& (1431655765))).toUInt32 >>> (Int32.toUInt32 2 &&& Int32.toUInt32 31)).toInt32) &&& (858993459))) + (((((x - (((x.toUInt32 >>> (Int32.toUInt32 1 &&& Int32.toUInt32 31)).toInt32) &&& (1431655765))) &&& (858993459)) + ((((x - (((x.toUInt32 >>> (Int32.toUInt32 1 &&& Int32.toUInt32 31)).toInt32) &&& (1431655765))).toUInt32 >>> (Int32.toUInt32 2 &&& Int32.toUInt32 31)).toInt32) &&& (858993459))).toUInt32 >>> (Int32.toUInt32 4 &&& Int32.toUInt32 31)).toInt32)) &&& (252645135)).toUInt32 >>> (Int32.toUInt32 8 &&& Int32.toUInt32 31)).toInt32)).toUInt32 >>> (Int32.toUInt32 16 &&& Int32.toUInt32 31)).toInt32)) &&& 63) := rfl
  rw [hQ]
  exact W.iret (v := ((((((((x - (((x.toUInt32 >>> (Int32.toUInt32 1 &&& Int32.toUInt32 31)).toInt32) &&& (1431655765))) &&& (858993459)) + ((((x - (((x.toUInt32 >>> (Int32.toUInt32 1 &&& Int32.toUInt32 31)).toInt32) &&& (1431655765))).toUInt32 >>> (Int32.toUInt32 2 &&& Int32.toUInt32 31)).toInt32) &&& (858993459))) + (((((x - (((x.toUInt32 >>> (Int32.toUInt32 1 &&& Int32.toUInt32 31)).toInt32) &&& (1431655765))) &&& (858993459)) + ((((x - (((x.toUInt32 >>> (Int32.toUInt32 1 &&& Int32.toUInt32 31)).toInt32) &&& (1431655765))).toUInt32 >>> (Int32.toUInt32 2 &&& Int32.toUInt32 31)).toInt32) &&& (858993459))).toUInt32 >>> (Int32.toUInt32 4 &&& Int32.toUInt32 31)).toInt32)) &&& (252645135)) + (((((((x - (((x.toUInt32 >>> (Int32.toUInt32 1 &&& Int32.toUInt32 31)).toInt32) &&& (1431655765))) &&& (858993459)) + ((((x - (((x.toUInt32 >>> (Int32.toUInt32 1 &&& Int32.toUInt32 31)).toInt32) &&& (1431655765))).toUInt32 >>> (Int32.toUInt32 2 &&& Int32.toUInt32 31)).toInt32) &&& (858993459))) + (((((x - (((x.toUInt32 >>> (Int32.toUInt32 1 &&& Int32.toUInt32 31)).toInt32) &&& (1431655765))) &&& (858993459)) + ((((x - (((x.toUInt32 >>> (Int32.toUInt32 1 &&& Int32.toUInt32 31)).toInt32) &&& (1431655765))).toUInt32 >>> (Int32.toUInt32 2 &&& Int32.toUInt32 31)).toInt32) &&& (858993459))).toUInt32 >>> (Int32.toUInt32 4 &&& Int32.toUInt32 31)).toInt32)) &&& (252645135)).toUInt32 >>> (Int32.toUInt32 8 &&& Int32.toUInt32 31)).toInt32)) + ((((((((x - (((x.toUInt32 >>> (Int32.toUInt32 1 &&& Int32.toUInt32 31)).toInt32) &&& (1431655765))) &&& (858993459)) + ((((x - (((x.toUInt32 >>> (Int32.toUInt32 1 &&& Int32.toUInt32 31)).toInt32) &&& (1431655765))).toUInt32 >>> (Int32.toUInt32 2 &&& Int32.toUInt32 31)).toInt32) &&& (858993459))) + (((((x - (((x.toUInt32 >>> (Int32.toUInt32 1 &&& Int32.toUInt32 31)).toInt32) &&& (1431655765))) &&& (858993459)) + ((((x - (((x.toUInt32 >>> (Int32.toUInt32 1 &&& Int32.toUInt32 31)).toInt32) &&& (1431655765))).toUInt32 >>> (Int32.toUInt32 2 &&& Int32.toUInt32 31)).toInt32) &&& (858993459))).toUInt32 >>> (Int32.toUInt32 4 &&& Int32.toUInt32 31)).toInt32)) &&& (252645135)) + (((((((x - (((x.toUInt32 >>> (Int32.toUInt32 1 &&& Int32.toUInt32 31)).toInt32) &&& (1431655765))) &&& (858993459)) + ((((x - (((x.toUInt32 >>> (Int32.toUInt32 1 &&& Int32.toUInt32 31)).toInt32) &&& (1431655765))).toUInt32 >>> (Int32.toUInt32 2 &&& Int32.toUInt32 31)).toInt32) &&& (858993459))) + (((((x - (((x.toUInt32 >>> (Int32.toUInt32 1 &&& Int32.toUInt32 31)).toInt32) &&& (1431655765))) &&& (858993459)) + ((((x - (((x.toUInt32 >>> (Int32.toUInt32 1 &&& Int32.toUInt32 31)).toInt32) &&& (1431655765))).toUInt32 >>> (Int32.toUInt32 2 &&& Int32.toUInt32 31)).toInt32) &&& (858993459))).toUInt32 >>> (Int32.toUInt32 4 &&& Int32.toUInt32 31)).toInt32)) &&& (252645135)).toUInt32 >>> (Int32.toUInt32 8 &&& Int32.toUInt32 31)).toInt32)).toUInt32 >>> (Int32.toUInt32 16 &&& Int32.toUInt32 31)).toInt32)) &&& 63)) hx hb hr (fun t ht hW => ⟨_, rfl, hR1.symm, ht⟩) (fun q h => by cases h) dJ6_bitCount_0f7a4_52

def aX0_tryAsking_20 (wo fi ni : Nat → Int32) (se x v3_20 v4_20 v5_20 : Int32) : (Nat → Int32) × (Nat → Int32) × (Nat → Int32) := (if ((fX0_worstOf wo se) : Int32) ≤ (v3_20 + 1) then (wo, fi, (fX3_write 64 ni se (if v4_20 < (fX0_nightsOf ni se) then v4_20 else (fX0_nightsOf ni se)))) else ((fX3_write 64 wo se (v3_20 + 1)), (fX3_write 64 fi se x), (fX3_write 64 ni se (if v4_20 < (fX0_nightsOf ni se) then v4_20 else (fX0_nightsOf ni se)))))
def sX0_tryAsking_20 (al wo fi ni : Nat → Int32) (se x : Int32) (k20 : Nat) (v3_20 v4_20 v5_20 : Int32) : (Int32 × Int32 × Int32) ⊕ (Nat → Int32) × (Nat → Int32) × (Nat → Int32) := (if (fX3_has v5_20 (nI k20)) = 0 then (.inl (v3_20, v4_20, v5_20)) else (if (v5_20 &&& (fX3_at 36 al ((x * 6) + (nI k20)))) = se then (.inr (wo, fi, ni)) else (.inl ((if v3_20 < (fX0_worstOf wo (v5_20 &&& (fX3_at 36 al ((x * 6) + (nI k20))))) then (fX0_worstOf wo (v5_20 &&& (fX3_at 36 al ((x * 6) + (nI k20))))) else v3_20), (v4_20 + (fX0_nightsOf ni (v5_20 &&& (fX3_at 36 al ((x * 6) + (nI k20)))))), (v5_20 &&& ((v5_20 &&& (fX3_at 36 al ((x * 6) + (nI k20)))) ^^^ (-1)))))))
def fX0_tryAsking (al wo fi ni : Nat → Int32) (N : Nat) (se x : Int32) : (Nat → Int32) × (Nat → Int32) × (Nat → Int32) := (lqr (lq (fun k a => sX0_tryAsking_20 al wo fi ni se x k a.1 a.2.1 a.2.2) (0, (fJ6_bitCount_0f7a4 se), (se &&& ((1 <<< (x &&& 31)) ^^^ (-1)))) N) (fun a => aX0_tryAsking_20 wo fi ni se x a.1 a.2.1 a.2.2))
theorem q_X0_tryAsking : yX0_tryAsking.cls = RX0 ∧ yX0_tryAsking.cls ≠ "java/lang/invoke/MethodHandle" ∧ yX0_tryAsking.cls ≠ "java/lang/invoke/VarHandle" ∧ (parseMethodDescriptor yX0_tryAsking.desc).map (fun d => d.parameters.length) = some 2 := by decide +kernel
set_option maxHeartbeats 4000000 in
set_option maxRecDepth 100000 in
theorem c_X0_tryAsking (l : Launch) (D : va_G) (cI cS : ClassId) (h p1 p2 p3 p4 : Nat) (al wo fi ni : Nat → Int32) (pa : Int32) (N : Nat) (se x : Int32) (hpa : pa = nI N) (hN : N ≤ 6) : MMv l yX0_tryAsking wsX0_tryAsking { frames := 2, cells := 0, slots := 0, locals := 42 } D cI cS (wPl cI h p1 p2 p3 p4 al wo fi ni pa) [.ref h, .int se, .int x] (wPl cI h p1 p2 p3 p4 al ((fX0_tryAsking al wo fi ni N se x).1) ((fX0_tryAsking al wo fi ni N se x).2.1) ((fX0_tryAsking al wo fi ni N se x).2.2) pa) := by
  refine kEnterM (cc := cX0_tryAsking) (maxL := 8) (ret := none) (by decide) rfl (Nat.le_of_ble_eq_true rfl) ?_
  intro p e s m below meth c ls Qf hQ hx hb hml hr hlocks hown hts hK hP hD hS hl
  have hown : s.vm.findClass RX0 = some m.cls := hown
  have hl : lv_has ls 8 [(0, .ref h), (1, .int se), (2, .int x)] := hl
  generalize kA (wPl cI h p1 p2 p3 p4 al wo fi ni pa) = A at hQ hD hS
  refine lv_iconst (v := 0) hx hb dX0_tryAsking_0 (by decide) ?_
  refine lv_istore_n (lv' := [(3, .int 0), (0, .ref h), (1, .int se), (2, .int x)]) hx hb dX0_tryAsking_1 rfl hl (by decide) rfl (fun ls hl => ?_)
  refine lv_iload_n hx hb dX0_tryAsking_2 rfl (lv_at hl 2 rfl) ?_
  refine kPi (va_runS (As := [.int se]) (rest := []) ⟨hx, hb, hml, hown, hts⟩ (c_J6_bitCount_0f7a4 l D cI cS se) (va_cwS 1 hts gX0_tryAsking_J6_bitCount_0f7a4 rfl rfl rfl q_J6_bitCount_0f7a4.2 ⟨Nat.le_of_ble_eq_true rfl, Nat.le_of_ble_eq_true rfl⟩) (kPS hK hP [] rfl [.int se]) rfl rfl hl.1 rfl (lv_room (Nat.le_of_ble_eq_true rfl)) dX0_tryAsking_3 ⟨Nat.zero_le _, Nat.zero_le _⟩) ?_
  refine lv_istore (lv' := [(4, .int (fJ6_bitCount_0f7a4 se)), (3, .int 0), (0, .ref h), (1, .int se), (2, .int x)]) hx hb dX0_tryAsking_6 hl (by decide) rfl (fun ls hl => ?_)
  refine lv_iload_n hx hb dX0_tryAsking_8 rfl (lv_at hl 3 rfl) ?_
  refine lv_iconst (v := 1) hx hb dX0_tryAsking_9 (by decide) ?_
  refine lv_iload_n hx hb dX0_tryAsking_10 rfl (lv_at hl 4 rfl) ?_
  refine lv_ishl hx hb dX0_tryAsking_11 ?_
  refine lv_iconst (v := (-1)) hx hb dX0_tryAsking_12 (by decide) ?_
  refine lv_ixor hx hb dX0_tryAsking_13 ?_
  refine lv_iand hx hb dX0_tryAsking_14 ?_
  refine lv_istore (lv' := [(5, .int (se &&& ((1 <<< (x &&& 31)) ^^^ (-1)))), (4, .int (fJ6_bitCount_0f7a4 se)), (3, .int 0), (0, .ref h), (1, .int se), (2, .int x)]) hx hb dX0_tryAsking_15 hl (by decide) rfl (fun ls hl => ?_)
  refine lv_iconst (v := 0) hx hb dX0_tryAsking_17 (by decide) ?_
  refine lv_istore (lv' := [(6, .int 0), (5, .int (se &&& ((1 <<< (x &&& 31)) ^^^ (-1)))), (4, .int (fJ6_bitCount_0f7a4 se)), (3, .int 0), (0, .ref h), (1, .int se), (2, .int x)]) hx hb dX0_tryAsking_18 hl (by decide) rfl (fun ls hl => ?_)
  have hR1 : (fX0_tryAsking al wo fi ni N se x) = (lqr (lq (fun k a => sX0_tryAsking_20 al wo fi ni se x k a.1 a.2.1 a.2.2) (0, (fJ6_bitCount_0f7a4 se), (se &&& ((1 <<< (x &&& 31)) ^^^ (-1)))) N) (fun a => aX0_tryAsking_20 wo fi ni se x a.1 a.2.1 a.2.2)) := rfl
  have loop20 : ∀ (n k20 : Nat), k20 ≤ N → N + 1 ≤ k20 + n → ∀ (v3_20 : Int32) (v4_20 : Int32) (v5_20 : Int32), lq (fun k a => sX0_tryAsking_20 al wo fi ni se x k a.1 a.2.1 a.2.2) (0, (fJ6_bitCount_0f7a4 se), (se &&& ((1 <<< (x &&& 31)) ^^^ (-1)))) k20 = Sum.inl (v3_20, v4_20, v5_20) →  ∀ (H : Heap) (locs : List Loc), va_P D vwCl (wPl cI h p1 p2 p3 p4 al wo fi ni pa) H → va_D A (wPl cI h p1 p2 p3 p4 al wo fi ni pa) → va_S A s.heap H locs → ∀ (ls : Array Slot), lv_has ls 8 [(0, .ref h), (1, .int se), (2, .int x), (3, .int v3_20), (4, .int v4_20), (5, .int v5_20), (6, .int (nI k20))] → W p l e { frames := 2, cells := 0, slots := 0, locals := 42 } s m ([.ref h, .int se, .int x] : List Value).toArray below meth c H locs 0 0 Qf (F0 m 20 ls []) := by
    intro n
    induction n with
    | zero => intro k20 h1 h2; exact absurd h2 (by omega)
    | succ n ih =>
      intro k20 hk20 hn20 v3_20 v4_20 v5_20 hacc20  H locs hP hD hS ls hl
      have ih20 := ih
      refine lv_iload hx hb dX0_tryAsking_20 (lv_at hl 6 rfl) ?_
      refine lv_aload_n hx hb dX0_tryAsking_22 rfl (lv_at hl 0 rfl) ?_
      refine va_get (D := D) (ci := 0) (v := .int pa) (C := RX0) (T := TX0) (N := 5) hx hb hts (fun _ h => List.mem_cons_of_mem _ (List.mem_append_right _ h)) hown hK.1 hP 0 rfl rfl 4 (by decide) (hts (.fieldLink RX0 34 "LieNights$Plan" "answers" "I") (List.mem_of_getElem? (i := 1) rfl)) (fun _ h9 => h9) rfl dX0_tryAsking_23 ?_
      refine lv_icmp_ge (tgt := 105) hx hb dX0_tryAsking_26 (by decide) (fun c26 => ?_) (fun c26 => ?_)
      · skip
        have hkN : k20 = N := (kEnd hk20 rfl hpa (by omega) c26)
        rw [hkN] at hacc20
        have hR2 : (fX0_tryAsking al wo fi ni N se x) = aX0_tryAsking_20 wo fi ni se x v3_20 v4_20 v5_20 := hR1.trans (lq_end (x := (v3_20, v4_20, v5_20)) (g := (fun a => aX0_tryAsking_20 wo fi ni se x a.1 a.2.1 a.2.2)) hacc20)
        refine lv_iload_n hx hb dX0_tryAsking_105 rfl (lv_at hl 3 rfl) ?_
        refine lv_iconst (v := 1) hx hb dX0_tryAsking_106 (by decide) ?_
        refine lv_iadd hx hb dX0_tryAsking_107 ?_
        refine lv_aload_n hx hb dX0_tryAsking_108 rfl (lv_at hl 0 rfl) ?_
        refine lv_iload_n hx hb dX0_tryAsking_109 rfl (lv_at hl 1 rfl) ?_
        refine kPi (va_runV (As := [.int se]) (rest := [.int (v3_20 + 1)]) ⟨hx, hb, hml, hown, hts⟩ (c_X0_worstOf l D cI cS h p1 p2 p3 p4 al wo fi ni pa se) (cwV 1 hts gX0_tryAsking_X0_worstOf rfl rfl rfl q_X0_worstOf ⟨Nat.le_of_ble_eq_true rfl, Nat.le_of_ble_eq_true rfl⟩) (kPV hK hP [0, 1, 2, 3, 4] rfl (va_recv hK.1 hP (ci := 0) (q0 := 0) rfl rfl) [.int se]) rfl rfl hl.1 rfl (lv_room (Nat.le_of_ble_eq_true rfl)) dX0_tryAsking_110 ⟨Nat.zero_le _, Nat.zero_le _⟩) ?_
        refine lv_icmp_ge (tgt := 136) hx hb dX0_tryAsking_113 (by decide) (fun c113 => ?_) (fun c113 => ?_)
        · skip
          refine lv_aload_n hx hb dX0_tryAsking_136 rfl (lv_at hl 0 rfl) ?_
          refine va_get (D := D) (ci := 0) (v := .ref p4) (C := RX0) (T := TX0) (N := 5) hx hb hts (fun _ h => List.mem_cons_of_mem _ (List.mem_append_right _ h)) hown hK.1 hP 0 rfl rfl 3 (by decide) (hts (.fieldLink RX0 23 "LieNights$Plan" "nights" "[I") (List.mem_of_getElem? (i := 9) rfl)) (fun _ h9 => h9) rfl dX0_tryAsking_137 ?_
          refine lv_iload_n hx hb dX0_tryAsking_140 rfl (lv_at hl 1 rfl) ?_
          refine lv_aload_n hx hb dX0_tryAsking_141 rfl (lv_at hl 0 rfl) ?_
          refine lv_iload_n hx hb dX0_tryAsking_142 rfl (lv_at hl 1 rfl) ?_
          refine kPi (va_runV (As := [.int se]) (rest := [.int se, .ref p4]) ⟨hx, hb, hml, hown, hts⟩ (c_X0_nightsOf l D cI cS h p1 p2 p3 p4 al wo fi ni pa se) (cwV 1 hts gX0_tryAsking_X0_nightsOf rfl rfl rfl q_X0_nightsOf ⟨Nat.le_of_ble_eq_true rfl, Nat.le_of_ble_eq_true rfl⟩) (kPV hK hP [0, 1, 2, 3, 4] rfl (va_recv hK.1 hP (ci := 0) (q0 := 0) rfl rfl) [.int se]) rfl rfl hl.1 rfl (lv_room (Nat.le_of_ble_eq_true rfl)) dX0_tryAsking_143 ⟨Nat.zero_le _, Nat.zero_le _⟩) ?_
          refine lv_iload hx hb dX0_tryAsking_146 (lv_at hl 4 rfl) ?_
          refine va_mmin hx hb (hml.trans hl.1.symm) hown (hts (.methodLink RX0 72 Lib.Math.min.name) (List.mem_of_getElem? (i := 10) rfl)) (hts (.static Lib.Math.min.name) (List.mem_of_getElem? (i := 11) rfl)) (hts (.initialized "java/lang/Math") (List.mem_of_getElem? (i := 5) rfl)) (hts (.code Lib.Math.min.name Lib.Math.min.code 2 (some .int)) (List.mem_of_getElem? (i := 12) rfl)) (Nat.le_of_ble_eq_true rfl) (Nat.le_of_ble_eq_true rfl) (Nat.zero_le _) (Nat.zero_le _) dX0_tryAsking_148 ?_
          refine kMv (wl' := (wPl cI h p1 p2 p3 p4 al wo fi (fX3_write 64 ni se (if v4_20 < (fX0_nightsOf ni se) then v4_20 else (fX0_nightsOf ni se))) pa)) (wc := (wArr cI p4 64 ni)) (w1 := (wArr cI p4 64 (fX3_write 64 ni se (if v4_20 < (fX0_nightsOf ni se) then v4_20 else (fX0_nightsOf ni se))))) hP hD hS [4] rfl rfl rfl (va_runSN (As := [.ref p4, .int se, .int (if v4_20 < (fX0_nightsOf ni se) then v4_20 else (fX0_nightsOf ni se))]) (rest := []) ⟨hx, hb, hml, hown, hts⟩ (c_X3_write l D cI cS p4 64 ni se (if v4_20 < (fX0_nightsOf ni se) then v4_20 else (fX0_nightsOf ni se)) (by decide)) ⟨va_cnB 3 hts gX0_tryAsking_X3_write_n40 rfl rfl rfl (hK.2.at 8 (q := (RX0, 40, yX3_write, "LieNights")) rfl) (hts _ (List.mem_of_getElem? (i := 21) rfl)) q_X3_write.2 ⟨Nat.le_of_ble_eq_true rfl, Nat.le_of_ble_eq_true rfl⟩, hts _ (List.mem_of_getElem? (i := 34) rfl), trivial⟩ (kMS hK hP hD [4] rfl rfl [.ref p4, .int se, .int (if v4_20 < (fX0_nightsOf ni se) then v4_20 else (fX0_nightsOf ni se))]) rfl rfl hl.1 rfl (lv_room (Nat.le_of_ble_eq_true rfl)) dX0_tryAsking_151 ⟨Nat.zero_le _, Nat.zero_le _⟩) (fun H locs hP hD hS => ?_)
          have hR3 : (fX0_tryAsking al wo fi ni N se x) = (wo, fi, (fX3_write 64 ni se (if v4_20 < (fX0_nightsOf ni se) then v4_20 else (fX0_nightsOf ni se)))) := hR2.trans (by unfold aX0_tryAsking_20; rw [if_pos c113])
          rw [hQ]
          exact W.vret hx hb hr (fun t ht hW => ⟨⟨(), rfl, trivial, (by show va_P D vwCl _ t.heap; rw [hR3, ht]; exact hP)⟩, hS.F ht⟩) hS.2.2 dX0_tryAsking_154
        refine lv_aload_n hx hb dX0_tryAsking_116 rfl (lv_at hl 0 rfl) ?_
        refine va_get (D := D) (ci := 0) (v := .ref p2) (C := RX0) (T := TX0) (N := 5) hx hb hts (fun _ h => List.mem_cons_of_mem _ (List.mem_append_right _ h)) hown hK.1 hP 0 rfl rfl 1 (by decide) (hts (.fieldLink RX0 17 "LieNights$Plan" "worst" "[I") (List.mem_of_getElem? (i := 7) rfl)) (fun _ h9 => h9) rfl dX0_tryAsking_117 ?_
        refine lv_iload_n hx hb dX0_tryAsking_120 rfl (lv_at hl 1 rfl) ?_
        refine lv_iload_n hx hb dX0_tryAsking_121 rfl (lv_at hl 3 rfl) ?_
        refine lv_iconst (v := 1) hx hb dX0_tryAsking_122 (by decide) ?_
        refine lv_iadd hx hb dX0_tryAsking_123 ?_
        refine kMv (wl' := (wPl cI h p1 p2 p3 p4 al (fX3_write 64 wo se (v3_20 + 1)) fi ni pa)) (wc := (wArr cI p2 64 wo)) (w1 := (wArr cI p2 64 (fX3_write 64 wo se (v3_20 + 1)))) hP hD hS [2] rfl rfl rfl (va_runSN (As := [.ref p2, .int se, .int (v3_20 + 1)]) (rest := []) ⟨hx, hb, hml, hown, hts⟩ (c_X3_write l D cI cS p2 64 wo se (v3_20 + 1) (by decide)) ⟨va_cnB 3 hts gX0_tryAsking_X3_write_n40 rfl rfl rfl (hK.2.at 8 (q := (RX0, 40, yX3_write, "LieNights")) rfl) (hts _ (List.mem_of_getElem? (i := 21) rfl)) q_X3_write.2 ⟨Nat.le_of_ble_eq_true rfl, Nat.le_of_ble_eq_true rfl⟩, hts _ (List.mem_of_getElem? (i := 34) rfl), trivial⟩ (kMS hK hP hD [2] rfl rfl [.ref p2, .int se, .int (v3_20 + 1)]) rfl rfl hl.1 rfl (lv_room (Nat.le_of_ble_eq_true rfl)) dX0_tryAsking_124 ⟨Nat.zero_le _, Nat.zero_le _⟩) (fun H locs hP hD hS => ?_)
        refine lv_aload_n hx hb dX0_tryAsking_127 rfl (lv_at hl 0 rfl) ?_
        refine va_get (D := D) (ci := 0) (v := .ref p3) (C := RX0) (T := TX0) (N := 5) hx hb hts (fun _ h => List.mem_cons_of_mem _ (List.mem_append_right _ h)) hown hK.1 hP 0 rfl rfl 2 (by decide) (hts (.fieldLink RX0 20 "LieNights$Plan" "first" "[I") (List.mem_of_getElem? (i := 8) rfl)) (fun _ h9 => h9) rfl dX0_tryAsking_128 ?_
        refine lv_iload_n hx hb dX0_tryAsking_131 rfl (lv_at hl 1 rfl) ?_
        refine lv_iload_n hx hb dX0_tryAsking_132 rfl (lv_at hl 2 rfl) ?_
        refine kMv (wl' := (wPl cI h p1 p2 p3 p4 al (fX3_write 64 wo se (v3_20 + 1)) (fX3_write 64 fi se x) ni pa)) (wc := (wArr cI p3 64 fi)) (w1 := (wArr cI p3 64 (fX3_write 64 fi se x))) hP hD hS [3] rfl rfl rfl (va_runSN (As := [.ref p3, .int se, .int x]) (rest := []) ⟨hx, hb, hml, hown, hts⟩ (c_X3_write l D cI cS p3 64 fi se x (by decide)) ⟨va_cnB 3 hts gX0_tryAsking_X3_write_n40 rfl rfl rfl (hK.2.at 8 (q := (RX0, 40, yX3_write, "LieNights")) rfl) (hts _ (List.mem_of_getElem? (i := 21) rfl)) q_X3_write.2 ⟨Nat.le_of_ble_eq_true rfl, Nat.le_of_ble_eq_true rfl⟩, hts _ (List.mem_of_getElem? (i := 34) rfl), trivial⟩ (kMS hK hP hD [3] rfl rfl [.ref p3, .int se, .int x]) rfl rfl hl.1 rfl (lv_room (Nat.le_of_ble_eq_true rfl)) dX0_tryAsking_133 ⟨Nat.zero_le _, Nat.zero_le _⟩) (fun H locs hP hD hS => ?_)
        refine lv_aload_n hx hb dX0_tryAsking_136 rfl (lv_at hl 0 rfl) ?_
        refine va_get (D := D) (ci := 0) (v := .ref p4) (C := RX0) (T := TX0) (N := 5) hx hb hts (fun _ h => List.mem_cons_of_mem _ (List.mem_append_right _ h)) hown hK.1 hP 0 rfl rfl 3 (by decide) (hts (.fieldLink RX0 23 "LieNights$Plan" "nights" "[I") (List.mem_of_getElem? (i := 9) rfl)) (fun _ h9 => h9) rfl dX0_tryAsking_137 ?_
        refine lv_iload_n hx hb dX0_tryAsking_140 rfl (lv_at hl 1 rfl) ?_
        refine lv_aload_n hx hb dX0_tryAsking_141 rfl (lv_at hl 0 rfl) ?_
        refine lv_iload_n hx hb dX0_tryAsking_142 rfl (lv_at hl 1 rfl) ?_
        refine kPi (va_runV (As := [.int se]) (rest := [.int se, .ref p4]) ⟨hx, hb, hml, hown, hts⟩ (c_X0_nightsOf l D cI cS h p1 p2 p3 p4 al (fX3_write 64 wo se (v3_20 + 1)) (fX3_write 64 fi se x) ni pa se) (cwV 1 hts gX0_tryAsking_X0_nightsOf rfl rfl rfl q_X0_nightsOf ⟨Nat.le_of_ble_eq_true rfl, Nat.le_of_ble_eq_true rfl⟩) (kPV hK hP [0, 1, 2, 3, 4] rfl (va_recv hK.1 hP (ci := 0) (q0 := 0) rfl rfl) [.int se]) rfl rfl hl.1 rfl (lv_room (Nat.le_of_ble_eq_true rfl)) dX0_tryAsking_143 ⟨Nat.zero_le _, Nat.zero_le _⟩) ?_
        refine lv_iload hx hb dX0_tryAsking_146 (lv_at hl 4 rfl) ?_
        refine va_mmin hx hb (hml.trans hl.1.symm) hown (hts (.methodLink RX0 72 Lib.Math.min.name) (List.mem_of_getElem? (i := 10) rfl)) (hts (.static Lib.Math.min.name) (List.mem_of_getElem? (i := 11) rfl)) (hts (.initialized "java/lang/Math") (List.mem_of_getElem? (i := 5) rfl)) (hts (.code Lib.Math.min.name Lib.Math.min.code 2 (some .int)) (List.mem_of_getElem? (i := 12) rfl)) (Nat.le_of_ble_eq_true rfl) (Nat.le_of_ble_eq_true rfl) (Nat.zero_le _) (Nat.zero_le _) dX0_tryAsking_148 ?_
        refine kMv (wl' := (wPl cI h p1 p2 p3 p4 al (fX3_write 64 wo se (v3_20 + 1)) (fX3_write 64 fi se x) (fX3_write 64 ni se (if v4_20 < (fX0_nightsOf ni se) then v4_20 else (fX0_nightsOf ni se))) pa)) (wc := (wArr cI p4 64 ni)) (w1 := (wArr cI p4 64 (fX3_write 64 ni se (if v4_20 < (fX0_nightsOf ni se) then v4_20 else (fX0_nightsOf ni se))))) hP hD hS [4] rfl rfl rfl (va_runSN (As := [.ref p4, .int se, .int (if v4_20 < (fX0_nightsOf ni se) then v4_20 else (fX0_nightsOf ni se))]) (rest := []) ⟨hx, hb, hml, hown, hts⟩ (c_X3_write l D cI cS p4 64 ni se (if v4_20 < (fX0_nightsOf ni se) then v4_20 else (fX0_nightsOf ni se)) (by decide)) ⟨va_cnB 3 hts gX0_tryAsking_X3_write_n40 rfl rfl rfl (hK.2.at 8 (q := (RX0, 40, yX3_write, "LieNights")) rfl) (hts _ (List.mem_of_getElem? (i := 21) rfl)) q_X3_write.2 ⟨Nat.le_of_ble_eq_true rfl, Nat.le_of_ble_eq_true rfl⟩, hts _ (List.mem_of_getElem? (i := 34) rfl), trivial⟩ (kMS hK hP hD [4] rfl rfl [.ref p4, .int se, .int (if v4_20 < (fX0_nightsOf ni se) then v4_20 else (fX0_nightsOf ni se))]) rfl rfl hl.1 rfl (lv_room (Nat.le_of_ble_eq_true rfl)) dX0_tryAsking_151 ⟨Nat.zero_le _, Nat.zero_le _⟩) (fun H locs hP hD hS => ?_)
        have hR4 : (fX0_tryAsking al wo fi ni N se x) = ((fX3_write 64 wo se (v3_20 + 1)), (fX3_write 64 fi se x), (fX3_write 64 ni se (if v4_20 < (fX0_nightsOf ni se) then v4_20 else (fX0_nightsOf ni se)))) := hR2.trans (by unfold aX0_tryAsking_20; rw [if_neg c113])
        rw [hQ]
        exact W.vret hx hb hr (fun t ht hW => ⟨⟨(), rfl, trivial, (by show va_P D vwCl _ t.heap; rw [hR4, ht]; exact hP)⟩, hS.F ht⟩) hS.2.2 dX0_tryAsking_154
      have hlt20 : k20 < N := (kLt hk20 rfl hpa c26)
      refine lv_iload hx hb dX0_tryAsking_29 (lv_at hl 5 rfl) ?_
      refine lv_iload hx hb dX0_tryAsking_31 (lv_at hl 6 rfl) ?_
      refine kPi (va_runSN (As := [.int v5_20, .int (nI k20)]) (rest := []) ⟨hx, hb, hml, hown, hts⟩ (c_X3_has l D cI cS v5_20 (nI k20)) ⟨va_cnB 2 hts gX0_tryAsking_X3_has_n57 rfl rfl rfl (hK.2.at 9 (q := (RX0, 57, yX3_has, "LieNights")) rfl) (hts _ (List.mem_of_getElem? (i := 21) rfl)) q_X3_has.2 ⟨Nat.le_of_ble_eq_true rfl, Nat.le_of_ble_eq_true rfl⟩, hts _ (List.mem_of_getElem? (i := 20) rfl), trivial⟩ (kPS hK hP [] rfl [.int v5_20, .int (nI k20)]) rfl rfl hl.1 rfl (lv_room (Nat.le_of_ble_eq_true rfl)) dX0_tryAsking_33 ⟨Nat.zero_le _, Nat.zero_le _⟩) ?_
      refine lv_if_ne (tgt := 42) hx hb dX0_tryAsking_36 (by decide) (fun c36 => ?_) (fun c36 => ?_)
      · skip
        refine lv_iload hx hb dX0_tryAsking_42 (lv_at hl 5 rfl) ?_
        refine lv_aload_n hx hb dX0_tryAsking_44 rfl (lv_at hl 0 rfl) ?_
        refine va_get (D := D) (ci := 0) (v := .ref p1) (C := RX0) (T := TX0) (N := 5) hx hb hts (fun _ h => List.mem_cons_of_mem _ (List.mem_append_right _ h)) hown hK.1 hP 0 rfl rfl 0 (by decide) (hts (.fieldLink RX0 11 "LieNights$Plan" "alike" "[I") (List.mem_of_getElem? (i := 2) rfl)) (fun _ h9 => h9) rfl dX0_tryAsking_45 ?_
        refine lv_iload_n hx hb dX0_tryAsking_48 rfl (lv_at hl 2 rfl) ?_
        refine lv_bipush (v := 6) hx hb dX0_tryAsking_49 (by decide) ?_
        refine lv_imul hx hb dX0_tryAsking_51 ?_
        refine lv_iload hx hb dX0_tryAsking_52 (lv_at hl 6 rfl) ?_
        refine lv_iadd hx hb dX0_tryAsking_54 ?_
        refine kPi (va_runSN (As := [.ref p1, .int ((x * 6) + (nI k20))]) (rest := [.int v5_20]) ⟨hx, hb, hml, hown, hts⟩ (c_X3_at l D cI cS p1 36 al ((x * 6) + (nI k20)) (by decide)) ⟨va_cnB 2 hts gX0_tryAsking_X3_at_n26 rfl rfl rfl (hK.2.at 10 (q := (RX0, 26, yX3_at, "LieNights")) rfl) (hts _ (List.mem_of_getElem? (i := 21) rfl)) q_X3_at.2 ⟨Nat.le_of_ble_eq_true rfl, Nat.le_of_ble_eq_true rfl⟩, hts _ (List.mem_of_getElem? (i := 23) rfl), trivial⟩ (kPS hK hP [1] rfl [.ref p1, .int ((x * 6) + (nI k20))]) rfl rfl hl.1 rfl (lv_room (Nat.le_of_ble_eq_true rfl)) dX0_tryAsking_55 ⟨Nat.zero_le _, Nat.zero_le _⟩) ?_
        refine lv_iand hx hb dX0_tryAsking_58 ?_
        refine lv_istore (lv' := [(7, .int (v5_20 &&& (fX3_at 36 al ((x * 6) + (nI k20))))), (0, .ref h), (1, .int se), (2, .int x), (3, .int v3_20), (4, .int v4_20), (5, .int v5_20), (6, .int (nI k20))]) hx hb dX0_tryAsking_59 hl (by decide) rfl (fun ls hl => ?_)
        refine lv_iload hx hb dX0_tryAsking_61 (lv_at hl 0 rfl) ?_
        refine lv_iload_n hx hb dX0_tryAsking_63 rfl (lv_at hl 2 rfl) ?_
        refine lv_icmp_ne (tgt := 68) hx hb dX0_tryAsking_64 (by decide) (fun c64 => ?_) (fun c64 => ?_)
        · skip
          refine lv_iload hx hb dX0_tryAsking_68 (lv_at hl 6 rfl) ?_
          refine lv_iload hx hb dX0_tryAsking_70 (lv_at hl 0 rfl) ?_
          refine lv_iconst (v := (-1)) hx hb dX0_tryAsking_72 (by decide) ?_
          refine lv_ixor hx hb dX0_tryAsking_73 ?_
          refine lv_iand hx hb dX0_tryAsking_74 ?_
          refine lv_istore (lv' := [(5, .int (v5_20 &&& ((v5_20 &&& (fX3_at 36 al ((x * 6) + (nI k20)))) ^^^ (-1)))), (7, .int (v5_20 &&& (fX3_at 36 al ((x * 6) + (nI k20))))), (0, .ref h), (1, .int se), (2, .int x), (3, .int v3_20), (4, .int v4_20), (6, .int (nI k20))]) hx hb dX0_tryAsking_75 hl (by decide) rfl (fun ls hl => ?_)
          refine lv_iload_n hx hb dX0_tryAsking_77 rfl (lv_at hl 5 rfl) ?_
          refine lv_aload_n hx hb dX0_tryAsking_78 rfl (lv_at hl 2 rfl) ?_
          refine lv_iload hx hb dX0_tryAsking_79 (lv_at hl 1 rfl) ?_
          refine kPi (va_runV (As := [.int (v5_20 &&& (fX3_at 36 al ((x * 6) + (nI k20))))]) (rest := [.int v3_20]) ⟨hx, hb, hml, hown, hts⟩ (c_X0_worstOf l D cI cS h p1 p2 p3 p4 al wo fi ni pa (v5_20 &&& (fX3_at 36 al ((x * 6) + (nI k20))))) (cwV 1 hts gX0_tryAsking_X0_worstOf rfl rfl rfl q_X0_worstOf ⟨Nat.le_of_ble_eq_true rfl, Nat.le_of_ble_eq_true rfl⟩) (kPV hK hP [0, 1, 2, 3, 4] rfl (va_recv hK.1 hP (ci := 0) (q0 := 0) rfl rfl) [.int (v5_20 &&& (fX3_at 36 al ((x * 6) + (nI k20))))]) rfl rfl hl.1 rfl (lv_room (Nat.le_of_ble_eq_true rfl)) dX0_tryAsking_81 ⟨Nat.zero_le _, Nat.zero_le _⟩) ?_
          refine va_mmax hx hb (hml.trans hl.1.symm) hown (hts (.methodLink RX0 64 Lib.Math.max.name) (List.mem_of_getElem? (i := 3) rfl)) (hts (.static Lib.Math.max.name) (List.mem_of_getElem? (i := 4) rfl)) (hts (.initialized "java/lang/Math") (List.mem_of_getElem? (i := 5) rfl)) (hts (.code Lib.Math.max.name Lib.Math.max.code 2 (some .int)) (List.mem_of_getElem? (i := 6) rfl)) (Nat.le_of_ble_eq_true rfl) (Nat.le_of_ble_eq_true rfl) (Nat.zero_le _) (Nat.zero_le _) dX0_tryAsking_84 ?_
          refine lv_istore_n (lv' := [(3, .int (if v3_20 < (fX0_worstOf wo (v5_20 &&& (fX3_at 36 al ((x * 6) + (nI k20))))) then (fX0_worstOf wo (v5_20 &&& (fX3_at 36 al ((x * 6) + (nI k20))))) else v3_20)), (5, .int (v5_20 &&& ((v5_20 &&& (fX3_at 36 al ((x * 6) + (nI k20)))) ^^^ (-1)))), (7, .int (v5_20 &&& (fX3_at 36 al ((x * 6) + (nI k20))))), (0, .ref h), (1, .int se), (2, .int x), (4, .int v4_20), (6, .int (nI k20))]) hx hb dX0_tryAsking_87 rfl hl (by decide) rfl (fun ls hl => ?_)
          refine lv_iload hx hb dX0_tryAsking_88 (lv_at hl 6 rfl) ?_
          refine lv_aload_n hx hb dX0_tryAsking_90 rfl (lv_at hl 3 rfl) ?_
          refine lv_iload hx hb dX0_tryAsking_91 (lv_at hl 2 rfl) ?_
          refine kPi (va_runV (As := [.int (v5_20 &&& (fX3_at 36 al ((x * 6) + (nI k20))))]) (rest := [.int v4_20]) ⟨hx, hb, hml, hown, hts⟩ (c_X0_nightsOf l D cI cS h p1 p2 p3 p4 al wo fi ni pa (v5_20 &&& (fX3_at 36 al ((x * 6) + (nI k20))))) (cwV 1 hts gX0_tryAsking_X0_nightsOf rfl rfl rfl q_X0_nightsOf ⟨Nat.le_of_ble_eq_true rfl, Nat.le_of_ble_eq_true rfl⟩) (kPV hK hP [0, 1, 2, 3, 4] rfl (va_recv hK.1 hP (ci := 0) (q0 := 0) rfl rfl) [.int (v5_20 &&& (fX3_at 36 al ((x * 6) + (nI k20))))]) rfl rfl hl.1 rfl (lv_room (Nat.le_of_ble_eq_true rfl)) dX0_tryAsking_93 ⟨Nat.zero_le _, Nat.zero_le _⟩) ?_
          refine lv_iadd hx hb dX0_tryAsking_96 ?_
          refine lv_istore (lv' := [(4, .int (v4_20 + (fX0_nightsOf ni (v5_20 &&& (fX3_at 36 al ((x * 6) + (nI k20))))))), (3, .int (if v3_20 < (fX0_worstOf wo (v5_20 &&& (fX3_at 36 al ((x * 6) + (nI k20))))) then (fX0_worstOf wo (v5_20 &&& (fX3_at 36 al ((x * 6) + (nI k20))))) else v3_20)), (5, .int (v5_20 &&& ((v5_20 &&& (fX3_at 36 al ((x * 6) + (nI k20)))) ^^^ (-1)))), (7, .int (v5_20 &&& (fX3_at 36 al ((x * 6) + (nI k20))))), (0, .ref h), (1, .int se), (2, .int x), (6, .int (nI k20))]) hx hb dX0_tryAsking_97 hl (by decide) rfl (fun ls hl => ?_)
          refine lv_iinc (v := (nI (k20 + 1))) (lv' := [(6, .int (nI (k20 + 1))), (4, .int (v4_20 + (fX0_nightsOf ni (v5_20 &&& (fX3_at 36 al ((x * 6) + (nI k20))))))), (3, .int (if v3_20 < (fX0_worstOf wo (v5_20 &&& (fX3_at 36 al ((x * 6) + (nI k20))))) then (fX0_worstOf wo (v5_20 &&& (fX3_at 36 al ((x * 6) + (nI k20))))) else v3_20)), (5, .int (v5_20 &&& ((v5_20 &&& (fX3_at 36 al ((x * 6) + (nI k20)))) ^^^ (-1)))), (7, .int (v5_20 &&& (fX3_at 36 al ((x * 6) + (nI k20))))), (0, .ref h), (1, .int se), (2, .int x)]) hx hb dX0_tryAsking_99 hl (k := 7) rfl (nI_1 (k20)) (by decide) rfl (fun ls hl => ?_)
          refine lv_goto (tgt := 20) hx hb dX0_tryAsking_102 (by decide) ?_
          have hR5 : sX0_tryAsking_20 al wo fi ni se x k20 v3_20 v4_20 v5_20 = (.inl ((if v3_20 < (fX0_worstOf wo (v5_20 &&& (fX3_at 36 al ((x * 6) + (nI k20))))) then (fX0_worstOf wo (v5_20 &&& (fX3_at 36 al ((x * 6) + (nI k20))))) else v3_20), (v4_20 + (fX0_nightsOf ni (v5_20 &&& (fX3_at 36 al ((x * 6) + (nI k20)))))), (v5_20 &&& ((v5_20 &&& (fX3_at 36 al ((x * 6) + (nI k20)))) ^^^ (-1))))) := (by unfold sX0_tryAsking_20; rw [if_neg c36, if_neg c64])
          exact ih20 (k20 + 1) hlt20 (by omega) _ _ _ (lq_next hacc20 hR5)  _ _ hP hD hS ls (lv_sub hl [5, 6, 7, 2, 1, 3, 0] rfl)
        have hR6 : sX0_tryAsking_20 al wo fi ni se x k20 v3_20 v4_20 v5_20 = (.inr (wo, fi, ni)) := (by unfold sX0_tryAsking_20; rw [if_neg c36, if_pos c64])
        have hR7 : (fX0_tryAsking al wo fi ni N se x) = (wo, fi, ni) := hR1.trans (lq_exit hacc20 hR6 hlt20)
        rw [hQ]
        exact W.vret hx hb hr (fun t ht hW => ⟨⟨(), rfl, trivial, (by show va_P D vwCl _ t.heap; rw [hR7, ht]; exact hP)⟩, hS.F ht⟩) hS.2.2 dX0_tryAsking_67
      refine lv_goto (tgt := 99) hx hb dX0_tryAsking_39 (by decide) ?_
      refine lv_iinc (v := (nI (k20 + 1))) (lv' := [(6, .int (nI (k20 + 1))), (0, .ref h), (1, .int se), (2, .int x), (3, .int v3_20), (4, .int v4_20), (5, .int v5_20)]) hx hb dX0_tryAsking_99 hl (k := 6) rfl (nI_1 (k20)) (by decide) rfl (fun ls hl => ?_)
      refine lv_goto (tgt := 20) hx hb dX0_tryAsking_102 (by decide) ?_
      have hR8 : sX0_tryAsking_20 al wo fi ni se x k20 v3_20 v4_20 v5_20 = (.inl (v3_20, v4_20, v5_20)) := (by unfold sX0_tryAsking_20; rw [if_pos c36])
      exact ih20 (k20 + 1) hlt20 (by omega) _ _ _ (lq_next hacc20 hR8)  _ _ hP hD hS ls (lv_sub hl [1, 2, 3, 4, 5, 6, 0] rfl)
  exact loop20 (N + 1) 0 (Nat.zero_le _) (by omega) _ _ _ rfl  _ _ hP hD hS ls (lv_sub hl [4, 5, 6, 3, 2, 1, 0] rfl)

def aX0_make_61 (an : Int32) (wal_10 wwo_61 wfi_61 wni_61 : Nat → Int32) : (Nat → Int32) × (Nat → Int32) × (Nat → Int32) × (Nat → Int32) × Int32 := (wal_10, wwo_61, wfi_61, wni_61, (fX1_answers an))
def aX0_make_93 (wwo_93 wfi_93 wni_93 : Nat → Int32) : ((Nat → Int32) × (Nat → Int32) × (Nat → Int32)) := (wwo_93, wfi_93, wni_93)
def sX0_make_93 (N : Nat) (wal_10 : Nat → Int32) (k61 k93 : Nat) (wwo_93 wfi_93 wni_93 : Nat → Int32) : ((Nat → Int32) × (Nat → Int32) × (Nat → Int32)) := ((fX0_tryAsking wal_10 wwo_93 wfi_93 wni_93 N (nI (k61 + 1)) (nI k93)).1, (fX0_tryAsking wal_10 wwo_93 wfi_93 wni_93 N (nI (k61 + 1)) (nI k93)).2.1, (fX0_tryAsking wal_10 wwo_93 wfi_93 wni_93 N (nI (k61 + 1)) (nI k93)).2.2)
def sX0_make_61 (N : Nat) (wal_10 : Nat → Int32) (k61 : Nat) (wwo_61 wfi_61 wni_61 : Nat → Int32) : ((Nat → Int32) × (Nat → Int32) × (Nat → Int32)) := (aX0_make_93  ((lp (fun k a => sX0_make_93 N wal_10 k61 k a.1 a.2.1 a.2.2) ((fX3_write 64 wwo_61 (nI (k61 + 1)) 1000), wfi_61, (fX3_write 64 wni_61 (nI (k61 + 1)) 1000)) N).1) ((lp (fun k a => sX0_make_93 N wal_10 k61 k a.1 a.2.1 a.2.2) ((fX3_write 64 wwo_61 (nI (k61 + 1)) 1000), wfi_61, (fX3_write 64 wni_61 (nI (k61 + 1)) 1000)) N).2.1) ((lp (fun k a => sX0_make_93 N wal_10 k61 k a.1 a.2.1 a.2.2) ((fX3_write 64 wwo_61 (nI (k61 + 1)) 1000), wfi_61, (fX3_write 64 wni_61 (nI (k61 + 1)) 1000)) N).2.2))
def aX0_make_10 (wo fi ni : Nat → Int32) (an : Int32) (N M : Nat) (wal_10 : Nat → Int32) : (Nat → Int32) × (Nat → Int32) × (Nat → Int32) × (Nat → Int32) × Int32 := (aX0_make_61 an wal_10 ((lp (fun k a => sX0_make_61 N wal_10 k a.1 a.2.1 a.2.2) (wo, fi, ni) M).1) ((lp (fun k a => sX0_make_61 N wal_10 k a.1 a.2.1 a.2.2) (wo, fi, ni) M).2.1) ((lp (fun k a => sX0_make_61 N wal_10 k a.1 a.2.1 a.2.2) (wo, fi, ni) M).2.2))
def aX0_make_20 (wal_20 : Nat → Int32) : ((Nat → Int32)) := wal_20
def sX0_make_20 (kd pl : Nat → Int32) (N k10 k20 : Nat) (wal_20 : Nat → Int32) : ((Nat → Int32)) := (fX3_write 36 wal_20 (((nI k10) * 6) + (nI k20)) (fX1_alike kd pl N (nI k10) (nI k20)))
def sX0_make_10 (kd pl : Nat → Int32) (N k10 : Nat) (wal_10 : Nat → Int32) : ((Nat → Int32)) := (aX0_make_20  (lp (fun k a => sX0_make_20 kd pl N k10 k a) wal_10 N))
def fX0_make (al wo fi ni : Nat → Int32) (an : Int32) (kd pl : Nat → Int32) (N M : Nat) : (Nat → Int32) × (Nat → Int32) × (Nat → Int32) × (Nat → Int32) × Int32 := (aX0_make_10 wo fi ni an N M (lp (fun k a => sX0_make_10 kd pl N k a) al N))
theorem q_X0_make : yX0_make.cls = RX0 ∧ yX0_make.cls ≠ "java/lang/invoke/MethodHandle" ∧ yX0_make.cls ≠ "java/lang/invoke/VarHandle" ∧ (parseMethodDescriptor yX0_make.desc).map (fun d => d.parameters.length) = some 1 := by decide +kernel
set_option maxHeartbeats 4000000 in
set_option maxRecDepth 100000 in
theorem c_X0_make (l : Launch) (D : va_G) (cI cS : ClassId) (h p1 p2 p3 p4 : Nat) (al wo fi ni : Nat → Int32) (pa : Int32) (h2 ak ap aw : Nat) (an pn gr : Int32) (kd pl wt : Nat → Int32) (N M : Nat) (ha : an = nI N) (hN : N ≤ 6) (hM : fX1_all an = nI M) (hMb : M < 64) : MMv l yX0_make wsX0_make { frames := 3, cells := 0, slots := 0, locals := 69 } D cI cS (wPlSec cI h p1 p2 p3 p4 al wo fi ni pa h2 ak ap aw an pn gr kd pl wt) [.ref h, .ref h2] (wPlSec cI h p1 p2 p3 p4 ((fX0_make al wo fi ni an kd pl N M).1) ((fX0_make al wo fi ni an kd pl N M).2.1) ((fX0_make al wo fi ni an kd pl N M).2.2.1) ((fX0_make al wo fi ni an kd pl N M).2.2.2.1) ((fX0_make al wo fi ni an kd pl N M).2.2.2.2) h2 ak ap aw an pn gr kd pl wt) := by
  refine kEnterM (cc := cX0_make) (maxL := 4) (ret := none) (by decide) rfl (Nat.le_of_ble_eq_true rfl) ?_
  intro p e s m below meth c ls Qf hQ hx hb hml hr hlocks hown hts hK hP hD hS hl
  have hown : s.vm.findClass RX0 = some m.cls := hown
  have hl : lv_has ls 4 [(0, .ref h), (1, .ref h2)] := hl
  generalize kA (wPlSec cI h p1 p2 p3 p4 al wo fi ni pa h2 ak ap aw an pn gr kd pl wt) = A at hQ hD hS
  refine lv_aload_n hx hb dX0_make_0 rfl (lv_at hl 0 rfl) ?_
  refine lv_aload_n hx hb dX0_make_1 rfl (lv_at hl 1 rfl) ?_
  refine kPi (va_runV (As := []) (rest := [.ref h]) ⟨hx, hb, hml, hown, hts⟩ (c_X1_answers l D cI cS h2 ak ap aw an pn gr kd pl wt) (cwV 0 hts gX0_make_X1_answers rfl rfl rfl q_X1_answers ⟨Nat.le_of_ble_eq_true rfl, Nat.le_of_ble_eq_true rfl⟩) (kPV hK hP [5, 6, 7, 8] rfl (va_recv hK.1 hP (ci := 1) (q0 := 5) rfl rfl) []) rfl rfl hl.1 rfl (lv_room (Nat.le_of_ble_eq_true rfl)) dX0_make_2 ⟨Nat.zero_le _, Nat.zero_le _⟩) ?_
  refine va_put (D := D) (ci := 0) (v := .int (fX1_answers an)) (ty := tyX0 4) (C := RX0) (T := TX0) (N := 5) hx hb hts (fun _ h => List.mem_cons_of_mem _ (List.mem_append_left _ (List.mem_append_right _ h))) tyX0 tyX0_ok nmX0 hown hK.1 hP hD hS 0 rfl rfl 4 (by decide) (hts (.fieldLink RX0 34 "LieNights$Plan" "answers" "I") (List.mem_of_getElem? (i := 1) rfl)) (fun _ h9 => h9) rfl (tyX0_ok 4 (by decide)) rfl rfl (Nat.le_of_ble_eq_true rfl) dX0_make_5 (fun H locs hP hD hS => ?_)
  have hP : va_P D vwCl (wPlSec cI h p1 p2 p3 p4 al wo fi ni (fX1_answers an) h2 ak ap aw an pn gr kd pl wt) H := hP
  have hD : va_D A (wPlSec cI h p1 p2 p3 p4 al wo fi ni (fX1_answers an) h2 ak ap aw an pn gr kd pl wt) := hD
  refine lv_iconst (v := 0) hx hb dX0_make_8 (by decide) ?_
  refine lv_istore_n (lv' := [(2, .int 0), (0, .ref h), (1, .ref h2)]) hx hb dX0_make_9 rfl hl (by decide) rfl (fun ls hl => ?_)
  have hR1 : (fX0_make al wo fi ni an kd pl N M) = (aX0_make_10 wo fi ni an N M (lp (fun k a => sX0_make_10 kd pl N k a) al N)) := rfl
  have loop10 : ∀ (n k10 : Nat), k10 ≤ N → N + 1 ≤ k10 + n → ∀ (wal_10 : Nat → Int32), lp (fun k a => sX0_make_10 kd pl N k a) al k10 = wal_10 →  ∀ (H : Heap) (locs : List Loc), va_P D vwCl (wPlSec cI h p1 p2 p3 p4 wal_10 wo fi ni (fX1_answers an) h2 ak ap aw an pn gr kd pl wt) H → va_D A (wPlSec cI h p1 p2 p3 p4 wal_10 wo fi ni (fX1_answers an) h2 ak ap aw an pn gr kd pl wt) → va_S A s.heap H locs → ∀ (ls : Array Slot), lv_has ls 4 [(0, .ref h), (1, .ref h2), (2, .int (nI k10))] → W p l e { frames := 3, cells := 0, slots := 0, locals := 69 } s m ([.ref h, .ref h2] : List Value).toArray below meth c H locs 0 0 Qf (F0 m 10 ls []) := by
    intro n
    induction n with
    | zero => intro k10 h1 h2; exact absurd h2 (by omega)
    | succ n ih =>
      intro k10 hk10 hn10 wal_10 hacc10  H locs hP hD hS ls hl
      have ih10 := ih
      refine lv_iload_n hx hb dX0_make_10 rfl (lv_at hl 2 rfl) ?_
      refine lv_aload_n hx hb dX0_make_11 rfl (lv_at hl 0 rfl) ?_
      refine va_get (D := D) (ci := 0) (v := .int (fX1_answers an)) (C := RX0) (T := TX0) (N := 5) hx hb hts (fun _ h => List.mem_cons_of_mem _ (List.mem_append_left _ (List.mem_append_right _ h))) hown hK.1 hP 0 rfl rfl 4 (by decide) (hts (.fieldLink RX0 34 "LieNights$Plan" "answers" "I") (List.mem_of_getElem? (i := 1) rfl)) (fun _ h9 => h9) rfl dX0_make_12 ?_
      refine lv_icmp_ge (tgt := 59) hx hb dX0_make_15 (by decide) (fun c15 => ?_) (fun c15 => ?_)
      · skip
        have hkN : k10 = N := (kEnd hk10 rfl ha (by omega) c15)
        rw [hkN] at hacc10
        have hR2 : (fX0_make al wo fi ni an kd pl N M) = aX0_make_10 wo fi ni an N M wal_10 := hR1.trans (lp_end (x := wal_10) (g := (fun a => aX0_make_10 wo fi ni an N M a)) hacc10)
        refine lv_iconst (v := 1) hx hb dX0_make_59 (by decide) ?_
        refine lv_istore_n (lv' := [(2, .int 1), (0, .ref h), (1, .ref h2)]) hx hb dX0_make_60 rfl hl (by decide) rfl (fun ls hl => ?_)
        have hR3 : (fX0_make al wo fi ni an kd pl N M) = (aX0_make_61 an wal_10 ((lp (fun k a => sX0_make_61 N wal_10 k a.1 a.2.1 a.2.2) (wo, fi, ni) M).1) ((lp (fun k a => sX0_make_61 N wal_10 k a.1 a.2.1 a.2.2) (wo, fi, ni) M).2.1) ((lp (fun k a => sX0_make_61 N wal_10 k a.1 a.2.1 a.2.2) (wo, fi, ni) M).2.2)) := hR2.trans rfl
        have loop61 : ∀ (n k61 : Nat), k61 ≤ M → M + 1 ≤ k61 + n → ∀ (wwo_61 : Nat → Int32) (wfi_61 : Nat → Int32) (wni_61 : Nat → Int32), lp (fun k a => sX0_make_61 N wal_10 k a.1 a.2.1 a.2.2) (wo, fi, ni) k61 = (wwo_61, wfi_61, wni_61) →  ∀ (H : Heap) (locs : List Loc), va_P D vwCl (wPlSec cI h p1 p2 p3 p4 wal_10 wwo_61 wfi_61 wni_61 (fX1_answers an) h2 ak ap aw an pn gr kd pl wt) H → va_D A (wPlSec cI h p1 p2 p3 p4 wal_10 wwo_61 wfi_61 wni_61 (fX1_answers an) h2 ak ap aw an pn gr kd pl wt) → va_S A s.heap H locs → ∀ (ls : Array Slot), lv_has ls 4 [(0, .ref h), (1, .ref h2), (2, .int (nI (k61 + 1)))] → W p l e { frames := 3, cells := 0, slots := 0, locals := 69 } s m ([.ref h, .ref h2] : List Value).toArray below meth c H locs 0 0 Qf (F0 m 61 ls []) := by
          intro n
          induction n with
          | zero => intro k61 h1 h2; exact absurd h2 (by omega)
          | succ n ih =>
            intro k61 hk61 hn61 wwo_61 wfi_61 wni_61 hacc61  H locs hP hD hS ls hl
            have ih61 := ih
            refine lv_iload_n hx hb dX0_make_61 rfl (lv_at hl 2 rfl) ?_
            refine lv_aload_n hx hb dX0_make_62 rfl (lv_at hl 1 rfl) ?_
            refine kPi (va_runV (As := []) (rest := [.int (nI (k61 + 1))]) ⟨hx, hb, hml, hown, hts⟩ (c_X1_all l D cI cS h2 ak ap aw an pn gr kd pl wt) (cwV 0 hts gX0_make_X1_all rfl rfl rfl q_X1_all ⟨Nat.le_of_ble_eq_true rfl, Nat.le_of_ble_eq_true rfl⟩) (kPV hK hP [5, 6, 7, 8] rfl (va_recv hK.1 hP (ci := 1) (q0 := 5) rfl rfl) []) rfl rfl hl.1 rfl (lv_room (Nat.le_of_ble_eq_true rfl)) dX0_make_63 ⟨Nat.zero_le _, Nat.zero_le _⟩) ?_
            refine lv_icmp_gt (tgt := 119) hx hb dX0_make_66 (by decide) (fun c66 => ?_) (fun c66 => ?_)
            · skip
              have hkN : k61 = M := (kEndS hk61 rfl hM (by omega) c66)
              rw [hkN] at hacc61
              have hR4 : (fX0_make al wo fi ni an kd pl N M) = aX0_make_61 an wal_10 wwo_61 wfi_61 wni_61 := hR3.trans (lp_end (x := (wwo_61, wfi_61, wni_61)) (g := (fun a => aX0_make_61 an wal_10 a.1 a.2.1 a.2.2)) hacc61)
              have hR5 : (fX0_make al wo fi ni an kd pl N M) = (wal_10, wwo_61, wfi_61, wni_61, (fX1_answers an)) := hR4.trans rfl
              rw [hQ]
              exact W.vret hx hb hr (fun t ht hW => ⟨⟨(), rfl, trivial, (by show va_P D vwCl _ t.heap; rw [hR5, ht]; exact hP)⟩, hS.F ht⟩) hS.2.2 dX0_make_119
            have hlt61 : k61 < M := (kLtS hk61 rfl hM (by omega) c66)
            refine lv_aload_n hx hb dX0_make_69 rfl (lv_at hl 0 rfl) ?_
            refine va_get (D := D) (ci := 0) (v := .ref p2) (C := RX0) (T := TX0) (N := 5) hx hb hts (fun _ h => List.mem_cons_of_mem _ (List.mem_append_left _ (List.mem_append_right _ h))) hown hK.1 hP 0 rfl rfl 1 (by decide) (hts (.fieldLink RX0 17 "LieNights$Plan" "worst" "[I") (List.mem_of_getElem? (i := 3) rfl)) (fun _ h9 => h9) rfl dX0_make_70 ?_
            refine lv_iload_n hx hb dX0_make_73 rfl (lv_at hl 2 rfl) ?_
            refine lv_sipush (v := 1000) hx hb dX0_make_74 (by decide) ?_
            refine kMv (wl' := (wPlSec cI h p1 p2 p3 p4 wal_10 (fX3_write 64 wwo_61 (nI (k61 + 1)) 1000) wfi_61 wni_61 (fX1_answers an) h2 ak ap aw an pn gr kd pl wt)) (wc := (wArr cI p2 64 wwo_61)) (w1 := (wArr cI p2 64 (fX3_write 64 wwo_61 (nI (k61 + 1)) 1000))) hP hD hS [2] rfl rfl rfl (va_runSN (As := [.ref p2, .int (nI (k61 + 1)), .int 1000]) (rest := []) ⟨hx, hb, hml, hown, hts⟩ (c_X3_write l D cI cS p2 64 wwo_61 (nI (k61 + 1)) 1000 (by decide)) ⟨va_cnB 3 hts gX0_make_X3_write_n40 rfl rfl rfl (hK.2.at 8 (q := (RX0, 40, yX3_write, "LieNights")) rfl) (hts _ (List.mem_of_getElem? (i := 26) rfl)) q_X3_write.2 ⟨Nat.le_of_ble_eq_true rfl, Nat.le_of_ble_eq_true rfl⟩, hts _ (List.mem_of_getElem? (i := 28) rfl), trivial⟩ (kMS hK hP hD [2] rfl rfl [.ref p2, .int (nI (k61 + 1)), .int 1000]) rfl rfl hl.1 rfl (lv_room (Nat.le_of_ble_eq_true rfl)) dX0_make_77 ⟨Nat.zero_le _, Nat.zero_le _⟩) (fun H locs hP hD hS => ?_)
            refine lv_aload_n hx hb dX0_make_80 rfl (lv_at hl 0 rfl) ?_
            refine va_get (D := D) (ci := 0) (v := .ref p4) (C := RX0) (T := TX0) (N := 5) hx hb hts (fun _ h => List.mem_cons_of_mem _ (List.mem_append_left _ (List.mem_append_right _ h))) hown hK.1 hP 0 rfl rfl 3 (by decide) (hts (.fieldLink RX0 23 "LieNights$Plan" "nights" "[I") (List.mem_of_getElem? (i := 4) rfl)) (fun _ h9 => h9) rfl dX0_make_81 ?_
            refine lv_iload_n hx hb dX0_make_84 rfl (lv_at hl 2 rfl) ?_
            refine lv_sipush (v := 1000) hx hb dX0_make_85 (by decide) ?_
            refine kMv (wl' := (wPlSec cI h p1 p2 p3 p4 wal_10 (fX3_write 64 wwo_61 (nI (k61 + 1)) 1000) wfi_61 (fX3_write 64 wni_61 (nI (k61 + 1)) 1000) (fX1_answers an) h2 ak ap aw an pn gr kd pl wt)) (wc := (wArr cI p4 64 wni_61)) (w1 := (wArr cI p4 64 (fX3_write 64 wni_61 (nI (k61 + 1)) 1000))) hP hD hS [4] rfl rfl rfl (va_runSN (As := [.ref p4, .int (nI (k61 + 1)), .int 1000]) (rest := []) ⟨hx, hb, hml, hown, hts⟩ (c_X3_write l D cI cS p4 64 wni_61 (nI (k61 + 1)) 1000 (by decide)) ⟨va_cnB 3 hts gX0_make_X3_write_n40 rfl rfl rfl (hK.2.at 8 (q := (RX0, 40, yX3_write, "LieNights")) rfl) (hts _ (List.mem_of_getElem? (i := 26) rfl)) q_X3_write.2 ⟨Nat.le_of_ble_eq_true rfl, Nat.le_of_ble_eq_true rfl⟩, hts _ (List.mem_of_getElem? (i := 28) rfl), trivial⟩ (kMS hK hP hD [4] rfl rfl [.ref p4, .int (nI (k61 + 1)), .int 1000]) rfl rfl hl.1 rfl (lv_room (Nat.le_of_ble_eq_true rfl)) dX0_make_88 ⟨Nat.zero_le _, Nat.zero_le _⟩) (fun H locs hP hD hS => ?_)
            refine lv_iconst (v := 0) hx hb dX0_make_91 (by decide) ?_
            refine lv_istore_n (lv' := [(3, .int 0), (0, .ref h), (1, .ref h2), (2, .int (nI (k61 + 1)))]) hx hb dX0_make_92 rfl hl (by decide) rfl (fun ls hl => ?_)
            have hR6 : sX0_make_61 N wal_10 k61 wwo_61 wfi_61 wni_61 = (aX0_make_93  ((lp (fun k a => sX0_make_93 N wal_10 k61 k a.1 a.2.1 a.2.2) ((fX3_write 64 wwo_61 (nI (k61 + 1)) 1000), wfi_61, (fX3_write 64 wni_61 (nI (k61 + 1)) 1000)) N).1) ((lp (fun k a => sX0_make_93 N wal_10 k61 k a.1 a.2.1 a.2.2) ((fX3_write 64 wwo_61 (nI (k61 + 1)) 1000), wfi_61, (fX3_write 64 wni_61 (nI (k61 + 1)) 1000)) N).2.1) ((lp (fun k a => sX0_make_93 N wal_10 k61 k a.1 a.2.1 a.2.2) ((fX3_write 64 wwo_61 (nI (k61 + 1)) 1000), wfi_61, (fX3_write 64 wni_61 (nI (k61 + 1)) 1000)) N).2.2)) := rfl
            have loop93 : ∀ (n k93 : Nat), k93 ≤ N → N + 1 ≤ k93 + n → ∀ (wwo_93 : Nat → Int32) (wfi_93 : Nat → Int32) (wni_93 : Nat → Int32), lp (fun k a => sX0_make_93 N wal_10 k61 k a.1 a.2.1 a.2.2) ((fX3_write 64 wwo_61 (nI (k61 + 1)) 1000), wfi_61, (fX3_write 64 wni_61 (nI (k61 + 1)) 1000)) k93 = (wwo_93, wfi_93, wni_93) →  ∀ (H : Heap) (locs : List Loc), va_P D vwCl (wPlSec cI h p1 p2 p3 p4 wal_10 wwo_93 wfi_93 wni_93 (fX1_answers an) h2 ak ap aw an pn gr kd pl wt) H → va_D A (wPlSec cI h p1 p2 p3 p4 wal_10 wwo_93 wfi_93 wni_93 (fX1_answers an) h2 ak ap aw an pn gr kd pl wt) → va_S A s.heap H locs → ∀ (ls : Array Slot), lv_has ls 4 [(0, .ref h), (1, .ref h2), (2, .int (nI (k61 + 1))), (3, .int (nI k93))] → W p l e { frames := 3, cells := 0, slots := 0, locals := 69 } s m ([.ref h, .ref h2] : List Value).toArray below meth c H locs 0 0 Qf (F0 m 93 ls []) := by
              intro n
              induction n with
              | zero => intro k93 h1 h2; exact absurd h2 (by omega)
              | succ n ih =>
                intro k93 hk93 hn93 wwo_93 wfi_93 wni_93 hacc93  H locs hP hD hS ls hl
                have ih93 := ih
                refine lv_iload_n hx hb dX0_make_93 rfl (lv_at hl 3 rfl) ?_
                refine lv_aload_n hx hb dX0_make_94 rfl (lv_at hl 0 rfl) ?_
                refine va_get (D := D) (ci := 0) (v := .int (fX1_answers an)) (C := RX0) (T := TX0) (N := 5) hx hb hts (fun _ h => List.mem_cons_of_mem _ (List.mem_append_left _ (List.mem_append_right _ h))) hown hK.1 hP 0 rfl rfl 4 (by decide) (hts (.fieldLink RX0 34 "LieNights$Plan" "answers" "I") (List.mem_of_getElem? (i := 1) rfl)) (fun _ h9 => h9) rfl dX0_make_95 ?_
                refine lv_icmp_ge (tgt := 113) hx hb dX0_make_98 (by decide) (fun c98 => ?_) (fun c98 => ?_)
                · skip
                  have hkN : k93 = N := (kEnd hk93 rfl ha (by omega) c98)
                  rw [hkN] at hacc93
                  have hR7 : sX0_make_61 N wal_10 k61 wwo_61 wfi_61 wni_61 = aX0_make_93  wwo_93 wfi_93 wni_93 := hR6.trans (lp_end (x := (wwo_93, wfi_93, wni_93)) (g := (fun a => aX0_make_93  a.1 a.2.1 a.2.2)) hacc93)
                  refine lv_iinc (v := (nI ((k61 + 1) + 1))) (lv' := [(2, .int (nI ((k61 + 1) + 1))), (0, .ref h), (1, .ref h2), (3, .int (nI k93))]) hx hb dX0_make_113 hl (k := 2) rfl (nI_1 ((k61 + 1))) (by decide) rfl (fun ls hl => ?_)
                  refine lv_goto (tgt := 61) hx hb dX0_make_116 (by decide) ?_
                  have hR8 : sX0_make_61 N wal_10 k61 wwo_61 wfi_61 wni_61 = (wwo_93, wfi_93, wni_93) := hR7.trans rfl
                  exact ih61 (k61 + 1) hlt61 (by omega) _ _ _ (lp_next hacc61 hR8)  _ _ hP hD hS ls (lv_sub hl [1, 2, 0] rfl)
                have hlt93 : k93 < N := (kLt hk93 rfl ha c98)
                refine lv_aload_n hx hb dX0_make_101 rfl (lv_at hl 0 rfl) ?_
                refine lv_iload_n hx hb dX0_make_102 rfl (lv_at hl 2 rfl) ?_
                refine lv_iload_n hx hb dX0_make_103 rfl (lv_at hl 3 rfl) ?_
                refine kMv (wl' := (wPlSec cI h p1 p2 p3 p4 wal_10 ((fX0_tryAsking wal_10 wwo_93 wfi_93 wni_93 N (nI (k61 + 1)) (nI k93)).1) ((fX0_tryAsking wal_10 wwo_93 wfi_93 wni_93 N (nI (k61 + 1)) (nI k93)).2.1) ((fX0_tryAsking wal_10 wwo_93 wfi_93 wni_93 N (nI (k61 + 1)) (nI k93)).2.2) (fX1_answers an) h2 ak ap aw an pn gr kd pl wt)) (wc := (wPl cI h p1 p2 p3 p4 wal_10 wwo_93 wfi_93 wni_93 (fX1_answers an))) (w1 := (wPl cI h p1 p2 p3 p4 wal_10 ((fX0_tryAsking wal_10 wwo_93 wfi_93 wni_93 N (nI (k61 + 1)) (nI k93)).1) ((fX0_tryAsking wal_10 wwo_93 wfi_93 wni_93 N (nI (k61 + 1)) (nI k93)).2.1) ((fX0_tryAsking wal_10 wwo_93 wfi_93 wni_93 N (nI (k61 + 1)) (nI k93)).2.2) (fX1_answers an))) hP hD hS [0, 1, 2, 3, 4] rfl rfl rfl (va_runV (As := [.int (nI (k61 + 1)), .int (nI k93)]) (rest := []) ⟨hx, hb, hml, hown, hts⟩ (c_X0_tryAsking l D cI cS h p1 p2 p3 p4 wal_10 wwo_93 wfi_93 wni_93 (fX1_answers an) N (nI (k61 + 1)) (nI k93) ha hN) (cwV 2 hts gX0_make_X0_tryAsking rfl rfl rfl q_X0_tryAsking ⟨Nat.le_of_ble_eq_true rfl, Nat.le_of_ble_eq_true rfl⟩) (kMV hK hP hD [0, 1, 2, 3, 4] rfl rfl (va_recv hK.1 hP (ci := 0) (q0 := 0) rfl rfl) [.int (nI (k61 + 1)), .int (nI k93)]) rfl rfl hl.1 rfl (lv_room (Nat.le_of_ble_eq_true rfl)) dX0_make_104 ⟨Nat.zero_le _, Nat.zero_le _⟩) (fun H locs hP hD hS => ?_)
                refine lv_iinc (v := (nI (k93 + 1))) (lv' := [(3, .int (nI (k93 + 1))), (0, .ref h), (1, .ref h2), (2, .int (nI (k61 + 1)))]) hx hb dX0_make_107 hl (k := 3) rfl (nI_1 (k93)) (by decide) rfl (fun ls hl => ?_)
                refine lv_goto (tgt := 93) hx hb dX0_make_110 (by decide) ?_
                have hR9 : sX0_make_93 N wal_10 k61 k93 wwo_93 wfi_93 wni_93 = ((fX0_tryAsking wal_10 wwo_93 wfi_93 wni_93 N (nI (k61 + 1)) (nI k93)).1, (fX0_tryAsking wal_10 wwo_93 wfi_93 wni_93 N (nI (k61 + 1)) (nI k93)).2.1, (fX0_tryAsking wal_10 wwo_93 wfi_93 wni_93 N (nI (k61 + 1)) (nI k93)).2.2) := rfl
                exact ih93 (k93 + 1) hlt93 (by omega) _ _ _ (lp_next hacc93 hR9)  _ _ hP hD hS ls (lv_sub hl [1, 2, 3, 0] rfl)
            exact loop93 (N + 1) 0 (Nat.zero_le _) (by omega) _ _ _ rfl  _ _ hP hD hS ls (lv_sub hl [1, 2, 3, 0] rfl)
        exact loop61 (M + 1) 0 (Nat.zero_le _) (by omega) _ _ _ rfl  _ _ hP hD hS ls (lv_sub hl [1, 2, 0] rfl)
      have hlt10 : k10 < N := (kLt hk10 rfl ha c15)
      refine lv_iconst (v := 0) hx hb dX0_make_18 (by decide) ?_
      refine lv_istore_n (lv' := [(3, .int 0), (0, .ref h), (1, .ref h2), (2, .int (nI k10))]) hx hb dX0_make_19 rfl hl (by decide) rfl (fun ls hl => ?_)
      have hR10 : sX0_make_10 kd pl N k10 wal_10 = (aX0_make_20  (lp (fun k a => sX0_make_20 kd pl N k10 k a) wal_10 N)) := rfl
      have loop20 : ∀ (n k20 : Nat), k20 ≤ N → N + 1 ≤ k20 + n → ∀ (wal_20 : Nat → Int32), lp (fun k a => sX0_make_20 kd pl N k10 k a) wal_10 k20 = wal_20 →  ∀ (H : Heap) (locs : List Loc), va_P D vwCl (wPlSec cI h p1 p2 p3 p4 wal_20 wo fi ni (fX1_answers an) h2 ak ap aw an pn gr kd pl wt) H → va_D A (wPlSec cI h p1 p2 p3 p4 wal_20 wo fi ni (fX1_answers an) h2 ak ap aw an pn gr kd pl wt) → va_S A s.heap H locs → ∀ (ls : Array Slot), lv_has ls 4 [(0, .ref h), (1, .ref h2), (2, .int (nI k10)), (3, .int (nI k20))] → W p l e { frames := 3, cells := 0, slots := 0, locals := 69 } s m ([.ref h, .ref h2] : List Value).toArray below meth c H locs 0 0 Qf (F0 m 20 ls []) := by
        intro n
        induction n with
        | zero => intro k20 h1 h2; exact absurd h2 (by omega)
        | succ n ih =>
          intro k20 hk20 hn20 wal_20 hacc20  H locs hP hD hS ls hl
          have ih20 := ih
          refine lv_iload_n hx hb dX0_make_20 rfl (lv_at hl 3 rfl) ?_
          refine lv_aload_n hx hb dX0_make_21 rfl (lv_at hl 0 rfl) ?_
          refine va_get (D := D) (ci := 0) (v := .int (fX1_answers an)) (C := RX0) (T := TX0) (N := 5) hx hb hts (fun _ h => List.mem_cons_of_mem _ (List.mem_append_left _ (List.mem_append_right _ h))) hown hK.1 hP 0 rfl rfl 4 (by decide) (hts (.fieldLink RX0 34 "LieNights$Plan" "answers" "I") (List.mem_of_getElem? (i := 1) rfl)) (fun _ h9 => h9) rfl dX0_make_22 ?_
          refine lv_icmp_ge (tgt := 53) hx hb dX0_make_25 (by decide) (fun c25 => ?_) (fun c25 => ?_)
          · skip
            have hkN : k20 = N := (kEnd hk20 rfl ha (by omega) c25)
            rw [hkN] at hacc20
            have hR11 : sX0_make_10 kd pl N k10 wal_10 = aX0_make_20  wal_20 := hR10.trans (lp_end (x := wal_20) (g := (fun a => aX0_make_20  a)) hacc20)
            refine lv_iinc (v := (nI (k10 + 1))) (lv' := [(2, .int (nI (k10 + 1))), (0, .ref h), (1, .ref h2), (3, .int (nI k20))]) hx hb dX0_make_53 hl (k := 2) rfl (nI_1 (k10)) (by decide) rfl (fun ls hl => ?_)
            refine lv_goto (tgt := 10) hx hb dX0_make_56 (by decide) ?_
            have hR12 : sX0_make_10 kd pl N k10 wal_10 = wal_20 := hR11.trans rfl
            exact ih10 (k10 + 1) hlt10 (by omega) _ (lp_next hacc10 hR12)  _ _ hP hD hS ls (lv_sub hl [1, 2, 0] rfl)
          have hlt20 : k20 < N := (kLt hk20 rfl ha c25)
          refine lv_aload_n hx hb dX0_make_28 rfl (lv_at hl 0 rfl) ?_
          refine va_get (D := D) (ci := 0) (v := .ref p1) (C := RX0) (T := TX0) (N := 5) hx hb hts (fun _ h => List.mem_cons_of_mem _ (List.mem_append_left _ (List.mem_append_right _ h))) hown hK.1 hP 0 rfl rfl 0 (by decide) (hts (.fieldLink RX0 11 "LieNights$Plan" "alike" "[I") (List.mem_of_getElem? (i := 2) rfl)) (fun _ h9 => h9) rfl dX0_make_29 ?_
          refine lv_iload_n hx hb dX0_make_32 rfl (lv_at hl 2 rfl) ?_
          refine lv_bipush (v := 6) hx hb dX0_make_33 (by decide) ?_
          refine lv_imul hx hb dX0_make_35 ?_
          refine lv_iload_n hx hb dX0_make_36 rfl (lv_at hl 3 rfl) ?_
          refine lv_iadd hx hb dX0_make_37 ?_
          refine lv_aload_n hx hb dX0_make_38 rfl (lv_at hl 1 rfl) ?_
          refine lv_iload_n hx hb dX0_make_39 rfl (lv_at hl 2 rfl) ?_
          refine lv_iload_n hx hb dX0_make_40 rfl (lv_at hl 3 rfl) ?_
          refine kPi (va_runV (As := [.int (nI k10), .int (nI k20)]) (rest := [.int (((nI k10) * 6) + (nI k20)), .ref p1]) ⟨hx, hb, hml, hown, hts⟩ (c_X1_alike l D cI cS h2 ak ap aw an pn gr kd pl wt N (nI k10) (nI k20) ha hN) (cwV 2 hts gX0_make_X1_alike rfl rfl rfl q_X1_alike ⟨Nat.le_of_ble_eq_true rfl, Nat.le_of_ble_eq_true rfl⟩) (kPV hK hP [5, 6, 7, 8] rfl (va_recv hK.1 hP (ci := 1) (q0 := 5) rfl rfl) [.int (nI k10), .int (nI k20)]) rfl rfl hl.1 rfl (lv_room (Nat.le_of_ble_eq_true rfl)) dX0_make_41 ⟨Nat.zero_le _, Nat.zero_le _⟩) ?_
          refine kMv (wl' := (wPlSec cI h p1 p2 p3 p4 (fX3_write 36 wal_20 (((nI k10) * 6) + (nI k20)) (fX1_alike kd pl N (nI k10) (nI k20))) wo fi ni (fX1_answers an) h2 ak ap aw an pn gr kd pl wt)) (wc := (wArr cI p1 36 wal_20)) (w1 := (wArr cI p1 36 (fX3_write 36 wal_20 (((nI k10) * 6) + (nI k20)) (fX1_alike kd pl N (nI k10) (nI k20))))) hP hD hS [1] rfl rfl rfl (va_runSN (As := [.ref p1, .int (((nI k10) * 6) + (nI k20)), .int (fX1_alike kd pl N (nI k10) (nI k20))]) (rest := []) ⟨hx, hb, hml, hown, hts⟩ (c_X3_write l D cI cS p1 36 wal_20 (((nI k10) * 6) + (nI k20)) (fX1_alike kd pl N (nI k10) (nI k20)) (by decide)) ⟨va_cnB 3 hts gX0_make_X3_write_n40 rfl rfl rfl (hK.2.at 8 (q := (RX0, 40, yX3_write, "LieNights")) rfl) (hts _ (List.mem_of_getElem? (i := 26) rfl)) q_X3_write.2 ⟨Nat.le_of_ble_eq_true rfl, Nat.le_of_ble_eq_true rfl⟩, hts _ (List.mem_of_getElem? (i := 28) rfl), trivial⟩ (kMS hK hP hD [1] rfl rfl [.ref p1, .int (((nI k10) * 6) + (nI k20)), .int (fX1_alike kd pl N (nI k10) (nI k20))]) rfl rfl hl.1 rfl (lv_room (Nat.le_of_ble_eq_true rfl)) dX0_make_44 ⟨Nat.zero_le _, Nat.zero_le _⟩) (fun H locs hP hD hS => ?_)
          refine lv_iinc (v := (nI (k20 + 1))) (lv' := [(3, .int (nI (k20 + 1))), (0, .ref h), (1, .ref h2), (2, .int (nI k10))]) hx hb dX0_make_47 hl (k := 3) rfl (nI_1 (k20)) (by decide) rfl (fun ls hl => ?_)
          refine lv_goto (tgt := 20) hx hb dX0_make_50 (by decide) ?_
          have hR13 : sX0_make_20 kd pl N k10 k20 wal_20 = (fX3_write 36 wal_20 (((nI k10) * 6) + (nI k20)) (fX1_alike kd pl N (nI k10) (nI k20))) := rfl
          exact ih20 (k20 + 1) hlt20 (by omega) _ (lp_next hacc20 hR13)  _ _ hP hD hS ls (lv_sub hl [1, 2, 3, 0] rfl)
      exact loop20 (N + 1) 0 (Nat.zero_le _) (by omega) _ rfl  _ _ hP hD hS ls (lv_sub hl [1, 2, 3, 0] rfl)
  exact loop10 (N + 1) 0 (Nat.zero_le _) (by omega) _ rfl  _ _ hP hD hS ls (lv_sub hl [1, 2, 0] rfl)
end
