section
-- ===== PART A: goes FIRST, ahead of the names: the tables' words, and 'selects' of the private methods out of them =====
/-- a private method of a class that the tables say can be made, by its rows of tables_1 -/
def lw_okq (q : MethodName × Nat) : Prop := (q.1.cls ≠ "java/lang/invoke/MethodHandle" ∧ q.1.cls ≠ "java/lang/invoke/VarHandle") ∧ Cond.instantiable q.1.cls q.2 ∈ tables_1 ∧ Cond.privateMethod q.1 ∈ tables_1 ∧ Cond.instanceMethod q.1 ∈ tables_1
theorem lw_p0 : lw_okq (⟨"SaidAlready", "faultAsSentence", "()I"⟩, 7) := ⟨⟨by decide +kernel, by decide +kernel⟩, List.mem_of_getElem? (i := 12) (by decide +kernel), List.mem_of_getElem? (i := 218) (by decide +kernel), List.mem_of_getElem? (i := 219) (by decide +kernel)⟩
theorem lw_p1 : lw_okq (⟨"SaidAlready", "endOfTongue", "(II)I"⟩, 7) := ⟨⟨by decide +kernel, by decide +kernel⟩, List.mem_of_getElem? (i := 12) (by decide +kernel), List.mem_of_getElem? (i := 222) (by decide +kernel), List.mem_of_getElem? (i := 223) (by decide +kernel)⟩
theorem lw_p2 : lw_okq (⟨"SaidAlready", "faultAsPair", "()I"⟩, 7) := ⟨⟨by decide +kernel, by decide +kernel⟩, List.mem_of_getElem? (i := 12) (by decide +kernel), List.mem_of_getElem? (i := 236) (by decide +kernel), List.mem_of_getElem? (i := 237) (by decide +kernel)⟩
theorem lw_p3 : lw_okq (⟨"SaidAlready$Likeness", "matchOf", "(LSaidAlready$Memory;II)I"⟩, 1) := ⟨⟨by decide +kernel, by decide +kernel⟩, List.mem_of_getElem? (i := 115) (by decide +kernel), List.mem_of_getElem? (i := 258) (by decide +kernel), List.mem_of_getElem? (i := 259) (by decide +kernel)⟩
theorem lw_p4 : lw_okq (⟨"SaidAlready$Likeness", "likeOf", "(LSaidAlready$Row;LSaidAlready$Row;)I"⟩, 1) := ⟨⟨by decide +kernel, by decide +kernel⟩, List.mem_of_getElem? (i := 115) (by decide +kernel), List.mem_of_getElem? (i := 262) (by decide +kernel), List.mem_of_getElem? (i := 263) (by decide +kernel)⟩
theorem lw_p5 : lw_okq (⟨"SaidAlready$Prices", "readRatesByMemory", "(LSaidAlready$Memory;)V"⟩, 6) := ⟨⟨by decide +kernel, by decide +kernel⟩, List.mem_of_getElem? (i := 126) (by decide +kernel), List.mem_of_getElem? (i := 368) (by decide +kernel), List.mem_of_getElem? (i := 369) (by decide +kernel)⟩
theorem lw_p6 : lw_okq (⟨"SaidAlready$Prices", "readHelpers", "(LSaidAlready$Memory;)V"⟩, 6) := ⟨⟨by decide +kernel, by decide +kernel⟩, List.mem_of_getElem? (i := 126) (by decide +kernel), List.mem_of_getElem? (i := 373) (by decide +kernel), List.mem_of_getElem? (i := 374) (by decide +kernel)⟩
theorem lw_p7 : lw_okq (⟨"SaidAlready$Prices", "chooseNext", "(LSaidAlready$Memory;I)V"⟩, 6) := ⟨⟨by decide +kernel, by decide +kernel⟩, List.mem_of_getElem? (i := 126) (by decide +kernel), List.mem_of_getElem? (i := 377) (by decide +kernel), List.mem_of_getElem? (i := 378) (by decide +kernel)⟩
theorem lw_p8 : lw_okq (⟨"SaidAlready$Prices", "priceWith", "(LSaidAlready$Memory;II)I"⟩, 6) := ⟨⟨by decide +kernel, by decide +kernel⟩, List.mem_of_getElem? (i := 126) (by decide +kernel), List.mem_of_getElem? (i := 382) (by decide +kernel), List.mem_of_getElem? (i := 383) (by decide +kernel)⟩
theorem lw_p9 : lw_okq (⟨"SaidAlready$Prices", "readNeeded", "(LSaidAlready$Memory;)V"⟩, 6) := ⟨⟨by decide +kernel, by decide +kernel⟩, List.mem_of_getElem? (i := 126) (by decide +kernel), List.mem_of_getElem? (i := 399) (by decide +kernel), List.mem_of_getElem? (i := 400) (by decide +kernel)⟩
theorem lw_p10 : lw_okq (⟨"SaidAlready$Prices", "isEnough", "(LSaidAlready$Memory;I)Z"⟩, 6) := ⟨⟨by decide +kernel, by decide +kernel⟩, List.mem_of_getElem? (i := 126) (by decide +kernel), List.mem_of_getElem? (i := 409) (by decide +kernel), List.mem_of_getElem? (i := 410) (by decide +kernel)⟩
theorem lw_p11 : lw_okq (⟨"SaidAlready$Laying", "layFrom", "(LSaidAlready$Row;ILSaidAlready$Row;I)V"⟩, 3) := ⟨⟨by decide +kernel, by decide +kernel⟩, List.mem_of_getElem? (i := 155) (by decide +kernel), List.mem_of_getElem? (i := 498) (by decide +kernel), List.mem_of_getElem? (i := 499) (by decide +kernel)⟩
theorem lw_p12 : lw_okq (⟨"SaidAlready$Laying", "costWith", "(LSaidAlready$Row;ILSaidAlready$Row;II)I"⟩, 3) := ⟨⟨by decide +kernel, by decide +kernel⟩, List.mem_of_getElem? (i := 155) (by decide +kernel), List.mem_of_getElem? (i := 510) (by decide +kernel), List.mem_of_getElem? (i := 511) (by decide +kernel)⟩
theorem lw_p13 : lw_okq (⟨"SaidAlready$Laying", "readSteps", "(LSaidAlready$Row;LSaidAlready$Row;)V"⟩, 3) := ⟨⟨by decide +kernel, by decide +kernel⟩, List.mem_of_getElem? (i := 155) (by decide +kernel), List.mem_of_getElem? (i := 523) (by decide +kernel), List.mem_of_getElem? (i := 524) (by decide +kernel)⟩
theorem lw_p14 : lw_okq (⟨"SaidAlready$Laying", "firstOfLeast", "(LSaidAlready$Row;ILSaidAlready$Row;I)I"⟩, 3) := ⟨⟨by decide +kernel, by decide +kernel⟩, List.mem_of_getElem? (i := 155) (by decide +kernel), List.mem_of_getElem? (i := 527) (by decide +kernel), List.mem_of_getElem? (i := 528) (by decide +kernel)⟩
theorem lw_p15 : lw_okq (⟨"SaidAlready$Memory", "takePairs", "(LSaidAlready$Memory;)V"⟩, 12) := ⟨⟨by decide +kernel, by decide +kernel⟩, List.mem_of_getElem? (i := 39) (by decide +kernel), List.mem_of_getElem? (i := 540) (by decide +kernel), List.mem_of_getElem? (i := 541) (by decide +kernel)⟩
def lw_privs_1 : List (MethodName × Nat) := [(⟨"SaidAlready", "faultAsSentence", "()I"⟩, 7), (⟨"SaidAlready", "endOfTongue", "(II)I"⟩, 7), (⟨"SaidAlready", "faultAsPair", "()I"⟩, 7), (⟨"SaidAlready$Likeness", "matchOf", "(LSaidAlready$Memory;II)I"⟩, 1), (⟨"SaidAlready$Likeness", "likeOf", "(LSaidAlready$Row;LSaidAlready$Row;)I"⟩, 1), (⟨"SaidAlready$Prices", "readRatesByMemory", "(LSaidAlready$Memory;)V"⟩, 6), (⟨"SaidAlready$Prices", "readHelpers", "(LSaidAlready$Memory;)V"⟩, 6), (⟨"SaidAlready$Prices", "chooseNext", "(LSaidAlready$Memory;I)V"⟩, 6), (⟨"SaidAlready$Prices", "priceWith", "(LSaidAlready$Memory;II)I"⟩, 6), (⟨"SaidAlready$Prices", "readNeeded", "(LSaidAlready$Memory;)V"⟩, 6), (⟨"SaidAlready$Prices", "isEnough", "(LSaidAlready$Memory;I)Z"⟩, 6), (⟨"SaidAlready$Laying", "layFrom", "(LSaidAlready$Row;ILSaidAlready$Row;I)V"⟩, 3), (⟨"SaidAlready$Laying", "costWith", "(LSaidAlready$Row;ILSaidAlready$Row;II)I"⟩, 3), (⟨"SaidAlready$Laying", "readSteps", "(LSaidAlready$Row;LSaidAlready$Row;)V"⟩, 3), (⟨"SaidAlready$Laying", "firstOfLeast", "(LSaidAlready$Row;ILSaidAlready$Row;I)I"⟩, 3), (⟨"SaidAlready$Memory", "takePairs", "(LSaidAlready$Memory;)V"⟩, 12)]
theorem lw_r1 : ∀ q ∈ lw_privs_1, lw_okq q := List.forall_mem_cons.mpr ⟨lw_p0, List.forall_mem_cons.mpr ⟨lw_p1, List.forall_mem_cons.mpr ⟨lw_p2, List.forall_mem_cons.mpr ⟨lw_p3, List.forall_mem_cons.mpr ⟨lw_p4, List.forall_mem_cons.mpr ⟨lw_p5, List.forall_mem_cons.mpr ⟨lw_p6, List.forall_mem_cons.mpr ⟨lw_p7, List.forall_mem_cons.mpr ⟨lw_p8, List.forall_mem_cons.mpr ⟨lw_p9, List.forall_mem_cons.mpr ⟨lw_p10, List.forall_mem_cons.mpr ⟨lw_p11, List.forall_mem_cons.mpr ⟨lw_p12, List.forall_mem_cons.mpr ⟨lw_p13, List.forall_mem_cons.mpr ⟨lw_p14, List.forall_mem_cons.mpr ⟨lw_p15, fun _ h => absurd h List.not_mem_nil⟩⟩⟩⟩⟩⟩⟩⟩⟩⟩⟩⟩⟩⟩⟩⟩
theorem lw_p16 : lw_okq (⟨"SaidAlready$Memory", "takeText", "(LSaidAlready$Memory;)V"⟩, 12) := ⟨⟨by decide +kernel, by decide +kernel⟩, List.mem_of_getElem? (i := 39) (by decide +kernel), List.mem_of_getElem? (i := 549) (by decide +kernel), List.mem_of_getElem? (i := 550) (by decide +kernel)⟩
theorem lw_p17 : lw_okq (⟨"SaidAlready", "toldOfSettings", "(I)I"⟩, 7) := ⟨⟨by decide +kernel, by decide +kernel⟩, List.mem_of_getElem? (i := 12) (by decide +kernel), List.mem_of_getElem? (i := 561) (by decide +kernel), List.mem_of_getElem? (i := 562) (by decide +kernel)⟩
theorem lw_p18 : lw_okq (⟨"SaidAlreadyModel", "faultOf", "(I)I"⟩, 28) := ⟨⟨by decide +kernel, by decide +kernel⟩, List.mem_of_getElem? (i := 565) (by decide +kernel), List.mem_of_getElem? (i := 671) (by decide +kernel), List.mem_of_getElem? (i := 672) (by decide +kernel)⟩
theorem lw_p19 : lw_okq (⟨"SaidAlreadyModel", "isPair", "(I)Z"⟩, 28) := ⟨⟨by decide +kernel, by decide +kernel⟩, List.mem_of_getElem? (i := 565) (by decide +kernel), List.mem_of_getElem? (i := 682) (by decide +kernel), List.mem_of_getElem? (i := 683) (by decide +kernel)⟩
theorem lw_p20 : lw_okq (⟨"SaidAlreadyModel", "isSentence", "(I)Z"⟩, 28) := ⟨⟨by decide +kernel, by decide +kernel⟩, List.mem_of_getElem? (i := 565) (by decide +kernel), List.mem_of_getElem? (i := 698) (by decide +kernel), List.mem_of_getElem? (i := 699) (by decide +kernel)⟩
theorem lw_p21 : lw_okq (⟨"SaidAlreadyModel", "farOf", "([III[III)I"⟩, 28) := ⟨⟨by decide +kernel, by decide +kernel⟩, List.mem_of_getElem? (i := 565) (by decide +kernel), List.mem_of_getElem? (i := 702) (by decide +kernel), List.mem_of_getElem? (i := 703) (by decide +kernel)⟩
theorem lw_p22 : lw_okq (⟨"SaidAlreadyModel", "matchOf", "(II)I"⟩, 28) := ⟨⟨by decide +kernel, by decide +kernel⟩, List.mem_of_getElem? (i := 565) (by decide +kernel), List.mem_of_getElem? (i := 713) (by decide +kernel), List.mem_of_getElem? (i := 714) (by decide +kernel)⟩
theorem lw_p23 : lw_okq (⟨"SaidAlreadyModel", "likePair", "(II)I"⟩, 28) := ⟨⟨by decide +kernel, by decide +kernel⟩, List.mem_of_getElem? (i := 565) (by decide +kernel), List.mem_of_getElem? (i := 717) (by decide +kernel), List.mem_of_getElem? (i := 718) (by decide +kernel)⟩
theorem lw_p24 : lw_okq (⟨"SaidAlreadyModel", "foundOf", "(I)I"⟩, 28) := ⟨⟨by decide +kernel, by decide +kernel⟩, List.mem_of_getElem? (i := 565) (by decide +kernel), List.mem_of_getElem? (i := 728) (by decide +kernel), List.mem_of_getElem? (i := 729) (by decide +kernel)⟩
theorem lw_p25 : lw_okq (⟨"SaidAlreadyModel", "doesFill", "(II)Z"⟩, 28) := ⟨⟨by decide +kernel, by decide +kernel⟩, List.mem_of_getElem? (i := 565) (by decide +kernel), List.mem_of_getElem? (i := 736) (by decide +kernel), List.mem_of_getElem? (i := 737) (by decide +kernel)⟩
theorem lw_p26 : lw_okq (⟨"SaidAlreadyModel", "priceOf", "(I)I"⟩, 28) := ⟨⟨by decide +kernel, by decide +kernel⟩, List.mem_of_getElem? (i := 565) (by decide +kernel), List.mem_of_getElem? (i := 748) (by decide +kernel), List.mem_of_getElem? (i := 749) (by decide +kernel)⟩
theorem lw_p27 : lw_okq (⟨"SaidAlreadyModel", "layOrders", "()V"⟩, 28) := ⟨⟨by decide +kernel, by decide +kernel⟩, List.mem_of_getElem? (i := 565) (by decide +kernel), List.mem_of_getElem? (i := 759) (by decide +kernel), List.mem_of_getElem? (i := 760) (by decide +kernel)⟩
theorem lw_p28 : lw_okq (⟨"SaidAlreadyModel", "layBeside", "()V"⟩, 28) := ⟨⟨by decide +kernel, by decide +kernel⟩, List.mem_of_getElem? (i := 565) (by decide +kernel), List.mem_of_getElem? (i := 763) (by decide +kernel), List.mem_of_getElem? (i := 764) (by decide +kernel)⟩
theorem lw_p29 : lw_okq (⟨"SaidAlreadyModel", "likeOf", "(II)I"⟩, 28) := ⟨⟨by decide +kernel, by decide +kernel⟩, List.mem_of_getElem? (i := 565) (by decide +kernel), List.mem_of_getElem? (i := 767) (by decide +kernel), List.mem_of_getElem? (i := 768) (by decide +kernel)⟩
theorem lw_p30 : lw_okq (⟨"SaidAlreadyModel", "costs", "(II)I"⟩, 28) := ⟨⟨by decide +kernel, by decide +kernel⟩, List.mem_of_getElem? (i := 565) (by decide +kernel), List.mem_of_getElem? (i := 773) (by decide +kernel), List.mem_of_getElem? (i := 774) (by decide +kernel)⟩
theorem lw_p31 : lw_okq (⟨"SaidAlreadyModel", "layNeeds", "()V"⟩, 28) := ⟨⟨by decide +kernel, by decide +kernel⟩, List.mem_of_getElem? (i := 565) (by decide +kernel), List.mem_of_getElem? (i := 781) (by decide +kernel), List.mem_of_getElem? (i := 782) (by decide +kernel)⟩
def lw_privs_2 : List (MethodName × Nat) := [(⟨"SaidAlready$Memory", "takeText", "(LSaidAlready$Memory;)V"⟩, 12), (⟨"SaidAlready", "toldOfSettings", "(I)I"⟩, 7), (⟨"SaidAlreadyModel", "faultOf", "(I)I"⟩, 28), (⟨"SaidAlreadyModel", "isPair", "(I)Z"⟩, 28), (⟨"SaidAlreadyModel", "isSentence", "(I)Z"⟩, 28), (⟨"SaidAlreadyModel", "farOf", "([III[III)I"⟩, 28), (⟨"SaidAlreadyModel", "matchOf", "(II)I"⟩, 28), (⟨"SaidAlreadyModel", "likePair", "(II)I"⟩, 28), (⟨"SaidAlreadyModel", "foundOf", "(I)I"⟩, 28), (⟨"SaidAlreadyModel", "doesFill", "(II)Z"⟩, 28), (⟨"SaidAlreadyModel", "priceOf", "(I)I"⟩, 28), (⟨"SaidAlreadyModel", "layOrders", "()V"⟩, 28), (⟨"SaidAlreadyModel", "layBeside", "()V"⟩, 28), (⟨"SaidAlreadyModel", "likeOf", "(II)I"⟩, 28), (⟨"SaidAlreadyModel", "costs", "(II)I"⟩, 28), (⟨"SaidAlreadyModel", "layNeeds", "()V"⟩, 28)]
theorem lw_r2 : ∀ q ∈ lw_privs_2, lw_okq q := List.forall_mem_cons.mpr ⟨lw_p16, List.forall_mem_cons.mpr ⟨lw_p17, List.forall_mem_cons.mpr ⟨lw_p18, List.forall_mem_cons.mpr ⟨lw_p19, List.forall_mem_cons.mpr ⟨lw_p20, List.forall_mem_cons.mpr ⟨lw_p21, List.forall_mem_cons.mpr ⟨lw_p22, List.forall_mem_cons.mpr ⟨lw_p23, List.forall_mem_cons.mpr ⟨lw_p24, List.forall_mem_cons.mpr ⟨lw_p25, List.forall_mem_cons.mpr ⟨lw_p26, List.forall_mem_cons.mpr ⟨lw_p27, List.forall_mem_cons.mpr ⟨lw_p28, List.forall_mem_cons.mpr ⟨lw_p29, List.forall_mem_cons.mpr ⟨lw_p30, List.forall_mem_cons.mpr ⟨lw_p31, fun _ h => absurd h List.not_mem_nil⟩⟩⟩⟩⟩⟩⟩⟩⟩⟩⟩⟩⟩⟩⟩⟩
theorem lw_p32 : lw_okq (⟨"SaidAlreadyModel", "isWrong", "(I)Z"⟩, 28) := ⟨⟨by decide +kernel, by decide +kernel⟩, List.mem_of_getElem? (i := 565) (by decide +kernel), List.mem_of_getElem? (i := 799) (by decide +kernel), List.mem_of_getElem? (i := 800) (by decide +kernel)⟩
theorem lw_p33 : lw_okq (⟨"SaidAlreadyModel", "inFirst", "(II)I"⟩, 28) := ⟨⟨by decide +kernel, by decide +kernel⟩, List.mem_of_getElem? (i := 565) (by decide +kernel), List.mem_of_getElem? (i := 803) (by decide +kernel), List.mem_of_getElem? (i := 804) (by decide +kernel)⟩
theorem lw_p34 : lw_okq (⟨"SaidAlreadyModel", "inSecond", "(II)I"⟩, 28) := ⟨⟨by decide +kernel, by decide +kernel⟩, List.mem_of_getElem? (i := 565) (by decide +kernel), List.mem_of_getElem? (i := 807) (by decide +kernel), List.mem_of_getElem? (i := 808) (by decide +kernel)⟩
theorem lw_p35 : lw_okq (⟨"SaidAlreadyModel", "layGoes", "(II)V"⟩, 28) := ⟨⟨by decide +kernel, by decide +kernel⟩, List.mem_of_getElem? (i := 565) (by decide +kernel), List.mem_of_getElem? (i := 817) (by decide +kernel), List.mem_of_getElem? (i := 818) (by decide +kernel)⟩
theorem lw_p36 : lw_okq (⟨"SaidAlreadyModel", "layCosts", "()V"⟩, 28) := ⟨⟨by decide +kernel, by decide +kernel⟩, List.mem_of_getElem? (i := 565) (by decide +kernel), List.mem_of_getElem? (i := 848) (by decide +kernel), List.mem_of_getElem? (i := 849) (by decide +kernel)⟩
theorem lw_p37 : lw_okq (⟨"SaidAlreadyModel", "stepCosts", "(III)I"⟩, 28) := ⟨⟨by decide +kernel, by decide +kernel⟩, List.mem_of_getElem? (i := 565) (by decide +kernel), List.mem_of_getElem? (i := 852) (by decide +kernel), List.mem_of_getElem? (i := 853) (by decide +kernel)⟩
def lw_privs_3 : List (MethodName × Nat) := [(⟨"SaidAlreadyModel", "isWrong", "(I)Z"⟩, 28), (⟨"SaidAlreadyModel", "inFirst", "(II)I"⟩, 28), (⟨"SaidAlreadyModel", "inSecond", "(II)I"⟩, 28), (⟨"SaidAlreadyModel", "layGoes", "(II)V"⟩, 28), (⟨"SaidAlreadyModel", "layCosts", "()V"⟩, 28), (⟨"SaidAlreadyModel", "stepCosts", "(III)I"⟩, 28)]
theorem lw_r3 : ∀ q ∈ lw_privs_3, lw_okq q := List.forall_mem_cons.mpr ⟨lw_p32, List.forall_mem_cons.mpr ⟨lw_p33, List.forall_mem_cons.mpr ⟨lw_p34, List.forall_mem_cons.mpr ⟨lw_p35, List.forall_mem_cons.mpr ⟨lw_p36, List.forall_mem_cons.mpr ⟨lw_p37, fun _ h => absurd h List.not_mem_nil⟩⟩⟩⟩⟩⟩
def lw_privs : List (MethodName × Nat) := lw_privs_1 ++ (lw_privs_2 ++ (lw_privs_3))
def lw_tbl : List Cond := k2_sels lw_privs ++ tables_1
theorem lw_privs_ok : ∀ q ∈ lw_privs, lw_okq q := by
  show ∀ q ∈ lw_privs_1 ++ (lw_privs_2 ++ (lw_privs_3)), lw_okq q
  exact List.forall_mem_append.mpr ⟨lw_r1, List.forall_mem_append.mpr ⟨lw_r2, lw_r3⟩⟩
-- ===== end of PART A; then your names; then what follows =====
end
section
/-! ===== BEGIN words of one list among another's, by their places ===== -/
theorem goodIn_r {big : List Cond} (ws : List Cond) (ps : List Nat) (hp : ws = ps.filterMap (fun i => big[i]?)) (h : ws.all goodWord = true) : GoodIn big ws := by
  intro w hw
  have h1 := List.all_eq_true.mp h w hw
  rw [hp] at hw
  obtain ⟨i, -, hi⟩ := List.mem_filterMap.mp hw
  have hm : w ∈ big := by first | exact List.mem_of_getElem? hi | exact List.getElem?_mem hi
  exact ⟨hm, good_of_word h1⟩
theorem goodIn_app {big a b : List Cond} (ha : GoodIn big a) (hb : GoodIn big b) : GoodIn big (a ++ b) := fun w h => (List.mem_append.mp h).elim (ha w) (hb w)
theorem goodIn_ca {big a b : List Cond} {c : Cond} (ha : GoodIn big (c :: a)) (hb : GoodIn big b) : GoodIn big (c :: (a ++ b)) := fun w h => (List.mem_cons.mp h).elim (fun e => ha w (List.mem_cons.mpr (Or.inl e))) (fun h => (List.mem_append.mp h).elim (fun h => ha w (List.mem_cons.mpr (Or.inr h))) (hb w))
theorem goodIn_sub {big ws : List Cond} (hm : ∀ w ∈ ws, w ∈ big) (h : ws.all goodWord = true) : GoodIn big ws := fun w hw => ⟨hm w hw, good_of_word (List.all_eq_true.mp h w hw)⟩
/-! ===== END ===== -/
def RX0 : String := "SaidAlready$Laying"
def TX0 : u_T := fun k => match k with
  | 0 => ("SaidAlready$Laying", "costs", "[[I", true)
  | 1 => ("SaidAlready$Laying", "ways", "[[J", true)
  | _ => ("SaidAlready$Laying", "steps", "LSaidAlready$Row;", true)
def tyX0 : Nat → FieldType := fun k => match k with
  | 0 => .array (.array .int)
  | 1 => .array (.array .long)
  | _ => .object "SaidAlready$Row"
abbrev wsX00 : List Cond := u_ws RX0 TX0 3
theorem nmX0 : ∀ a, a < 3 → ∀ b, b < 3 → a ≠ b → (TX0 a).2.1 ≠ (TX0 b).2.1 := by decide +kernel
theorem tyX0_ok : ∀ k, k < 3 → parseFieldDescriptor (TX0 k).2.2.1 = some (tyX0 k) := by decide +kernel
abbrev cX0_init : ByteArray := prog_2_method_1_code
def yX0_init : MethodName := ⟨RX0, "<init>", "()V"⟩
abbrev cX0_lay : ByteArray := prog_2_method_2_code
def yX0_lay : MethodName := ⟨RX0, "lay", "(LSaidAlready$Row;LSaidAlready$Row;)V"⟩
abbrev cX0_layFrom : ByteArray := prog_2_method_3_code
def yX0_layFrom : MethodName := ⟨RX0, "layFrom", "(LSaidAlready$Row;ILSaidAlready$Row;I)V"⟩
abbrev cX0_fits : ByteArray := prog_2_method_4_code
def yX0_fits : MethodName := ⟨RX0, "fits", "(LSaidAlready$Row;ILSaidAlready$Row;II)Z"⟩
abbrev cX0_costWith : ByteArray := prog_2_method_5_code
def yX0_costWith : MethodName := ⟨RX0, "costWith", "(LSaidAlready$Row;ILSaidAlready$Row;II)I"⟩
abbrev cX0_together : ByteArray := prog_2_method_6_code
def yX0_together : MethodName := ⟨RX0, "together", "(LSaidAlready$Row;II)I"⟩
abbrev cX0_readSteps : ByteArray := prog_2_method_7_code
def yX0_readSteps : MethodName := ⟨RX0, "readSteps", "(LSaidAlready$Row;LSaidAlready$Row;)V"⟩
abbrev cX0_firstOfLeast : ByteArray := prog_2_method_8_code
def yX0_firstOfLeast : MethodName := ⟨RX0, "firstOfLeast", "(LSaidAlready$Row;ILSaidAlready$Row;I)I"⟩
def RX1 : String := "SaidAlready$Likeness"
def TX1 : u_T := fun k => match k with
  | _ => ("SaidAlready$Likeness", "costs", "[I", true)
def tyX1 : Nat → FieldType := fun k => match k with
  | _ => .array .int
abbrev wsX10 : List Cond := u_ws RX1 TX1 1
theorem nmX1 : ∀ a, a < 1 → ∀ b, b < 1 → a ≠ b → (TX1 a).2.1 ≠ (TX1 b).2.1 := by decide +kernel
theorem tyX1_ok : ∀ k, k < 1 → parseFieldDescriptor (TX1 k).2.2.1 = some (tyX1 k) := by decide +kernel
abbrev cX1_init : ByteArray := prog_3_method_1_code
def yX1_init : MethodName := ⟨RX1, "<init>", "()V"⟩
abbrev cX1_farOf : ByteArray := prog_3_method_2_code
def yX1_farOf : MethodName := ⟨RX1, "farOf", "(LSaidAlready$Row;LSaidAlready$Row;)I"⟩
abbrev cX1_costOfChange : ByteArray := prog_3_method_3_code
def yX1_costOfChange : MethodName := ⟨RX1, "costOfChange", "(II)I"⟩
abbrev cX1_likeOf : ByteArray := prog_3_method_4_code
def yX1_likeOf : MethodName := ⟨RX1, "likeOf", "(LSaidAlready$Row;LSaidAlready$Row;)I"⟩
abbrev cX1_matchOf : ByteArray := prog_3_method_5_code
def yX1_matchOf : MethodName := ⟨RX1, "matchOf", "(LSaidAlready$Memory;II)I"⟩
abbrev cX1_meetPair : ByteArray := prog_3_method_6_code
def yX1_meetPair : MethodName := ⟨RX1, "meetPair", "(LSaidAlready$Memory;I)V"⟩
abbrev cX1_meetSentence : ByteArray := prog_3_method_7_code
def yX1_meetSentence : MethodName := ⟨RX1, "meetSentence", "(LSaidAlready$Memory;I)V"⟩
abbrev cX1_likeButForNumbers : ByteArray := prog_3_method_8_code
def yX1_likeButForNumbers : MethodName := ⟨RX1, "likeButForNumbers", "(LSaidAlready$Row;LSaidAlready$Row;)Z"⟩
def RX2 : String := "SaidAlready$Memory"
def TX2 : u_T := fun k => match k with
  | 0 => ("SaidAlready$Memory", "first", "[LSaidAlready$Row;", true)
  | 1 => ("SaidAlready$Memory", "second", "[LSaidAlready$Row;", true)
  | 2 => ("SaidAlready$Memory", "behind", "[I", true)
  | 3 => ("SaidAlready$Memory", "text", "[LSaidAlready$Row;", true)
  | 4 => ("SaidAlready$Memory", "matches", "[[I", true)
  | 5 => ("SaidAlready$Memory", "likes", "[[I", true)
  | 6 => ("SaidAlready$Memory", "rates", "[I", true)
  | 7 => ("SaidAlready$Memory", "musts", "[I", true)
  | 8 => ("SaidAlready$Memory", "lengthsOfOne", "LSaidAlready$Row;", true)
  | 9 => ("SaidAlready$Memory", "lengthsOfOther", "LSaidAlready$Row;", true)
  | 10 => ("SaidAlready$Memory", "pairs", "I", false)
  | _ => ("SaidAlready$Memory", "sentences", "I", false)
def tyX2 : Nat → FieldType := fun k => match k with
  | 0 => .array (.object "SaidAlready$Row")
  | 1 => .array (.object "SaidAlready$Row")
  | 2 => .array .int
  | 3 => .array (.object "SaidAlready$Row")
  | 4 => .array (.array .int)
  | 5 => .array (.array .int)
  | 6 => .array .int
  | 7 => .array .int
  | 8 => .object "SaidAlready$Row"
  | 9 => .object "SaidAlready$Row"
  | 10 => .int
  | _ => .int
abbrev wsX20 : List Cond := u_ws RX2 TX2 12
theorem nmX2 : ∀ a, a < 12 → ∀ b, b < 12 → a ≠ b → (TX2 a).2.1 ≠ (TX2 b).2.1 := by decide +kernel
theorem tyX2_ok : ∀ k, k < 12 → parseFieldDescriptor (TX2 k).2.2.1 = some (tyX2 k) := by decide +kernel
abbrev cX2_init : ByteArray := prog_4_method_1_code
def yX2_init : MethodName := ⟨RX2, "<init>", "()V"⟩
abbrev cX2_isPair : ByteArray := prog_4_method_2_code
def yX2_isPair : MethodName := ⟨RX2, "isPair", "(I)Z"⟩
abbrev cX2_isSentence : ByteArray := prog_4_method_3_code
def yX2_isSentence : MethodName := ⟨RX2, "isSentence", "(I)Z"⟩
abbrev cX2_bestFor : ByteArray := prog_4_method_4_code
def yX2_bestFor : MethodName := ⟨RX2, "bestFor", "(I)I"⟩
abbrev cX2_standsAsBefore : ByteArray := prog_4_method_5_code
def yX2_standsAsBefore : MethodName := ⟨RX2, "standsAsBefore", "(II)Z"⟩
abbrev cX2_take : ByteArray := prog_4_method_6_code
def yX2_take : MethodName := ⟨RX2, "take", "(LSaidAlready$Memory;)V"⟩
abbrev cX2_takePairs : ByteArray := prog_4_method_7_code
def yX2_takePairs : MethodName := ⟨RX2, "takePairs", "(LSaidAlready$Memory;)V"⟩
abbrev cX2_takeText : ByteArray := prog_4_method_8_code
def yX2_takeText : MethodName := ⟨RX2, "takeText", "(LSaidAlready$Memory;)V"⟩
def RX3 : String := "SaidAlready$Prices"
def TX3 : u_T := fun k => match k with
  | 0 => ("SaidAlready$Prices", "rateByMemory", "[I", true)
  | 1 => ("SaidAlready$Prices", "helpers", "[[I", true)
  | 2 => ("SaidAlready$Prices", "priceOfRest", "[I", true)
  | 3 => ("SaidAlready$Prices", "nextBehind", "[I", true)
  | 4 => ("SaidAlready$Prices", "needed", "[I", true)
  | _ => ("SaidAlready$Prices", "sequence", "LSaidAlready$Row;", true)
def tyX3 : Nat → FieldType := fun k => match k with
  | 0 => .array .int
  | 1 => .array (.array .int)
  | 2 => .array .int
  | 3 => .array .int
  | 4 => .array .int
  | _ => .object "SaidAlready$Row"
abbrev wsX30 : List Cond := u_ws RX3 TX3 6
theorem nmX3 : ∀ a, a < 6 → ∀ b, b < 6 → a ≠ b → (TX3 a).2.1 ≠ (TX3 b).2.1 := by decide +kernel
theorem tyX3_ok : ∀ k, k < 6 → parseFieldDescriptor (TX3 k).2.2.1 = some (tyX3 k) := by decide +kernel
abbrev cX3_init : ByteArray := prog_5_method_1_code
def yX3_init : MethodName := ⟨RX3, "<init>", "()V"⟩
abbrev cX3_bandOf : ByteArray := prog_5_method_2_code
def yX3_bandOf : MethodName := ⟨RX3, "bandOf", "(I)I"⟩
abbrev cX3_bandFound : ByteArray := prog_5_method_3_code
def yX3_bandFound : MethodName := ⟨RX3, "bandFound", "(LSaidAlready$Memory;I)I"⟩
abbrev cX3_ofSentence : ByteArray := prog_5_method_4_code
def yX3_ofSentence : MethodName := ⟨RX3, "ofSentence", "(LSaidAlready$Memory;I)I"⟩
abbrev cX3_ofText : ByteArray := prog_5_method_5_code
def yX3_ofText : MethodName := ⟨RX3, "ofText", "(LSaidAlready$Memory;)I"⟩
abbrev cX3_putInOrder : ByteArray := prog_5_method_6_code
def yX3_putInOrder : MethodName := ⟨RX3, "putInOrder", "(LSaidAlready$Memory;)V"⟩
abbrev cX3_least : ByteArray := prog_5_method_7_code
def yX3_least : MethodName := ⟨RX3, "least", "()I"⟩
abbrev cX3_readRatesByMemory : ByteArray := prog_5_method_8_code
def yX3_readRatesByMemory : MethodName := ⟨RX3, "readRatesByMemory", "(LSaidAlready$Memory;)V"⟩
abbrev cX3_readHelpers : ByteArray := prog_5_method_9_code
def yX3_readHelpers : MethodName := ⟨RX3, "readHelpers", "(LSaidAlready$Memory;)V"⟩
abbrev cX3_chooseNext : ByteArray := prog_5_method_10_code
def yX3_chooseNext : MethodName := ⟨RX3, "chooseNext", "(LSaidAlready$Memory;I)V"⟩
abbrev cX3_priceWith : ByteArray := prog_5_method_11_code
def yX3_priceWith : MethodName := ⟨RX3, "priceWith", "(LSaidAlready$Memory;II)I"⟩
abbrev cX3_fewestPairs : ByteArray := prog_5_method_12_code
def yX3_fewestPairs : MethodName := ⟨RX3, "fewestPairs", "(LSaidAlready$Memory;)I"⟩
abbrev cX3_readNeeded : ByteArray := prog_5_method_13_code
def yX3_readNeeded : MethodName := ⟨RX3, "readNeeded", "(LSaidAlready$Memory;)V"⟩
abbrev cX3_isEnough : ByteArray := prog_5_method_14_code
def yX3_isEnough : MethodName := ⟨RX3, "isEnough", "(LSaidAlready$Memory;I)Z"⟩
def RX4 : String := "SaidAlready$Row"
def TX4 : u_T := fun k => match k with
  | 0 => ("SaidAlready$Row", "values", "[I", true)
  | _ => ("SaidAlready$Row", "size", "I", false)
def tyX4 : Nat → FieldType := fun k => match k with
  | 0 => .array .int
  | _ => .int
abbrev wsX40 : List Cond := u_ws RX4 TX4 2
theorem nmX4 : ∀ a, a < 2 → ∀ b, b < 2 → a ≠ b → (TX4 a).2.1 ≠ (TX4 b).2.1 := by decide +kernel
theorem tyX4_ok : ∀ k, k < 2 → parseFieldDescriptor (TX4 k).2.2.1 = some (tyX4 k) := by decide +kernel
abbrev cX4_init : ByteArray := prog_6_method_1_code
def yX4_init : MethodName := ⟨RX4, "<init>", "(I)V"⟩
abbrev cX4_add : ByteArray := prog_6_method_2_code
def yX4_add : MethodName := ⟨RX4, "add", "(I)Z"⟩
abbrev cX4_at : ByteArray := prog_6_method_3_code
def yX4_at : MethodName := ⟨RX4, "at", "(I)I"⟩
abbrev cX4_put : ByteArray := prog_6_method_4_code
def yX4_put : MethodName := ⟨RX4, "put", "(II)V"⟩
abbrev cX4_placeOf : ByteArray := prog_6_method_5_code
def yX4_placeOf : MethodName := ⟨RX4, "placeOf", "(I)I"⟩
abbrev cX4_timesOf : ByteArray := prog_6_method_6_code
def yX4_timesOf : MethodName := ⟨RX4, "timesOf", "(I)I"⟩
abbrev cX4_sameAs : ByteArray := prog_6_method_7_code
def yX4_sameAs : MethodName := ⟨RX4, "sameAs", "(LSaidAlready$Row;)Z"⟩
abbrev cX4_takePart : ByteArray := prog_6_method_8_code
def yX4_takePart : MethodName := ⟨RX4, "takePart", "(LSaidAlready$Row;II)V"⟩
abbrev cX4_take : ByteArray := prog_6_method_9_code
def yX4_take : MethodName := ⟨RX4, "take", "(LSaidAlready$Row;)V"⟩
def RX5 : String := "SaidAlready$Words"
def TX5 : u_T := fun k => match k with
  | _ => ("", "", "", false)
def tyX5 : Nat → FieldType := fun k => match k with
  | _ => .int
abbrev wsX50 : List Cond := u_ws RX5 TX5 0
theorem nmX5 : ∀ a, a < 0 → ∀ b, b < 0 → a ≠ b → (TX5 a).2.1 ≠ (TX5 b).2.1 := by decide +kernel
theorem tyX5_ok : ∀ k, k < 0 → parseFieldDescriptor (TX5 k).2.2.1 = some (tyX5 k) := by decide +kernel
abbrev cX5_isWrong : ByteArray := prog_7_method_2_code
def yX5_isWrong : MethodName := ⟨RX5, "isWrong", "(LSaidAlready$Memory;I)Z"⟩
abbrev cX5_inFirst : ByteArray := prog_7_method_3_code
def yX5_inFirst : MethodName := ⟨RX5, "inFirst", "(LSaidAlready$Memory;II)Z"⟩
abbrev cX5_inSecond : ByteArray := prog_7_method_4_code
def yX5_inSecond : MethodName := ⟨RX5, "inSecond", "(LSaidAlready$Memory;II)Z"⟩
abbrev cX5_pairsWithBoth : ByteArray := prog_7_method_5_code
def yX5_pairsWithBoth : MethodName := ⟨RX5, "pairsWithBoth", "(LSaidAlready$Memory;II)I"⟩
abbrev cX5_pairsWithEither : ByteArray := prog_7_method_6_code
def yX5_pairsWithEither : MethodName := ⟨RX5, "pairsWithEither", "(LSaidAlready$Memory;II)I"⟩
abbrev cX5_lowered : ByteArray := prog_7_method_7_code
def yX5_lowered : MethodName := ⟨RX5, "lowered", "(II)I"⟩
abbrev cX5_goesMost : ByteArray := prog_7_method_8_code
def yX5_goesMost : MethodName := ⟨RX5, "goesMost", "(LSaidAlready$Memory;I)I"⟩
abbrev cX5_change : ByteArray := prog_7_method_9_code
def yX5_change : MethodName := ⟨RX5, "change", "(LSaidAlready$Memory;III)I"⟩
abbrev cX5_changeIn : ByteArray := prog_7_method_10_code
def yX5_changeIn : MethodName := ⟨RX5, "changeIn", "(LSaidAlready$Row;II)I"⟩
def RX6 : String := "SaidAlready"
def TX6 : u_T := fun k => match k with
  | 0 => ("SaidAlready", "pad", "LSaidAlready$Row;", true)
  | 1 => ("SaidAlready", "now", "LSaidAlready$Memory;", true)
  | 2 => ("SaidAlready", "images", "[LSaidAlready$Memory;", true)
  | 3 => ("SaidAlready", "imaged", "[Z", true)
  | 4 => ("SaidAlready", "likeness", "LSaidAlready$Likeness;", true)
  | 5 => ("SaidAlready", "prices", "LSaidAlready$Prices;", true)
  | _ => ("SaidAlready", "laying", "LSaidAlready$Laying;", true)
def tyX6 : Nat → FieldType := fun k => match k with
  | 0 => .object "SaidAlready$Row"
  | 1 => .object "SaidAlready$Memory"
  | 2 => .array (.object "SaidAlready$Memory")
  | 3 => .array .boolean
  | 4 => .object "SaidAlready$Likeness"
  | 5 => .object "SaidAlready$Prices"
  | _ => .object "SaidAlready$Laying"
abbrev wsX60 : List Cond := u_ws RX6 TX6 7
theorem nmX6 : ∀ a, a < 7 → ∀ b, b < 7 → a ≠ b → (TX6 a).2.1 ≠ (TX6 b).2.1 := by decide +kernel
theorem tyX6_ok : ∀ k, k < 7 → parseFieldDescriptor (TX6 k).2.2.1 = some (tyX6 k) := by decide +kernel
abbrev cX6_init : ByteArray := prog_1_method_1_code
def yX6_init : MethodName := ⟨RX6, "<init>", "()V"⟩
abbrev cX6_say : ByteArray := prog_1_method_2_code
def yX6_say : MethodName := ⟨RX6, "say", "(I)I"⟩
abbrev cX6_wipe : ByteArray := prog_1_method_3_code
def yX6_wipe : MethodName := ⟨RX6, "wipe", "()I"⟩
abbrev cX6_fault : ByteArray := prog_1_method_4_code
def yX6_fault : MethodName := ⟨RX6, "fault", "(I)I"⟩
abbrev cX6_keep : ByteArray := prog_1_method_5_code
def yX6_keep : MethodName := ⟨RX6, "keep", "(I)I"⟩
abbrev cX6_write : ByteArray := prog_1_method_6_code
def yX6_write : MethodName := ⟨RX6, "write", "()I"⟩
abbrev cX6_pair : ByteArray := prog_1_method_7_code
def yX6_pair : MethodName := ⟨RX6, "pair", "(II)I"⟩
abbrev cX6_endOfTongue : ByteArray := prog_1_method_8_code
def yX6_endOfTongue : MethodName := ⟨RX6, "endOfTongue", "(II)I"⟩
abbrev cX6_standsIn : ByteArray := prog_1_method_9_code
def yX6_standsIn : MethodName := ⟨RX6, "standsIn", "(II)Z"⟩
abbrev cX6_isNumber : ByteArray := prog_1_method_10_code
def yX6_isNumber : MethodName := ⟨RX6, "isNumber", "(I)Z"⟩
abbrev cX6_isWord : ByteArray := prog_1_method_11_code
def yX6_isWord : MethodName := ⟨RX6, "isWord", "(I)Z"⟩
abbrev cX6_faultAsSentence : ByteArray := prog_1_method_12_code
def yX6_faultAsSentence : MethodName := ⟨RX6, "faultAsSentence", "()I"⟩
abbrev cX6_faultAsPair : ByteArray := prog_1_method_13_code
def yX6_faultAsPair : MethodName := ⟨RX6, "faultAsPair", "()I"⟩
abbrev cX6_far : ByteArray := prog_1_method_14_code
def yX6_far : MethodName := ⟨RX6, "far", "(II)I"⟩
abbrev cX6_match : ByteArray := prog_1_method_15_code
def yX6_match : MethodName := ⟨RX6, "match", "(II)I"⟩
abbrev cX6_found : ByteArray := prog_1_method_16_code
def yX6_found : MethodName := ⟨RX6, "found", "(II)I"⟩
abbrev cX6_filled : ByteArray := prog_1_method_17_code
def yX6_filled : MethodName := ⟨RX6, "filled", "(II)I"⟩
abbrev cX6_signFilled : ByteArray := prog_1_method_18_code
def yX6_signFilled : MethodName := ⟨RX6, "signFilled", "(ILSaidAlready$Row;LSaidAlready$Row;)I"⟩
abbrev cX6_rate : ByteArray := prog_1_method_19_code
def yX6_rate : MethodName := ⟨RX6, "rate", "(II)I"⟩
abbrev cX6_price : ByteArray := prog_1_method_20_code
def yX6_price : MethodName := ⟨RX6, "price", "(I)I"⟩
abbrev cX6_order : ByteArray := prog_1_method_21_code
def yX6_order : MethodName := ⟨RX6, "order", "(I)I"⟩
abbrev cX6_kept : ByteArray := prog_1_method_22_code
def yX6_kept : MethodName := ⟨RX6, "kept", "()I"⟩
abbrev cX6_must : ByteArray := prog_1_method_23_code
def yX6_must : MethodName := ⟨RX6, "must", "(II)I"⟩
abbrev cX6_wrongs : ByteArray := prog_1_method_24_code
def yX6_wrongs : MethodName := ⟨RX6, "wrongs", "()I"⟩
abbrev cX6_goes : ByteArray := prog_1_method_25_code
def yX6_goes : MethodName := ⟨RX6, "goes", "(III)J"⟩
abbrev cX6_learnt : ByteArray := prog_1_method_26_code
def yX6_learnt : MethodName := ⟨RX6, "learnt", "(I)I"⟩
abbrev cX6_otherwise : ByteArray := prog_1_method_27_code
def yX6_otherwise : MethodName := ⟨RX6, "otherwise", "(III)I"⟩
abbrev cX6_clash : ByteArray := prog_1_method_28_code
def yX6_clash : MethodName := ⟨RX6, "clash", "()I"⟩
abbrev cX6_length : ByteArray := prog_1_method_29_code
def yX6_length : MethodName := ⟨RX6, "length", "(II)I"⟩
abbrev cX6_lengths : ByteArray := prog_1_method_30_code
def yX6_lengths : MethodName := ⟨RX6, "lengths", "()I"⟩
abbrev cX6_laid : ByteArray := prog_1_method_31_code
def yX6_laid : MethodName := ⟨RX6, "laid", "(I)J"⟩
abbrev cX6_image : ByteArray := prog_1_method_32_code
def yX6_image : MethodName := ⟨RX6, "image", "(I)I"⟩
abbrev cX6_restore : ByteArray := prog_1_method_33_code
def yX6_restore : MethodName := ⟨RX6, "restore", "(I)I"⟩
abbrev cX6_told : ByteArray := prog_1_method_34_code
def yX6_told : MethodName := ⟨RX6, "told", "(I)I"⟩
abbrev cX6_toldOfSettings : ByteArray := prog_1_method_35_code
def yX6_toldOfSettings : MethodName := ⟨RX6, "toldOfSettings", "(I)I"⟩
def RX7 : String := "SaidAlreadyModel"
def TX7 : u_T := fun k => match k with
  | 0 => ("SaidAlreadyModel", "signs", "I", false)
  | 1 => ("SaidAlreadyModel", "pad", "[I", true)
  | 2 => ("SaidAlreadyModel", "pairs", "I", false)
  | 3 => ("SaidAlreadyModel", "behind", "[I", true)
  | 4 => ("SaidAlreadyModel", "firsts", "[I", true)
  | 5 => ("SaidAlreadyModel", "seconds", "[I", true)
  | 6 => ("SaidAlreadyModel", "first", "[I", true)
  | 7 => ("SaidAlreadyModel", "second", "[I", true)
  | 8 => ("SaidAlreadyModel", "sentences", "I", false)
  | 9 => ("SaidAlreadyModel", "sizes", "[I", true)
  | 10 => ("SaidAlreadyModel", "text", "[I", true)
  | 11 => ("SaidAlreadyModel", "rates", "[I", true)
  | 12 => ("SaidAlreadyModel", "musts", "[I", true)
  | 13 => ("SaidAlreadyModel", "many", "[I", true)
  | 14 => ("SaidAlreadyModel", "lengths", "[I", true)
  | 15 => ("SaidAlreadyModel", "half", "I", false)
  | 16 => ("SaidAlreadyModel", "row", "[I", true)
  | 17 => ("SaidAlreadyModel", "foundMatch", "I", false)
  | 18 => ("SaidAlreadyModel", "alone", "[I", true)
  | 19 => ("SaidAlreadyModel", "beside", "[I", true)
  | 20 => ("SaidAlreadyModel", "best", "[I", true)
  | 21 => ("SaidAlreadyModel", "needs", "[I", true)
  | 22 => ("SaidAlreadyModel", "goesUp", "I", false)
  | 23 => ("SaidAlreadyModel", "goesLow", "I", false)
  | 24 => ("SaidAlreadyModel", "cost", "[I", true)
  | 25 => ("SaidAlreadyModel", "ways", "[J", true)
  | 26 => ("SaidAlreadyModel", "image", "[I", true)
  | _ => ("SaidAlreadyModel", "isKept", "[Z", true)
def tyX7 : Nat → FieldType := fun k => match k with
  | 0 => .int
  | 1 => .array .int
  | 2 => .int
  | 3 => .array .int
  | 4 => .array .int
  | 5 => .array .int
  | 6 => .array .int
  | 7 => .array .int
  | 8 => .int
  | 9 => .array .int
  | 10 => .array .int
  | 11 => .array .int
  | 12 => .array .int
  | 13 => .array .int
  | 14 => .array .int
  | 15 => .int
  | 16 => .array .int
  | 17 => .int
  | 18 => .array .int
  | 19 => .array .int
  | 20 => .array .int
  | 21 => .array .int
  | 22 => .int
  | 23 => .int
  | 24 => .array .int
  | 25 => .array .long
  | 26 => .array .int
  | _ => .array .boolean
abbrev wsX70 : List Cond := u_ws RX7 TX7 28
theorem nmX7 : ∀ a, a < 28 → ∀ b, b < 28 → a ≠ b → (TX7 a).2.1 ≠ (TX7 b).2.1 := by decide +kernel
theorem tyX7_ok : ∀ k, k < 28 → parseFieldDescriptor (TX7 k).2.2.1 = some (tyX7 k) := by decide +kernel
abbrev cX7_init : ByteArray := prog_9_method_1_code
def yX7_init : MethodName := ⟨RX7, "<init>", "()V"⟩
abbrev cX7_in : ByteArray := prog_9_method_2_code
def yX7_in : MethodName := ⟨RX7, "in", "(III)Z"⟩
abbrev cX7_isPair : ByteArray := prog_9_method_3_code
def yX7_isPair : MethodName := ⟨RX7, "isPair", "(I)Z"⟩
abbrev cX7_isSentence : ByteArray := prog_9_method_4_code
def yX7_isSentence : MethodName := ⟨RX7, "isSentence", "(I)Z"⟩
abbrev cX7_isWord : ByteArray := prog_9_method_5_code
def yX7_isWord : MethodName := ⟨RX7, "isWord", "(I)Z"⟩
abbrev cX7_isNumber : ByteArray := prog_9_method_6_code
def yX7_isNumber : MethodName := ⟨RX7, "isNumber", "(I)Z"⟩
abbrev cX7_say : ByteArray := prog_9_method_7_code
def yX7_say : MethodName := ⟨RX7, "say", "(I)I"⟩
abbrev cX7_wipe : ByteArray := prog_9_method_8_code
def yX7_wipe : MethodName := ⟨RX7, "wipe", "()I"⟩
abbrev cX7_faultOf : ByteArray := prog_9_method_9_code
def yX7_faultOf : MethodName := ⟨RX7, "faultOf", "(I)I"⟩
abbrev cX7_fault : ByteArray := prog_9_method_10_code
def yX7_fault : MethodName := ⟨RX7, "fault", "(I)I"⟩
abbrev cX7_keep : ByteArray := prog_9_method_11_code
def yX7_keep : MethodName := ⟨RX7, "keep", "(I)I"⟩
abbrev cX7_write : ByteArray := prog_9_method_12_code
def yX7_write : MethodName := ⟨RX7, "write", "()I"⟩
abbrev cX7_pair : ByteArray := prog_9_method_13_code
def yX7_pair : MethodName := ⟨RX7, "pair", "(II)I"⟩
abbrev cX7_changes : ByteArray := prog_9_method_14_code
def yX7_changes : MethodName := ⟨RX7, "changes", "(II)I"⟩
abbrev cX7_farOf : ByteArray := prog_9_method_15_code
def yX7_farOf : MethodName := ⟨RX7, "farOf", "([III[III)I"⟩
abbrev cX7_like : ByteArray := prog_9_method_16_code
def yX7_like : MethodName := ⟨RX7, "like", "(III)I"⟩
abbrev cX7_far : ByteArray := prog_9_method_17_code
def yX7_far : MethodName := ⟨RX7, "far", "(II)I"⟩
abbrev cX7_likeOf : ByteArray := prog_9_method_18_code
def yX7_likeOf : MethodName := ⟨RX7, "likeOf", "(II)I"⟩
abbrev cX7_likePair : ByteArray := prog_9_method_19_code
def yX7_likePair : MethodName := ⟨RX7, "likePair", "(II)I"⟩
abbrev cX7_matchOf : ByteArray := prog_9_method_20_code
def yX7_matchOf : MethodName := ⟨RX7, "matchOf", "(II)I"⟩
abbrev cX7_match : ByteArray := prog_9_method_21_code
def yX7_match : MethodName := ⟨RX7, "match", "(II)I"⟩
abbrev cX7_foundOf : ByteArray := prog_9_method_22_code
def yX7_foundOf : MethodName := ⟨RX7, "foundOf", "(I)I"⟩
abbrev cX7_found : ByteArray := prog_9_method_23_code
def yX7_found : MethodName := ⟨RX7, "found", "(II)I"⟩
abbrev cX7_doesFill : ByteArray := prog_9_method_24_code
def yX7_doesFill : MethodName := ⟨RX7, "doesFill", "(II)Z"⟩
abbrev cX7_filled : ByteArray := prog_9_method_25_code
def yX7_filled : MethodName := ⟨RX7, "filled", "(II)I"⟩
abbrev cX7_band : ByteArray := prog_9_method_26_code
def yX7_band : MethodName := ⟨RX7, "band", "(I)I"⟩
abbrev cX7_rate : ByteArray := prog_9_method_27_code
def yX7_rate : MethodName := ⟨RX7, "rate", "(II)I"⟩
abbrev cX7_priceOf : ByteArray := prog_9_method_28_code
def yX7_priceOf : MethodName := ⟨RX7, "priceOf", "(I)I"⟩
abbrev cX7_price : ByteArray := prog_9_method_29_code
def yX7_price : MethodName := ⟨RX7, "price", "(I)I"⟩
abbrev cX7_layBeside : ByteArray := prog_9_method_30_code
def yX7_layBeside : MethodName := ⟨RX7, "layBeside", "()V"⟩
abbrev cX7_costs : ByteArray := prog_9_method_31_code
def yX7_costs : MethodName := ⟨RX7, "costs", "(II)I"⟩
abbrev cX7_layOrders : ByteArray := prog_9_method_32_code
def yX7_layOrders : MethodName := ⟨RX7, "layOrders", "()V"⟩
abbrev cX7_order : ByteArray := prog_9_method_33_code
def yX7_order : MethodName := ⟨RX7, "order", "(I)I"⟩
abbrev cX7_bits : ByteArray := prog_9_method_34_code
def yX7_bits : MethodName := ⟨RX7, "bits", "(I)I"⟩
abbrev cX7_layNeeds : ByteArray := prog_9_method_35_code
def yX7_layNeeds : MethodName := ⟨RX7, "layNeeds", "()V"⟩
abbrev cX7_kept : ByteArray := prog_9_method_36_code
def yX7_kept : MethodName := ⟨RX7, "kept", "()I"⟩
abbrev cX7_must : ByteArray := prog_9_method_37_code
def yX7_must : MethodName := ⟨RX7, "must", "(II)I"⟩
abbrev cX7_inFirst : ByteArray := prog_9_method_38_code
def yX7_inFirst : MethodName := ⟨RX7, "inFirst", "(II)I"⟩
abbrev cX7_inSecond : ByteArray := prog_9_method_39_code
def yX7_inSecond : MethodName := ⟨RX7, "inSecond", "(II)I"⟩
abbrev cX7_isWrong : ByteArray := prog_9_method_40_code
def yX7_isWrong : MethodName := ⟨RX7, "isWrong", "(I)Z"⟩
abbrev cX7_wrongs : ByteArray := prog_9_method_41_code
def yX7_wrongs : MethodName := ⟨RX7, "wrongs", "()I"⟩
abbrev cX7_layGoes : ByteArray := prog_9_method_42_code
def yX7_layGoes : MethodName := ⟨RX7, "layGoes", "(II)V"⟩
abbrev cX7_goes : ByteArray := prog_9_method_43_code
def yX7_goes : MethodName := ⟨RX7, "goes", "(III)J"⟩
abbrev cX7_learnt : ByteArray := prog_9_method_44_code
def yX7_learnt : MethodName := ⟨RX7, "learnt", "(I)I"⟩
abbrev cX7_otherwise : ByteArray := prog_9_method_45_code
def yX7_otherwise : MethodName := ⟨RX7, "otherwise", "(III)I"⟩
abbrev cX7_areAlike : ByteArray := prog_9_method_46_code
def yX7_areAlike : MethodName := ⟨RX7, "areAlike", "([IIIII)Z"⟩
abbrev cX7_clash : ByteArray := prog_9_method_47_code
def yX7_clash : MethodName := ⟨RX7, "clash", "()I"⟩
abbrev cX7_length : ByteArray := prog_9_method_48_code
def yX7_length : MethodName := ⟨RX7, "length", "(II)I"⟩
abbrev cX7_lengths : ByteArray := prog_9_method_49_code
def yX7_lengths : MethodName := ⟨RX7, "lengths", "()I"⟩
abbrev cX7_ofOne : ByteArray := prog_9_method_50_code
def yX7_ofOne : MethodName := ⟨RX7, "ofOne", "(I)I"⟩
abbrev cX7_ofOther : ByteArray := prog_9_method_51_code
def yX7_ofOther : MethodName := ⟨RX7, "ofOther", "(I)I"⟩
abbrev cX7_besides : ByteArray := prog_9_method_52_code
def yX7_besides : MethodName := ⟨RX7, "besides", "(I)I"⟩
abbrev cX7_stepCosts : ByteArray := prog_9_method_53_code
def yX7_stepCosts : MethodName := ⟨RX7, "stepCosts", "(III)I"⟩
abbrev cX7_layCosts : ByteArray := prog_9_method_54_code
def yX7_layCosts : MethodName := ⟨RX7, "layCosts", "()V"⟩
abbrev cX7_laid : ByteArray := prog_9_method_55_code
def yX7_laid : MethodName := ⟨RX7, "laid", "(I)J"⟩
abbrev cX7_image : ByteArray := prog_9_method_56_code
def yX7_image : MethodName := ⟨RX7, "image", "(I)I"⟩
abbrev cX7_restore : ByteArray := prog_9_method_57_code
def yX7_restore : MethodName := ⟨RX7, "restore", "(I)I"⟩
abbrev cX7_told : ByteArray := prog_9_method_58_code
def yX7_told : MethodName := ⟨RX7, "told", "(I)I"⟩
def RJ6 : String := "java/lang/Integer"
def TJ6 : u_T := fun k => match k with
  | _ => ("", "", "", false)
def tyJ6 : Nat → FieldType := fun k => match k with
  | _ => .int
abbrev wsJ60 : List Cond := u_ws RJ6 TJ6 0
theorem nmJ6 : ∀ a, a < 0 → ∀ b, b < 0 → a ≠ b → (TJ6 a).2.1 ≠ (TJ6 b).2.1 := by decide +kernel
theorem tyJ6_ok : ∀ k, k < 0 → parseFieldDescriptor (TJ6 k).2.2.1 = some (tyJ6 k) := by decide +kernel
abbrev cJ6_bitCount_0f7a4 : ByteArray := prog_10_method_49_code
def yJ6_bitCount_0f7a4 : MethodName := ⟨RJ6, "bitCount", "(I)I"⟩
def RJ9 : String := "java/lang/Math"
def TJ9 : u_T := fun k => match k with
  | _ => ("", "", "", false)
def tyJ9 : Nat → FieldType := fun k => match k with
  | _ => .int
abbrev wsJ90 : List Cond := u_ws RJ9 TJ9 0
theorem nmJ9 : ∀ a, a < 0 → ∀ b, b < 0 → a ≠ b → (TJ9 a).2.1 ≠ (TJ9 b).2.1 := by decide +kernel
theorem tyJ9_ok : ∀ k, k < 0 → parseFieldDescriptor (TJ9 k).2.2.1 = some (tyJ9 k) := by decide +kernel
abbrev cJ9_abs_0f7a4 : ByteArray := prog_11_method_59_code
def yJ9_abs_0f7a4 : MethodName := ⟨RJ9, "abs", "(I)I"⟩
abbrev cJ9_max_7cf53 : ByteArray := prog_11_method_65_code
def yJ9_max_7cf53 : MethodName := ⟨RJ9, "max", "(II)I"⟩
abbrev cJ9_min_7cf53 : ByteArray := prog_11_method_69_code
def yJ9_min_7cf53 : MethodName := ⟨RJ9, "min", "(II)I"⟩
def RL : String := "SaidAlreadyLaw"
abbrev cL_law : ByteArray := code
def yL_law : MethodName := ⟨RL, "law", "([I)Z"⟩
end
section
/-! ===== the flat store: what the cells are, by number ===== -/
abbrev zz_SK : Type := (Nat × List (Option (Option Nat))) ⊕ (Nat × Nat × List (Option Nat))
abbrev zz_St : Type := List zz_SK × (Nat → Nat → Int32) × (Nat → Nat → Int64)
abbrev zz_MD : Type := MethodName × ByteArray × Nat × Option FieldType × Nat
def zz_WG : List Cond := lw_tbl.filter goodWord
theorem zz_good : GoodIn zz_WG zz_WG := fun w h => ⟨h, good_of_word (List.mem_filter.mp h).2⟩
abbrev zz_ws1 (M : zz_MD) : List Cond := Cond.code M.1 M.2.1 M.2.2.1 M.2.2.2.1 :: zz_WG
abbrev zz_cl : List vw_C := [(RX0, TX0, 3), (RX1, TX1, 1), (RX2, TX2, 12), (RX3, TX3, 6), (RX4, TX4, 2), (RX6, TX6, 7), (RX7, TX7, 28)]
def zz_ad (b : Nat) (ex : Nat → Nat) (k : Nat) : Nat := if k < 100000 then b + k else ex (k - 100000)
def zz_tr (b : Nat) (ex : Nat → Nat) (v : Value) : Value := match v with
  | .ref k => .ref (zz_ad b ex k)
  | w => w
def zz_fv (b : Nat) (ex : Nat → Nat) (g : Nat → Int32) (j : Nat) (x : Option (Option Nat)) : Value := match x with
  | none => .int (g j)
  | some none => .null
  | some (some q) => .ref (zz_ad b ex q)
def zz_ar (b : Nat) (ex : Nat → Nat) (g : Nat → Int32) (h : Nat → Int64) (tg : Nat) (rs : List (Option Nat)) : ((Nat → Int32) ⊕ (Nat → Int64) ⊕ (Nat → UInt32) ⊕ (Nat → UInt64) ⊕ (Nat → Option Nat)) := match tg with
  | 0 => .inl g
  | 1 => .inr (.inl h)
  | 2 => .inl g
  | _ => .inr (.inr (.inr (.inr (fun j => (rs[j]?.join).map (zz_ad b ex)))))
def zz_e (cA : Nat → ClassId) (b : Nat) (ex : Nat → Nat) (g : Nat → Int32) (h : Nat → Int64) (x : zz_SK) : va_E := match x with
  | .inl o => .inr (o.1, o.2.mapIdx (fun j y => zz_fv b ex g j y))
  | .inr a => .inl (cA a.1, a.2.1, zz_ar b ex g h a.1 a.2.2)
def zz_ws (cA : Nat → ClassId) (b : Nat) (ex : Nat → Nat) (σ : zz_St) : va_W := σ.1.mapIdx (fun k x => (b + k, zz_e cA b ex (σ.2.1 k) (σ.2.2 k) x))
theorem zz_ws_at (cA : Nat → ClassId) (b : Nat) (ex : Nat → Nat) (σ : zz_St) (k : Nat) : (zz_ws cA b ex σ)[k]? = (σ.1[k]?).map (fun x => (b + k, zz_e cA b ex (σ.2.1 k) (σ.2.2 k) x)) := by
  simp [zz_ws]
theorem zz_ws_get {cA : Nat → ClassId} {b : Nat} {ex : Nat → Nat} {σ : zz_St} {k : Nat} {x : zz_SK} (h : σ.1[k]? = some x) : (zz_ws cA b ex σ)[k]? = some (b + k, zz_e cA b ex (σ.2.1 k) (σ.2.2 k) x) := by
  rw [zz_ws_at, h]; rfl
theorem zz_ws_D (cA : Nat → ClassId) (b : Nat) (ex : Nat → Nat) (σ : zz_St) : va_D (fun q => b ≤ q) (zz_ws cA b ex σ) := by
  refine ⟨fun i j p q hi hj h => ?_, fun k q hk => ?_⟩
  · rw [zz_ws_at] at hi hj
    obtain ⟨x, -, rfl⟩ := Option.map_eq_some_iff.mp hi
    obtain ⟨y, -, rfl⟩ := Option.map_eq_some_iff.mp hj
    have h9 : b + i = b + j := h
    omega
  · rw [zz_ws_at] at hk
    obtain ⟨x, -, rfl⟩ := Option.map_eq_some_iff.mp hk
    exact Nat.le_add_right b k
def zz_tys (cA : Nat → ClassId) : List (ClassId × FieldType) := [(cA 0, .int), (cA 1, .long), (cA 2, .boolean), (cA 3, .object RX4), (cA 4, .object RX2), (cA 5, .array .int), (cA 6, .array .long)]
def zz_nest : List Cond := [.methodLinkNest "SaidAlready$Likeness" 34 yX6_isNumber "SaidAlready"]
def zz_K (D : va_G) (cA : Nat → ClassId) (U : State) : Prop := va_K D zz_cl (zz_tys cA) U ∧ ∀ w ∈ zz_nest, va_Nw w U
def zz_xs (sc : Nat × (Nat → Int32)) (i : Nat) : Nat × (Nat → Int32) := match i with
  | 0 => sc
  | 1 => (6, fun j => ([1, 1, 0, 2, 1, 2] : List Int32).getD j 0)
  | 2 => (6, fun j => ([1, 0, 1, 1, 2, 2] : List Int32).getD j 0)
  | _ => (6, fun j => ([0, 30, 30, 10, 10, 15] : List Int32).getD j 0)
def zz_sn (i : Nat) : String := match i with
  | 1 => "OF_ONE"
  | 2 => "OF_OTHER"
  | _ => "BESIDES"
def zz_X (b : Nat) (ex : Nat → Nat) (sc : Nat × (Nat → Int32)) (U : State) (H : Heap) : Prop := (∀ i, i < 4 → ex i < b ∧ va_X (ex i) (zz_xs sc i).1 (zz_xs sc i).2 U H) ∧ ∀ i, 1 ≤ i → i < 4 → va_Z RX0 (zz_sn i) "[I" (.ref (ex i)) (fun q => b ≤ q) U H
def zz_R (D : va_G) (cA : Nat → ClassId) (b : Nat) (ex : Nat → Nat) (σ : zz_St) (H0 H : Heap) (locs : List Loc) : Prop := H.size = b + σ.1.length ∧ σ.1.length < 100000 ∧ va_P D zz_cl (zz_ws cA b ex σ) H ∧ va_S (fun q => b ≤ q) H0 H locs
def zz_L (b : Nat) (ex : Nat → Nat) (ls : Array Slot) (nL : Nat) (L : List (Option Value)) : Prop := ls.size = nL ∧ lv_wf ls ∧ L.length = nL ∧ ∀ (i : Nat) (v : Value), L[i]? = some (some v) → ls[i]? = some (.val (zz_tr b ex v))
def zz_C (p : Program) (s : State) (m : MethodId) (args : Array Value) (meth : Method) (c : Code) (D : va_G) (cA : Nat → ClassId) (b : Nat) (ex : Nat → Nat) (sc : Nat × (Nat → Int32)) (M : zz_MD) : Prop :=
  p.tables.exec = Jvm.exec ∧ c.code = M.2.1 ∧ c.maxLocals = M.2.2.1 ∧ s.vm.findClass M.1.cls = some m.cls ∧ (∀ w ∈ zz_WG, w.before args s = true) ∧ zz_K D cA s ∧ zz_X b ex sc s s.heap ∧ b ≤ s.heap.size ∧ meth.name = M.1.name
def zz_rt (M : zz_MD) (pc : Nat) (r : Option Value) : Prop :=
  (M.2.2.2.1 = none ∧ r = none ∧ decode M.2.1 pc = .ok (.return_, 1)) ∨ (M.2.2.2.1 = some .int ∧ ∃ x : Int32, r = some (.int x) ∧ decode M.2.1 pc = .ok (.ireturn, 1)) ∨ (M.2.2.2.1 = some .boolean ∧ ∃ x : Int32, (x = 0 ∨ x = 1) ∧ r = some (.int x) ∧ decode M.2.1 pc = .ok (.ireturn, 1)) ∨ (M.2.2.2.1 = some .long ∧ ∃ x : Int64, r = some (.long x) ∧ decode M.2.1 pc = .ok (.lreturn, 1))
/-- from the place pc of method M, with locals L, stack S and store σ, the method returns, with Q of its answer and store; it makes at most mc cells of ms slots, and goes at most d calls deeper -/
def Ev (sc : Nat × (Nat → Int32)) (d mc ms : Nat) (M : zz_MD) (pc : Nat) (L : List (Option Value)) (S : List Value) (σ : zz_St) (Q : Option Value → zz_St → Prop) : Prop :=
  ∀ (p : Program) (l : Launch) (e : Env) (R : Room) (s : State) (m : MethodId) (args : Array Value) (below : List Frame) (meth : Method) (c : Code) (D : va_G) (cA : Nat → ClassId) (b : Nat) (ex : Nat → Nat) (H : Heap) (locs : List Loc) (cells slots : Nat) (Qt : State → Prop) (ls : Array Slot),
    zz_C p s m args meth c D cA b ex sc M → zz_R D cA b ex σ s.heap H locs → zz_L b ex ls M.2.2.1 L → d ≤ R.frames → 36 * d ≤ R.locals → cells + mc ≤ R.cells → slots + ms ≤ R.slots →
    (∀ (pc' : Nat) (ls' : Array Slot) (r : Option Value) (σ' : zz_St) (H' : Heap) (locs' : List Loc) (cells' slots' : Nat), Q r σ' → zz_R D cA b ex σ' s.heap H' locs' → cells' ≤ cells + mc → slots' ≤ slots + ms → zz_rt M pc' r → W p l e R s m args below meth c H' locs' cells' slots' Qt (F0 m pc' ls' ((r.map (zz_tr b ex)).toList))) →
    W p l e R s m args below meth c H locs cells slots Qt (F0 m pc ls (S.map (zz_tr b ex)))
/-- the contract of a method -/
def EvM (sc : Nat × (Nat → Int32)) (d mc ms : Nat) (M : zz_MD) (as : List Value) (σ : zz_St) (Q : Option Value → zz_St → Prop) : Prop :=
  ∀ (l : Launch) (D : va_G) (cA : Nat → ClassId) (b : Nat) (ex : Nat → Nat),
    Met l M.1 (zz_ws1 M) ({ frames := d, cells := mc, slots := ms, locals := 36 * d } : Room)
      (va_Pc (as.map (zz_tr b ex)) (fun U => zz_K D cA U ∧ zz_X b ex sc U U.heap ∧ b ≤ U.heap.size ∧ U.heap.size = b + σ.1.length ∧ σ.1.length < 100000 ∧ va_P D zz_cl (zz_ws cA b ex σ) U.heap))
      (fun _ st oc t => (∃ (r : Option Value) (σ' : zz_St), oc = .returned (r.map (zz_tr b ex)) ∧ Q r σ' ∧ t.heap.size = b + σ'.1.length ∧ σ'.1.length < 100000 ∧ va_P D zz_cl (zz_ws cA b ex σ') t.heap) ∧ va_F (fun q => b ≤ q) st t) mc ms (fun q => b ≤ q)
theorem zz_tr_i (b : Nat) (ex : Nat → Nat) (x : Int32) : zz_tr b ex (.int x) = .int x := rfl
theorem zz_cat (b : Nat) (ex : Nat → Nat) (v : Value) : (zz_tr b ex v).category = v.category := by cases v <;> rfl
theorem zz_cats (b : Nat) (ex : Nat → Nat) (S : List Value) : ((S.map (zz_tr b ex)).map fun v => v.category).sum = (S.map fun v => v.category).sum := by
  rw [List.map_map]
  congr 1
  apply List.map_congr_left
  intro v _
  exact zz_cat b ex v
theorem zz_Kmove {D : va_G} {cA : Nat → ClassId} {s U : State} (hW : s.WarmedH U.vm) (h : zz_K D cA s) : zz_K D cA U := by
  refine ⟨va_K.moved hW.alike h.1, fun w hw => ?_⟩
  have h1 := h.2 w hw
  simp only [zz_nest, List.mem_cons, List.not_mem_nil, or_false] at hw
  subst hw
  exact va_Nw.warmM hW h1
theorem zz_Kcall {D : va_G} {cA : Nat → ClassId} {u U : State} (h0 : u.vm = U.vm) (h : zz_K D cA u) : zz_K D cA U := by
  refine ⟨va_K.moved (by rw [h0]; exact Vm.Alike.refl U.vm) h.1, fun w hw => ?_⟩
  have h1 := h.2 w hw
  simp only [zz_nest, List.mem_cons, List.not_mem_nil, or_false] at hw
  subst hw
  exact va_Nw.same rfl h0 h1
theorem zz_Xmove {b : Nat} {ex : Nat → Nat} {sc : Nat × (Nat → Int32)} {s U : State} {H H1 : Heap} (hvm : s.vm.Alike U.vm) (hq : ∀ a : Nat, a < b → H1[a]? = H[a]?) (h : zz_X b ex sc s H) : zz_X b ex sc U H1 := by
  refine ⟨fun i hi => ⟨(h.1 i hi).1, ((h.1 i hi).2.kept (hq _ (h.1 i hi).1)).moved hvm⟩, fun i h1 h2 => va_Z.moved hvm ((h.2 i h1 h2).kept (fun a _ ha => hq a (Nat.not_le.mp ha)))⟩
end
section
/-! ===== the locals ===== -/
def zz_lk (L : List (Option Value)) (i : Nat) : Option Value := match L[i]? with
  | some (some v) => some v
  | _ => none
def zz_n2 (L : List (Option Value)) (i : Nat) : Bool := match i with
  | 0 => true
  | j + 1 => match L[j]? with
    | some (some (.long _)) => false
    | some (some (.double _)) => false
    | _ => true
def zz_Ll (b : Nat) (ex : Nat → Nat) (L : List (Option Value)) : List (Nat × Value) := (List.range L.length).filterMap (fun i => (L[i]?.join).map (fun v => (i, zz_tr b ex v)))
theorem zz_lk_spec {L : List (Option Value)} {i : Nat} {v : Value} (h : zz_lk L i = some v) : L[i]? = some (some v) := by
  unfold zz_lk at h
  split at h
  · next w hw => cases h; exact hw
  · cases h
theorem zz_Ll_mem {b : Nat} {ex : Nat → Nat} {L : List (Option Value)} {i : Nat} {v : Value} (h : L[i]? = some (some v)) : (i, zz_tr b ex v) ∈ zz_Ll b ex L := by
  refine List.mem_filterMap.mpr ⟨i, List.mem_range.mpr (List.getElem?_eq_some_iff.mp h).1, ?_⟩
  rw [h]; rfl
theorem zz_Ll_inv {b : Nat} {ex : Nat → Nat} {L : List (Option Value)} {q : Nat × Value} (h : q ∈ zz_Ll b ex L) : ∃ v, L[q.1]? = some (some v) ∧ q.2 = zz_tr b ex v := by
  obtain ⟨i, -, hi⟩ := List.mem_filterMap.mp h
  obtain ⟨v, hv, rfl⟩ := Option.map_eq_some_iff.mp hi
  refine ⟨v, ?_, rfl⟩
  show L[i]? = _
  cases hL : L[i]? with
  | none => rw [hL] at hv; cases hv
  | some w => rw [hL] at hv; exact congrArg some hv
theorem zz_L.has {b : Nat} {ex : Nat → Nat} {ls : Array Slot} {nL : Nat} {L : List (Option Value)} (h : zz_L b ex ls nL L) : lv_has ls nL (zz_Ll b ex L) := by
  refine ⟨h.1, h.2.1, fun q hq => ?_⟩
  obtain ⟨v, h1, h2⟩ := zz_Ll_inv hq
  rw [h2]
  exact h.2.2.2 _ _ h1
theorem zz_L.st1 {b : Nat} {ex : Nat → Nat} {ls ls' : Array Slot} {nL i : Nat} {L : List (Option Value)} {v : Value} (h0 : zz_L b ex ls nL L) (hn : zz_n2 L i = true) (hi : i < L.length) (h : lv_has ls' nL ((i, zz_tr b ex v) :: (zz_Ll b ex L).filter (fun q => !(q.1 == i) && !(q.1 + 1 == i && q.2.category == 2)))) : zz_L b ex ls' nL (L.set i (some v)) := by
  refine ⟨h.1, h.2.1, by rw [List.length_set]; exact h0.2.2.1, fun j w hj => ?_⟩
  by_cases e : j = i
  · subst e
    rw [List.getElem?_set_self hi] at hj
    cases hj
    exact h.2.2 (j, zz_tr b ex v) List.mem_cons_self
  · rw [List.getElem?_set_ne (Ne.symm e)] at hj
    refine h.2.2 (j, zz_tr b ex w) (List.mem_cons_of_mem _ (List.mem_filter.mpr ⟨zz_Ll_mem hj, ?_⟩))
    simp only [Bool.and_eq_true, Bool.not_eq_true', beq_eq_false_iff_ne, ne_eq, Bool.and_eq_false_iff]
    refine ⟨e, ?_⟩
    by_cases e2 : j + 1 = i
    · right
      subst e2
      simp only [zz_n2, hj] at hn
      rw [zz_cat]
      cases w <;> simp_all [Value.category]
    · exact Or.inl e2
theorem zz_L.st2 {b : Nat} {ex : Nat → Nat} {ls ls' : Array Slot} {nL i : Nat} {L : List (Option Value)} {v : Value} (h0 : zz_L b ex ls nL L) (hn : zz_n2 L i = true) (hi : i < L.length) (h : lv_has ls' nL ((i, zz_tr b ex v) :: (zz_Ll b ex L).filter (fun q => !(q.1 == i) && (!(q.1 == i + 1) && !(q.1 + 1 == i && q.2.category == 2))))) : zz_L b ex ls' nL ((L.set i (some v)).set (i + 1) none) := by
  refine ⟨h.1, h.2.1, by rw [List.length_set, List.length_set]; exact h0.2.2.1, fun j w hj => ?_⟩
  by_cases e3 : j = i + 1
  · subst e3
    by_cases h9 : i + 1 < (L.set i (some v)).length
    · rw [List.getElem?_set_self h9] at hj
      cases hj
    · rw [List.getElem?_eq_none (by rw [List.length_set]; omega)] at hj
      cases hj
  rw [List.getElem?_set_ne (Ne.symm e3)] at hj
  by_cases e : j = i
  · subst e
    rw [List.getElem?_set_self hi] at hj
    cases hj
    exact h.2.2 (j, zz_tr b ex v) List.mem_cons_self
  · rw [List.getElem?_set_ne (Ne.symm e)] at hj
    refine h.2.2 (j, zz_tr b ex w) (List.mem_cons_of_mem _ (List.mem_filter.mpr ⟨zz_Ll_mem hj, ?_⟩))
    simp only [Bool.and_eq_true, Bool.not_eq_true', beq_eq_false_iff_ne, ne_eq, Bool.and_eq_false_iff]
    refine ⟨e, e3, ?_⟩
    by_cases e2 : j + 1 = i
    · right
      subst e2
      simp only [zz_n2, hj] at hn
      rw [zz_cat]
      cases w <;> simp_all [Value.category]
    · exact Or.inl e2
/-! ===== the contract out of the walk ===== -/
theorem zz_sl (b : Nat) (ex : Nat → Nat) {as : List Value} (hc1 : as.all (fun v => v.category == 1) = true) : lg_sl (as.map (zz_tr b ex)) = (as.map (zz_tr b ex)).map Slot.val := by
  unfold lg_sl
  induction as with
  | nil => rfl
  | cons v r ih =>
    simp only [List.all_cons, Bool.and_eq_true, beq_iff_eq] at hc1
    simp only [List.map_cons, List.flatMap_cons]
    rw [if_neg (by rw [zz_cat, hc1.1]; decide), ih hc1.2]
    rfl
theorem EvM.of {sc : Nat × (Nat → Int32)} {d mc ms : Nat} {M : zz_MD} {as : List Value} {σ : zz_St} {Q : Option Value → zz_St → Prop} (hy : plainName M.1.cls = true) (hc1 : as.all (fun v => v.category == 1) = true) (hn : as.length ≤ M.2.2.1)
    (h : Ev sc d mc ms M 0 (as.map some ++ List.replicate (M.2.2.1 - as.length) none) [] σ Q) : EvM sc d mc ms M as σ Q := by
  intro l D cA b ex
  refine Met.ofW (cc := M.2.1) (maxL := M.2.2.1) (ret := M.2.2.2.1) hy rfl ?_
  intro p e s m args below meth c s₁ B hml hv
  obtain ⟨rfl, hK, hX, hbl, hsz, hlt, hP⟩ := hv
  have hts := atoms_spec (ws := zz_ws1 M) B.pre
  have hlocks := B.notSynchronized
  have hsl := zz_sl b ex hc1
  have hle := lv_entry (as.map (zz_tr b ex)) (n := M.2.2.1) (by rw [hsl]; simpa using hn)
  rw [lg_entry_eq]
  rw [hsl] at hle ⊢
  generalize hls : (List.map Slot.val (as.map (zz_tr b ex)) ++ List.replicate (M.2.2.1 - (List.map Slot.val (as.map (zz_tr b ex))).length) Slot.unset).toArray = ls at hle ⊢
  have hL : zz_L b ex ls M.2.2.1 (as.map some ++ List.replicate (M.2.2.1 - as.length) none) := by
    refine ⟨hle.1, hle.2.1, by simp; omega, fun i v hi => ?_⟩
    by_cases h9 : i < as.length
    · rw [List.getElem?_append_left (by simpa using h9)] at hi
      rw [← hls]
      simp only [List.getElem?_toArray]
      rw [List.getElem?_append_left (by simpa using h9)]
      simp only [List.getElem?_map] at hi ⊢
      obtain ⟨w, hw, e9⟩ := Option.map_eq_some_iff.mp hi
      cases e9
      rw [hw]; rfl
    · rw [List.getElem?_append_right (by simpa using h9)] at hi
      have := List.eq_of_mem_replicate (List.mem_of_getElem? hi)
      cases this
  refine h p l e _ s m _ below meth c D cA b ex s.heap [] 0 0 _ ls ⟨B.exec, B.bytes, hml, findClass_of_methodNamed B.named, fun w hw => hts w (List.mem_cons_of_mem _ hw), hK, hX, hbl, (name_of_methodNamed B.named B.method).1⟩ ⟨hsz, hlt, hP, va_S.rf⟩ hL (Nat.le_refl _) (Nat.le_refl _) (by show 0 + mc ≤ mc; omega) (by show 0 + ms ≤ ms; omega) ?_
  intro pc' ls' r σ' H' locs' cells' slots' hQ hR hc hs hrt
  refine W.widen (k := mc) (n := ms) (by omega) (by omega) ?_
  obtain ⟨z1, z2, z3, z4⟩ := hR
  rcases hrt with ⟨hr, rfl, hd⟩ | ⟨hr, x, rfl, hd⟩ | ⟨hr, x, h01, rfl, hd⟩ | ⟨hr, x, rfl, hd⟩
  · exact W.vret B.exec B.bytes (B.returns.trans hr) (fun t ht hW => ⟨⟨none, σ', rfl, hQ, by rw [ht]; exact z1, z2, by rw [ht]; exact z3⟩, z4.F ht⟩) z4.2.2 hd
  · exact W.iret B.exec B.bytes (B.returns.trans hr) (fun t ht hW => ⟨⟨some (.int x), σ', rfl, hQ, by rw [ht]; exact z1, z2, by rw [ht]; exact z3⟩, z4.F ht⟩) z4.2.2 hd
  · exact W.zret B.exec B.bytes (B.returns.trans hr) (by rcases h01 with rfl | rfl <;> decide) (fun t ht hW => ⟨⟨some (.int x), σ', rfl, hQ, by rw [ht]; exact z1, z2, by rw [ht]; exact z3⟩, z4.F ht⟩) z4.2.2 hd
  · exact W.lret B.exec B.bytes (B.returns.trans hr) (fun t ht hW => ⟨⟨some (.long x), σ', rfl, hQ, by rw [ht]; exact z1, z2, by rw [ht]; exact z3⟩, z4.F ht⟩) z4.2.2 hd

/-! ===== calls ===== -/
section ZZC
variable {p : Program} {l : Launch} {e : Env} {R : Room} {s : State} {m : MethodId} {args : Array Value} {below : List Frame} {meth : Method} {c : Code} {H : Heap} {locs : List Loc} {cells slots : Nat} {Qt : State → Prop}
theorem zz_go {D : va_G} {cA : Nat → ClassId} {b : Nat} {ex : Nat → Nat} {H0 : Heap} {pc mc ms : Nat} {ls : Array Slot} {rest st0 : List Value} {Q1 : Option Value → zz_St → Prop} {a : Array Value}
    (hr : va_Run p l e R s m args below meth c H locs cells slots mc ms (F0 m pc ls st0) rest (fun st oc t => (∃ (r : Option Value) (σ' : zz_St), oc = .returned (r.map (zz_tr b ex)) ∧ Q1 r σ' ∧ t.heap.size = b + σ'.1.length ∧ σ'.1.length < 100000 ∧ va_P D zz_cl (zz_ws cA b ex σ') t.heap) ∧ va_F (fun q => b ≤ q) st t) (fun q => b ≤ q))
    (hS : va_S (fun q => b ≤ q) H0 H locs)
    (kk : ∀ (r : Option Value) (σ' : zz_St) (H1 : Heap) (locs1 : List Loc), Q1 r σ' → zz_R D cA b ex σ' H0 H1 locs1 → W p l e R s m args below meth c H1 locs1 (cells + mc) (slots + ms) Qt (F0 m (pc + 3) ls ((r.map (zz_tr b ex)).toList ++ rest))) : W p l e R s m args below meth c H locs cells slots Qt (F0 m pc ls st0) := by
  intro T hT X
  obtain ⟨v, st₀, t, T', L, h0, X', hL, e1, e2, ⟨⟨r, σ', hv, hq, z1, z2, z3⟩, hz, hk⟩, st⟩ := hr T hT X
  have hv : v = r.map (zz_tr b ex) := by injection hv
  subst hv
  rw [h0] at hz hk
  obtain ⟨t2, a1, b1⟩ := kk r σ' T'.heap (locs ++ L) hq ⟨by rw [e1]; exact z1, z2, by rw [e1]; exact z3,
    ⟨Nat.le_trans hS.1 (by rw [e1]; exact hz), fun q h1 h2 => by rw [e1, hk q (Nat.lt_of_lt_of_le h1 hS.1) h2]; exact hS.2.1 q h1 h2, fun q hq => by
      rcases List.mem_append.mp hq with h | h
      · exact hS.2.2 q h
      · exact hL q h⟩⟩ T' rfl X'
  exact ⟨t2, st t2 a1, b1⟩
theorem zz_pre {D : va_G} {cA : Nat → ClassId} {b : Nat} {ex : Nat → Nat} {sc : Nat × (Nat → Int32)} {σ : zz_St} {M : zz_MD} (hC : zz_C p s m args meth c D cA b ex sc M) (hR : zz_R D cA b ex σ s.heap H locs) (av : List Value) :
    PreS s H (va_Pc av (fun U => zz_K D cA U ∧ zz_X b ex sc U U.heap ∧ b ≤ U.heap.size ∧ U.heap.size = b + σ.1.length ∧ σ.1.length < 100000 ∧ va_P D zz_cl (zz_ws cA b ex σ) U.heap)) av := by
  obtain ⟨hx, hb, hml, hown, hts, hK, hX, hbl, hnm⟩ := hC
  obtain ⟨z1, z2, z3, z4⟩ := hR
  refine ⟨fun a U g mk q => ?_, fun U hU hW => ?_⟩
  · obtain ⟨q0, q1, q2, q3, q4, q5, q6⟩ := q
    exact ⟨q0, zz_Kcall (u := U) (U := U.calling g mk a) rfl q1, zz_Xmove (s := U) (U := U.calling g mk a) (Vm.Alike.refl U.vm) (fun _ _ => rfl) q2, q3, q4, q5, q6⟩
  · refine ⟨rfl, zz_Kmove hW hK, ?_, by rw [hU, z1]; exact Nat.le_add_right _ _, by rw [hU]; exact z1, z2, by rw [hU]; exact z3⟩
    rw [hU]
    exact zz_Xmove hW.alike (fun a ha => z4.2.1 a (Nat.lt_of_lt_of_le ha hbl) (Nat.not_le.mpr ha)) hX
end ZZC
/-- what a call of an own method needs of the tables -/
def zz_cB (M M' : zz_MD) (idx n : Nat) : Prop := Cond.code M'.1 M'.2.1 M'.2.2.1 M'.2.2.2.1 ∈ zz_WG ∧ Cond.initialized M'.1.cls ∈ zz_WG ∧ Cond.methodLink M.1.cls idx M'.1 ∈ zz_WG ∧ (M'.1.cls ≠ "java/lang/invoke/MethodHandle" ∧ M'.1.cls ≠ "java/lang/invoke/VarHandle" ∧ (parseMethodDescriptor M'.1.desc).map (fun d => d.parameters.length) = some n) ∧ M'.2.2.1 ≤ 17
def zz_cV (M M' : zz_MD) (idx n : Nat) : Prop := zz_cB M M' idx n ∧ Cond.instanceMethod M'.1 ∈ zz_WG ∧ Cond.selects M'.1.cls M'.1 M'.1 ∈ zz_WG
def zz_cS (M M' : zz_MD) (idx n : Nat) : Prop := zz_cB M M' idx n ∧ Cond.static M'.1 ∈ zz_WG
theorem zz_gw {M' : zz_MD} (h : Cond.code M'.1 M'.2.1 M'.2.2.1 M'.2.2.2.1 ∈ zz_WG) : GoodIn zz_WG (zz_ws1 M') := fun w hw => (List.mem_cons.mp hw).elim (fun e => by rw [e]; exact zz_good _ h) (fun h2 => zz_good _ h2)
theorem Ev.callV {sc : Nat × (Nat → Int32)} {d mc1 ms1 mc2 ms2 : Nat} {M : zz_MD} (M' : zz_MD) {pc : Nat} {L : List (Option Value)} {σ : zz_St} {Q : Option Value → zz_St → Prop} {idx n k ci : Nat} (as rest : List Value) {fs : List (Option (Option Nat))} {q : vw_C} (Q1 : Option Value → zz_St → Prop)
    (hcv : zz_cV M M' idx n) (hd : decode M.2.1 pc = .ok (.invokevirtual idx, 3)) (hk : σ.1[k]? = some (.inl (ci, fs))) (hci : zz_cl[ci]? = some q) (hq : q.1 = M'.1.cls) (hn : as.length = n) (hst : (rest.map fun v => v.category).sum ≤ 8)
    (hM : EvM sc d mc1 ms1 M' (.ref k :: as) σ Q1) (kk : ∀ (r : Option Value) (σ' : zz_St), Q1 r σ' → Ev sc (d + 1) mc2 ms2 M (pc + 3) L (r.toList ++ rest) σ' Q) : Ev sc (d + 1) (mc1 + mc2) (ms1 + ms2) M pc L (as.reverse ++ .ref k :: rest) σ Q := by
  intro p l e R s m args below meth c D cA b ex H locs cells slots Qt ls hC hR hL hf hlo hce hsl hret
  obtain ⟨⟨w1, w2, w3, w4, w5⟩, w6, w7⟩ := hcv
  have hC' := hC
  obtain ⟨hx, hb, hml, hown, hts, hK, hX, hbl, hnm⟩ := hC
  have hpre := zz_pre hC' hR ((Value.ref k :: as).map (zz_tr b ex))
  have hk9 : k < σ.1.length := (List.getElem?_eq_some_iff.mp hk).1
  have hadr : zz_ad b ex k = b + k := if_pos (Nat.lt_trans hk9 hR.2.1)
  have hrecv := va_recv hK.1 hR.2.2.1 (ci := ci) (q0 := k) hci (zz_ws_get hk)
  have hstk : (as.reverse ++ Value.ref k :: rest).map (zz_tr b ex) = (as.map (zz_tr b ex)).reverse ++ Value.ref (zz_ad b ex k) :: rest.map (zz_tr b ex) := by
    rw [List.map_append, List.map_reverse]; rfl
  rw [hstk]
  refine zz_go (Q1 := Q1) (a := #[]) (va_runV (C := M'.1.cls) (b := zz_ad b ex k) (As := as.map (zz_tr b ex)) (n := n) ⟨hx, hb, hml, hown, hts⟩ (hM l D cA b ex) ⟨callB_of n hts (zz_gw w1) rfl rfl rfl (hts _ w2) (hts _ w3) w4 ⟨by show d + 1 ≤ R.frames; omega, by show 8 + (M'.2.2.1 + 11) + 36 * d ≤ R.locals; omega⟩, hts _ w6, hts _ w7⟩ ⟨hpre.1, by rw [hadr, ← hq]; exact hrecv, hpre.2⟩ rfl (by rw [List.length_map]; exact hn) hL.1 rfl (lv_room (by rw [zz_cats]; exact hst)) hd ⟨by omega, by omega⟩) hR.2.2.2 ?_
  intro r σ' H1 locs1 hq1 hR1
  have h1 := kk r σ' hq1 p l e R s m args below meth c D cA b ex H1 locs1 (cells + mc1) (slots + ms1) Qt ls hC' hR1 hL hf hlo (by omega) (by omega) (fun pc' ls' r' σ'' H' locs' cells' slots' a1 a2 a3 a4 a5 => hret pc' ls' r' σ'' H' locs' cells' slots' a1 a2 (by omega) (by omega) a5)
  have e9 : (r.toList ++ rest).map (zz_tr b ex) = (r.map (zz_tr b ex)).toList ++ rest.map (zz_tr b ex) := by
    cases r <;> rfl
  rw [e9] at h1
  exact h1
theorem Ev.callS {sc : Nat × (Nat → Int32)} {d mc1 ms1 mc2 ms2 : Nat} {M : zz_MD} (M' : zz_MD) {pc : Nat} {L : List (Option Value)} {σ : zz_St} {Q : Option Value → zz_St → Prop} {idx n : Nat} (as rest : List Value) (Q1 : Option Value → zz_St → Prop)
    (hcv : zz_cS M M' idx n) (hd : decode M.2.1 pc = .ok (.invokestatic idx, 3)) (hn : as.length = n) (hst : (rest.map fun v => v.category).sum ≤ 8)
    (hM : EvM sc d mc1 ms1 M' as σ Q1) (kk : ∀ (r : Option Value) (σ' : zz_St), Q1 r σ' → Ev sc (d + 1) mc2 ms2 M (pc + 3) L (r.toList ++ rest) σ' Q) : Ev sc (d + 1) (mc1 + mc2) (ms1 + ms2) M pc L (as.reverse ++ rest) σ Q := by
  intro p l e R s m args below meth c D cA b ex H locs cells slots Qt ls hC hR hL hf hlo hce hsl hret
  obtain ⟨⟨w1, w2, w3, w4, w5⟩, w6⟩ := hcv
  have hC' := hC
  obtain ⟨hx, hb, hml, hown, hts, hK, hX, hbl, hnm⟩ := hC
  have hpre := zz_pre hC' hR (as.map (zz_tr b ex))
  have hstk : (as.reverse ++ rest).map (zz_tr b ex) = (as.map (zz_tr b ex)).reverse ++ rest.map (zz_tr b ex) := by
    rw [List.map_append, List.map_reverse]
  rw [hstk]
  refine zz_go (Q1 := Q1) (a := #[]) (va_runS (As := as.map (zz_tr b ex)) (n := n) ⟨hx, hb, hml, hown, hts⟩ (hM l D cA b ex) ⟨callB_of n hts (zz_gw w1) rfl rfl rfl (hts _ w2) (hts _ w3) w4 ⟨by show d + 1 ≤ R.frames; omega, by show 8 + (M'.2.2.1 + 11) + 36 * d ≤ R.locals; omega⟩, hts _ w6⟩ hpre rfl (by rw [List.length_map]; exact hn) hL.1 rfl (lv_room (by rw [zz_cats]; exact hst)) hd ⟨by omega, by omega⟩) hR.2.2.2 ?_
  intro r σ' H1 locs1 hq1 hR1
  have h1 := kk r σ' hq1 p l e R s m args below meth c D cA b ex H1 locs1 (cells + mc1) (slots + ms1) Qt ls hC' hR1 hL hf hlo (by omega) (by omega) (fun pc' ls' r' σ'' H' locs' cells' slots' a1 a2 a3 a4 a5 => hret pc' ls' r' σ'' H' locs' cells' slots' a1 a2 (by omega) (by omega) a5)
  have e9 : (r.toList ++ rest).map (zz_tr b ex) = (r.map (zz_tr b ex)).toList ++ rest.map (zz_tr b ex) := by
    cases r <;> rfl
  rw [e9] at h1
  exact h1
end
section
/-! ===== single steps ===== -/
def zz_psh (pc n : Nat) (L : List (Option Value)) (S : List Value) (v : Value) : Option (Nat × List (Option Value) × List Value) := some (pc + n, L, v :: S)
def zz_ld (pc n : Nat) (L : List (Option Value)) (S : List Value) (t : Nat) (i : Nat) : Option (Nat × List (Option Value) × List Value) := match t, zz_lk L i with
  | 0, some (.int x) => some (pc + n, L, .int x :: S)
  | 1, some (.ref x) => some (pc + n, L, .ref x :: S)
  | 2, some (.long x) => some (pc + n, L, .long x :: S)
  | _, _ => none
def zz_so (pc n : Nat) (L : List (Option Value)) (S : List Value) (t : Nat) (i : Nat) : Option (Nat × List (Option Value) × List Value) := match Nat.blt i L.length && zz_n2 L i with
  | false => none
  | true => match t, S with
    | 0, .int x :: r => some (pc + n, L.set i (some (.int x)), r)
    | 1, .ref x :: r => some (pc + n, L.set i (some (.ref x)), r)
    | 2, .long x :: r => match Nat.blt (i + 1) L.length with
      | true => some (pc + n, (L.set i (some (.long x))).set (i + 1) none, r)
      | false => none
    | _, _ => none
def zz_b2 (pc n : Nat) (L : List (Option Value)) (S : List Value) (f : Int32 → Int32 → Int32) : Option (Nat × List (Option Value) × List Value) := match S with
  | .int y :: .int x :: r => some (pc + n, L, .int (f x y) :: r)
  | _ => none
def zz_step (i : Instr) (n pc : Nat) (L : List (Option Value)) (S : List Value) : Option (Nat × List (Option Value) × List Value) := match i with
  | .iload_n k => zz_ld pc n L S 0 k.val
  | .iload k => zz_ld pc n L S 0 k
  | .aload_n k => zz_ld pc n L S 1 k.val
  | .aload k => zz_ld pc n L S 1 k
  | .lload k => zz_ld pc n L S 2 k
  | .istore_n k => zz_so pc n L S 0 k.val
  | .istore k => zz_so pc n L S 0 k
  | .astore_n k => zz_so pc n L S 1 k.val
  | .astore k => zz_so pc n L S 1 k
  | .lstore k => zz_so pc n L S 2 k
  | .iconst v => zz_psh pc n L S (.int (Int32.ofInt v))
  | .bipush v => zz_psh pc n L S (.int (Int8.ofInt v).toInt32)
  | .sipush v => zz_psh pc n L S (.int (Int16.ofInt v).toInt32)
  | .lconst v => zz_psh pc n L S (.long (Int64.ofNat v.val))
  | .iadd => zz_b2 pc n L S (fun x y => x + y)
  | .isub => zz_b2 pc n L S (fun x y => x - y)
  | .imul => zz_b2 pc n L S (fun x y => x * y)
  | .iand => zz_b2 pc n L S (fun x y => x &&& y)
  | .ior => zz_b2 pc n L S (fun x y => x ||| y)
  | .ishl => zz_b2 pc n L S (fun x y => x <<< (y &&& 31))
  | .ishr => zz_b2 pc n L S (fun x y => x >>> (y &&& 31))
  | .iushr => zz_b2 pc n L S (fun x y => (x.toUInt32 >>> (y.toUInt32 &&& Int32.toUInt32 31)).toInt32)
  | .ineg => match S with
    | .int x :: r => some (pc + n, L, .int (-x) :: r)
    | _ => none
  | .i2l => match S with
    | .int x :: r => some (pc + n, L, .long x.toInt64 :: r)
    | _ => none
  | .ladd => match S with
    | .long y :: .long x :: r => some (pc + n, L, .long (x + y) :: r)
    | _ => none
  | .lcmp => match S with
    | .long y :: .long x :: r => some (pc + n, L, .int (lg_cmp x y) :: r)
    | _ => none
  | .iinc k v => match zz_lk L k, (Nat.blt k L.length && zz_n2 L k) with
    | some (.int x), true => some (pc + n, L.set k (some (.int (x + Int32.ofInt v))), S)
    | _, _ => none
  | .dup => match S with
    | .int x :: r => some (pc + n, L, .int x :: .int x :: r)
    | .ref x :: r => some (pc + n, L, .ref x :: .ref x :: r)
    | _ => none
  | .dup2 => match S with
    | .int x :: .int y :: r => some (pc + n, L, .int x :: .int y :: .int x :: .int y :: r)
    | .int x :: .ref y :: r => some (pc + n, L, .int x :: .ref y :: .int x :: .ref y :: r)
    | _ => none
  | .pop => match S with
    | .int _ :: r => some (pc + n, L, r)
    | _ => none
  | _ => none
def zz_len (i : Instr) : Nat := match i with
  | .iload _ => 2
  | .aload _ => 2
  | .lload _ => 2
  | .istore _ => 2
  | .astore _ => 2
  | .lstore _ => 2
  | .bipush _ => 2
  | .sipush _ => 3
  | .iinc _ _ => 3
  | _ => 1
section ZZ1
variable {p : Program} {l : Launch} {e : Env} {R : Room} {s : State} {m : MethodId} {args : Array Value} {below : List Frame} {meth : Method} {c : Code} {H : Heap} {locs : List Loc} {cells slots : Nat} {Qt : State → Prop} {cc : ByteArray} {pc : Nat} {ls : Array Slot} {b : Nat} {ex : Nat → Nat} {nL : Nat} {L L' : List (Option Value)} {S S' : List Value} {pc' : Nat}
theorem zz_ld_i {i : Nat} {n : Nat} (h : zz_ld pc n L S 0 i = some (pc', L', S')) : ∃ x : Int32, L[i]? = some (some (.int x)) ∧ pc' = pc + n ∧ L' = L ∧ S' = .int x :: S := by
  unfold zz_ld at h
  split at h
  · next x _ hx => cases h; exact ⟨x, zz_lk_spec hx, rfl, rfl, rfl⟩
  all_goals (first | (next h0 _ => exact absurd h0 (by decide)) | cases h)
theorem zz_ld_a {i : Nat} {n : Nat} (h : zz_ld pc n L S 1 i = some (pc', L', S')) : ∃ x : Nat, L[i]? = some (some (.ref x)) ∧ pc' = pc + n ∧ L' = L ∧ S' = .ref x :: S := by
  unfold zz_ld at h
  split at h
  · next h0 _ => exact absurd h0 (by decide)
  · next x _ hx => cases h; exact ⟨x, zz_lk_spec hx, rfl, rfl, rfl⟩
  all_goals (first | (next h0 _ => exact absurd h0 (by decide)) | cases h)
theorem zz_ld_l {i : Nat} {n : Nat} (h : zz_ld pc n L S 2 i = some (pc', L', S')) : ∃ x : Int64, L[i]? = some (some (.long x)) ∧ pc' = pc + n ∧ L' = L ∧ S' = .long x :: S := by
  unfold zz_ld at h
  split at h
  · next h0 _ => exact absurd h0 (by decide)
  · next h0 _ => exact absurd h0 (by decide)
  · next x _ hx => cases h; exact ⟨x, zz_lk_spec hx, rfl, rfl, rfl⟩
  · cases h
theorem zz_so_i {i : Nat} {n : Nat} (h : zz_so pc n L S 0 i = some (pc', L', S')) : ∃ (x : Int32), S = .int x :: S' ∧ i < L.length ∧ zz_n2 L i = true ∧ pc' = pc + n ∧ L' = L.set i (some (.int x)) := by
  unfold zz_so at h
  split at h
  · cases h
  · next hc =>
    rw [Bool.and_eq_true] at hc
    split at h
    · cases h; exact ⟨_, rfl, Nat.le_of_ble_eq_true hc.1, hc.2, rfl, rfl⟩
    · next h0 => exact absurd h0 (by decide)
    · next h0 => exact absurd h0 (by decide)
    · cases h
theorem zz_so_a {i : Nat} {n : Nat} (h : zz_so pc n L S 1 i = some (pc', L', S')) : ∃ (x : Nat), S = .ref x :: S' ∧ i < L.length ∧ zz_n2 L i = true ∧ pc' = pc + n ∧ L' = L.set i (some (.ref x)) := by
  unfold zz_so at h
  split at h
  · cases h
  · next hc =>
    rw [Bool.and_eq_true] at hc
    split at h
    · next h0 => exact absurd h0 (by decide)
    · cases h; exact ⟨_, rfl, Nat.le_of_ble_eq_true hc.1, hc.2, rfl, rfl⟩
    · next h0 => exact absurd h0 (by decide)
    · cases h
theorem zz_so_l {i : Nat} {n : Nat} (h : zz_so pc n L S 2 i = some (pc', L', S')) : ∃ (x : Int64), S = .long x :: S' ∧ i + 1 < L.length ∧ zz_n2 L i = true ∧ pc' = pc + n ∧ L' = (L.set i (some (.long x))).set (i + 1) none := by
  unfold zz_so at h
  split at h
  · cases h
  · next hc =>
    rw [Bool.and_eq_true] at hc
    split at h
    · next h0 => exact absurd h0 (by decide)
    · next h0 => exact absurd h0 (by decide)
    · split at h
      · next h9 => cases h; exact ⟨_, rfl, Nat.le_of_ble_eq_true h9, hc.2, rfl, rfl⟩
      · cases h
    · cases h
theorem zz_b2_i {n : Nat} {f : Int32 → Int32 → Int32} (h : zz_b2 pc n L S f = some (pc', L', S')) : ∃ (x y : Int32) (r : List Value), S = .int y :: .int x :: r ∧ pc' = pc + n ∧ L' = L ∧ S' = .int (f x y) :: r := by
  unfold zz_b2 at h
  split at h
  · cases h; exact ⟨_, _, _, rfl, rfl, rfl, rfl⟩
  · cases h
end ZZ1
set_option maxHeartbeats 4000000 in
theorem Ev.step {sc : Nat × (Nat → Int32)} {d mc ms : Nat} {M : zz_MD} {pc : Nat} {L : List (Option Value)} {S : List Value} {σ : zz_St} {Q : Option Value → zz_St → Prop} {i : Instr} {n pc' : Nat} {L' : List (Option Value)} {S' : List Value}
    (hd : decode M.2.1 pc = .ok (i, n)) (hlen : zz_len i = n) (hs : zz_step i n pc L S = some (pc', L', S')) (k : Ev sc d mc ms M pc' L' S' σ Q) : Ev sc d mc ms M pc L S σ Q := by
  intro p l e R s m args below meth c D cA b ex H locs cells slots Qt ls hC hR hL hf hlo hce hsl hret
  have hx := hC.1
  have hb := hC.2.1
  have K := fun ls' hL' => k p l e R s m args below meth c D cA b ex H locs cells slots Qt ls' hC hR hL' hf hlo hce hsl hret
  cases i with
  | iload_n q =>
    obtain ⟨x, h1, rfl, rfl, rfl⟩ := zz_ld_i hs
    cases hlen
    exact lv_iload_n hx hb hd rfl (hL.2.2.2 _ _ h1) (K ls hL)
  | iload q =>
    obtain ⟨x, h1, rfl, rfl, rfl⟩ := zz_ld_i hs
    cases hlen
    exact lv_iload hx hb hd (hL.2.2.2 _ _ h1) (K ls hL)
  | aload_n q =>
    obtain ⟨x, h1, rfl, rfl, rfl⟩ := zz_ld_a hs
    cases hlen
    exact lv_aload_n hx hb hd rfl (hL.2.2.2 _ _ h1) (K ls hL)
  | aload q =>
    obtain ⟨x, h1, rfl, rfl, rfl⟩ := zz_ld_a hs
    cases hlen
    exact lv_aload hx hb hd (hL.2.2.2 _ _ h1) (K ls hL)
  | lload q =>
    obtain ⟨x, h1, rfl, rfl, rfl⟩ := zz_ld_l hs
    cases hlen
    exact lv_lload hx hb hd (hL.2.2.2 _ _ h1) (K ls hL)
  | istore_n q =>
    obtain ⟨x, rfl, h1, h2, rfl, rfl⟩ := zz_so_i hs
    cases hlen
    exact lv_istore_n hx hb hd rfl hL.has (by rw [← hL.2.2.1]; exact h1) rfl (fun ls' h => K ls' (hL.st1 (v := .int x) h2 h1 h))
  | istore q =>
    obtain ⟨x, rfl, h1, h2, rfl, rfl⟩ := zz_so_i hs
    cases hlen
    exact lv_istore hx hb hd hL.has (by rw [← hL.2.2.1]; exact h1) rfl (fun ls' h => K ls' (hL.st1 (v := .int x) h2 h1 h))
  | astore_n q =>
    obtain ⟨x, rfl, h1, h2, rfl, rfl⟩ := zz_so_a hs
    cases hlen
    exact lv_astore_n hx hb hd rfl hL.has (by rw [← hL.2.2.1]; exact h1) rfl (fun ls' h => K ls' (hL.st1 (v := .ref x) h2 h1 h))
  | astore q =>
    obtain ⟨x, rfl, h1, h2, rfl, rfl⟩ := zz_so_a hs
    cases hlen
    exact lv_astore hx hb hd hL.has (by rw [← hL.2.2.1]; exact h1) rfl (fun ls' h => K ls' (hL.st1 (v := .ref x) h2 h1 h))
  | lstore q =>
    obtain ⟨x, rfl, h1, h2, rfl, rfl⟩ := zz_so_l hs
    cases hlen
    exact lv_lstore hx hb hd hL.has (by rw [← hL.2.2.1]; exact h1) rfl (fun ls' h => K ls' (hL.st2 (v := .long x) h2 (by omega) h))
  | iconst v => cases hlen; cases hs; exact lv_iconst hx hb hd rfl (K ls hL)
  | bipush v => cases hlen; cases hs; exact lv_bipush hx hb hd rfl (K ls hL)
  | sipush v => cases hlen; cases hs; exact lv_sipush hx hb hd rfl (K ls hL)
  | lconst v => cases hlen; cases hs; exact lv_lconst hx hb hd rfl (K ls hL)
  | iadd => obtain ⟨x, y, r, rfl, rfl, rfl, rfl⟩ := zz_b2_i hs; cases hlen; exact lv_iadd hx hb hd (K ls hL)
  | isub => obtain ⟨x, y, r, rfl, rfl, rfl, rfl⟩ := zz_b2_i hs; cases hlen; exact lv_isub hx hb hd (K ls hL)
  | imul => obtain ⟨x, y, r, rfl, rfl, rfl, rfl⟩ := zz_b2_i hs; cases hlen; exact lv_imul hx hb hd (K ls hL)
  | iand => obtain ⟨x, y, r, rfl, rfl, rfl, rfl⟩ := zz_b2_i hs; cases hlen; exact lv_iand hx hb hd (K ls hL)
  | ior => obtain ⟨x, y, r, rfl, rfl, rfl, rfl⟩ := zz_b2_i hs; cases hlen; exact lv_ior hx hb hd (K ls hL)
  | ishl => obtain ⟨x, y, r, rfl, rfl, rfl, rfl⟩ := zz_b2_i hs; cases hlen; exact lv_ishl hx hb hd (K ls hL)
  | ishr => obtain ⟨x, y, r, rfl, rfl, rfl, rfl⟩ := zz_b2_i hs; cases hlen; exact lv_ishr hx hb hd (K ls hL)
  | iushr => obtain ⟨x, y, r, rfl, rfl, rfl, rfl⟩ := zz_b2_i hs; cases hlen; exact lv_iushr hx hb hd rfl (K ls hL)
  | ineg =>
    simp only [zz_step] at hs
    split at hs
    · cases hs; cases hlen; exact lv_ineg hx hb hd (K ls hL)
    · cases hs
  | i2l =>
    simp only [zz_step] at hs
    split at hs
    · cases hs; cases hlen; exact lv_i2l hx hb hd rfl (K ls hL)
    · cases hs
  | ladd =>
    simp only [zz_step] at hs
    split at hs
    · cases hs; cases hlen; exact lv_ladd hx hb hd (K ls hL)
    · cases hs
  | lcmp =>
    simp only [zz_step] at hs
    split at hs
    · cases hs; cases hlen; exact W.lcmp hx hb hd (K ls hL)
    · cases hs
  | iinc q v =>
    simp only [zz_step] at hs
    split at hs
    · next x h1 h2 =>
      cases hs; cases hlen
      rw [Bool.and_eq_true] at h2
      have h3 := zz_lk_spec h1
      obtain ⟨kk, hkk⟩ := List.getElem?_of_mem (zz_Ll_mem (b := b) (ex := ex) h3)
      exact lv_iinc hx hb hd hL.has hkk rfl (by rw [← hL.2.2.1]; exact Nat.le_of_ble_eq_true h2.1) rfl (fun ls' h => K ls' (hL.st1 (v := .int (x + Int32.ofInt v)) h2.2 (Nat.le_of_ble_eq_true h2.1) h))
    · cases hs
  | dup =>
    simp only [zz_step] at hs
    split at hs
    · cases hs; cases hlen; exact lv_dup hx hb hd rfl (K ls hL)
    · cases hs; cases hlen; exact lv_dup hx hb hd rfl (K ls hL)
    · cases hs
  | dup2 =>
    simp only [zz_step] at hs
    split at hs
    · cases hs; cases hlen; exact lv_dup2_11 hx hb hd rfl rfl (K ls hL)
    · cases hs; cases hlen; exact lv_dup2_11 hx hb hd rfl rfl (K ls hL)
    · cases hs
  | pop =>
    simp only [zz_step] at hs
    split at hs
    · cases hs; cases hlen; exact lv_pop hx hb hd rfl (K ls hL)
    · cases hs
  | _ => cases hs
end
section
/-! ===== tables of links, by program ===== -/
def zz_cn (oc : Nat) : String := match oc with
  | 0 => RX0
  | 1 => RX1
  | 2 => RX2
  | 3 => RX3
  | 4 => RX4
  | 5 => RX5
  | 6 => RX6
  | 7 => RX7
  | 8 => RL
  | _ => RJ6
def zz_flt : List (List (Nat × Nat × Nat)) := [[(11, 0, 0), (18, 0, 1), (26, 0, 2), (30, 4, 1)], [(9, 1, 0), (15, 4, 1), (45, 2, 3), (51, 2, 0), (61, 2, 11), (64, 2, 4), (72, 2, 10), (75, 2, 5)], [(11, 2, 0), (17, 2, 1), (20, 2, 2), (24, 2, 3), (29, 2, 4), (32, 2, 5), (35, 2, 6), (38, 2, 7), (44, 2, 8), (48, 2, 9), (51, 2, 10), (55, 2, 11)], [(9, 3, 0), (17, 3, 1), (20, 3, 2), (23, 3, 3), (26, 3, 4), (34, 3, 5), (46, 2, 4), (56, 2, 3), (60, 4, 1), (64, 2, 6), (67, 2, 11), (88, 2, 10), (97, 2, 5)], [(9, 4, 0), (15, 4, 1)], [(9, 2, 7), (15, 2, 0), (25, 2, 1), (31, 2, 10), (55, 4, 1)], [(14, 5, 0), (21, 5, 1), (25, 5, 2), (29, 5, 3), (36, 5, 4), (43, 5, 5), (50, 5, 6), (58, 4, 1), (72, 2, 10), (79, 2, 0), (87, 2, 1), (90, 2, 2), (98, 2, 11), (101, 2, 3), (125, 2, 4), (143, 2, 6), (161, 3, 5), (170, 2, 7), (204, 2, 8), (207, 2, 9), (214, 0, 0), (217, 0, 1), (221, 0, 2)], [(7, 6, 1), (13, 6, 3), (16, 6, 4), (19, 6, 5), (22, 6, 6), (25, 6, 7), (28, 6, 9), (31, 6, 10), (34, 6, 11), (37, 6, 12), (40, 6, 13), (43, 6, 14), (46, 6, 16), (49, 6, 18), (52, 6, 19), (55, 6, 20), (58, 6, 21), (61, 6, 24), (64, 6, 25), (68, 6, 26), (71, 6, 27), (75, 6, 2), (83, 6, 8), (86, 6, 0), (89, 6, 15), (127, 6, 17), (174, 6, 22), (177, 6, 23)], []]
def zz_fl (oc idx : Nat) : Option (Nat × Nat) := (zz_flt.getD oc []).lookup idx
def zz_Tn (ci : Nat) : u_T := match ci with
  | 0 => TX0
  | 1 => TX1
  | 2 => TX2
  | 3 => TX3
  | 4 => TX4
  | 5 => TX6
  | _ => TX7
def zz_Nn (ci : Nat) : Nat := ([3, 1, 12, 6, 2, 7, 28] : List Nat).getD ci 0
def zz_Rn (ci : Nat) : String := match ci with
  | 0 => RX0
  | 1 => RX1
  | 2 => RX2
  | 3 => RX3
  | 4 => RX4
  | 5 => RX6
  | _ => RX7
def zz_tn (ci : Nat) : Nat → FieldType := match ci with
  | 0 => tyX0
  | 1 => tyX1
  | 2 => tyX2
  | 3 => tyX3
  | 4 => tyX4
  | 5 => tyX6
  | _ => tyX7
theorem zz_cl_at {ci : Nat} (h : ci < 7) : zz_cl[ci]? = some (zz_Rn ci, zz_Tn ci, zz_Nn ci) := by
  match ci, h with
  | 0, _ => rfl
  | 1, _ => rfl
  | 2, _ => rfl
  | 3, _ => rfl
  | 4, _ => rfl
  | 5, _ => rfl
  | 6, _ => rfl
theorem zz_cl_lt {ci : Nat} {q : vw_C} (h : zz_cl[ci]? = some q) : ci < 7 := (List.getElem?_eq_some_iff.mp h).1
theorem zz_tn_ok {ci : Nat} (h : ci < 7) : ∀ k, k < zz_Nn ci → parseFieldDescriptor (zz_Tn ci k).2.2.1 = some (zz_tn ci k) := by
  match ci, h with
  | 0, _ => exact tyX0_ok
  | 1, _ => exact tyX1_ok
  | 2, _ => exact tyX2_ok
  | 3, _ => exact tyX3_ok
  | 4, _ => exact tyX4_ok
  | 5, _ => exact tyX6_ok
  | 6, _ => exact tyX7_ok
theorem zz_nm_ok {ci : Nat} (h : ci < 7) : ∀ a, a < zz_Nn ci → ∀ b, b < zz_Nn ci → a ≠ b → (zz_Tn ci a).2.1 ≠ (zz_Tn ci b).2.1 := by
  match ci, h with
  | 0, _ => exact nmX0
  | 1, _ => exact nmX1
  | 2, _ => exact nmX2
  | 3, _ => exact nmX3
  | 4, _ => exact nmX4
  | 5, _ => exact nmX6
  | 6, _ => exact nmX7
theorem zz_lay_ok : (List.range 7).all (fun ci => (u_ws (zz_Rn ci) (zz_Tn ci) (zz_Nn ci)).all (fun w => decide (w ∈ zz_WG))) = true := by decide +kernel
theorem zz_lays {ci : Nat} (h : ci < 7) : ∀ w ∈ u_ws (zz_Rn ci) (zz_Tn ci) (zz_Nn ci), w ∈ zz_WG := by
  have h1 := List.all_eq_true.mp zz_lay_ok ci (List.mem_range.mpr h)
  intro w hw
  exact of_decide_eq_true (List.all_eq_true.mp h1 w hw)
theorem zz_fl_all : (List.range 9).all (fun oc => (zz_flt.getD oc []).all (fun q => decide (q.2.1 < 7) && decide (q.2.2 < zz_Nn q.2.1) && decide (Cond.fieldLink (zz_cn oc) q.1 (zz_Tn q.2.1 q.2.2).1 (zz_Tn q.2.1 q.2.2).2.1 (zz_Tn q.2.1 q.2.2).2.2.1 ∈ zz_WG))) = true := by decide +kernel
theorem zz_lookup_mem {α : Type} {k : Nat} {v : α} : ∀ {l : List (Nat × α)}, l.lookup k = some v → (k, v) ∈ l
  | [], h => by cases h
  | (a, w) :: r, h => by
    rw [List.lookup_cons] at h
    split at h
    · next e => cases h; rw [eq_of_beq e]; exact List.mem_cons_self
    · exact List.mem_cons_of_mem _ (zz_lookup_mem h)
theorem zz_fl_ok {oc idx ci j : Nat} (h : zz_fl oc idx = some (ci, j)) : ci < 7 ∧ j < zz_Nn ci ∧ Cond.fieldLink (zz_cn oc) idx (zz_Tn ci j).1 (zz_Tn ci j).2.1 (zz_Tn ci j).2.2.1 ∈ zz_WG := by
  have hm := zz_lookup_mem h
  by_cases ho : oc < 9
  · have h1 := List.all_eq_true.mp (List.all_eq_true.mp zz_fl_all oc (List.mem_range.mpr ho)) (idx, ci, j) hm
    simp only [Bool.and_eq_true, decide_eq_true_eq] at h1
    exact ⟨h1.1.1, h1.1.2, h1.2⟩
  · have : zz_flt.getD oc [] = [] := by
      rw [List.getD_eq_getElem?_getD, List.getElem?_eq_none (by show 9 ≤ oc; omega)]; rfl
    rw [this] at hm
    cases hm
def mJ6_bitCount_0f7a4 : zz_MD := (yJ6_bitCount_0f7a4, cJ6_bitCount_0f7a4, 1, (some .int), 9)
def mJ9_abs_0f7a4 : zz_MD := (yJ9_abs_0f7a4, cJ9_abs_0f7a4, 1, (some .int), 10)
def mJ9_max_7cf53 : zz_MD := (yJ9_max_7cf53, cJ9_max_7cf53, 2, (some .int), 10)
def mJ9_min_7cf53 : zz_MD := (yJ9_min_7cf53, cJ9_min_7cf53, 2, (some .int), 10)
def mX0_costWith : zz_MD := (yX0_costWith, cX0_costWith, 7, (some .int), 0)
def mX0_firstOfLeast : zz_MD := (yX0_firstOfLeast, cX0_firstOfLeast, 6, (some .int), 0)
def mX0_fits : zz_MD := (yX0_fits, cX0_fits, 5, (some .boolean), 0)
def mX0_init : zz_MD := (yX0_init, cX0_init, 1, none, 0)
def mX0_lay : zz_MD := (yX0_lay, cX0_lay, 5, none, 0)
def mX0_layFrom : zz_MD := (yX0_layFrom, cX0_layFrom, 13, none, 0)
def mX0_readSteps : zz_MD := (yX0_readSteps, cX0_readSteps, 7, none, 0)
def mX0_together : zz_MD := (yX0_together, cX0_together, 5, (some .int), 0)
def mX1_costOfChange : zz_MD := (yX1_costOfChange, cX1_costOfChange, 2, (some .int), 1)
def mX1_farOf : zz_MD := (yX1_farOf, cX1_farOf, 10, (some .int), 1)
def mX1_init : zz_MD := (yX1_init, cX1_init, 1, none, 1)
def mX1_likeButForNumbers : zz_MD := (yX1_likeButForNumbers, cX1_likeButForNumbers, 3, (some .boolean), 1)
def mX1_likeOf : zz_MD := (yX1_likeOf, cX1_likeOf, 4, (some .int), 1)
def mX1_matchOf : zz_MD := (yX1_matchOf, cX1_matchOf, 6, (some .int), 1)
def mX1_meetPair : zz_MD := (yX1_meetPair, cX1_meetPair, 4, none, 1)
def mX1_meetSentence : zz_MD := (yX1_meetSentence, cX1_meetSentence, 5, none, 1)
def mX2_bestFor : zz_MD := (yX2_bestFor, cX2_bestFor, 5, (some .int), 2)
def mX2_init : zz_MD := (yX2_init, cX2_init, 2, none, 2)
def mX2_isPair : zz_MD := (yX2_isPair, cX2_isPair, 2, (some .boolean), 2)
def mX2_isSentence : zz_MD := (yX2_isSentence, cX2_isSentence, 2, (some .boolean), 2)
def mX2_standsAsBefore : zz_MD := (yX2_standsAsBefore, cX2_standsAsBefore, 4, (some .boolean), 2)
def mX2_take : zz_MD := (yX2_take, cX2_take, 3, none, 2)
def mX2_takePairs : zz_MD := (yX2_takePairs, cX2_takePairs, 3, none, 2)
def mX2_takeText : zz_MD := (yX2_takeText, cX2_takeText, 4, none, 2)
def mX3_bandFound : zz_MD := (yX3_bandFound, cX3_bandFound, 3, (some .int), 3)
def mX3_bandOf : zz_MD := (yX3_bandOf, cX3_bandOf, 1, (some .int), 3)
def mX3_chooseNext : zz_MD := (yX3_chooseNext, cX3_chooseNext, 6, none, 3)
def mX3_fewestPairs : zz_MD := (yX3_fewestPairs, cX3_fewestPairs, 6, (some .int), 3)
def mX3_init : zz_MD := (yX3_init, cX3_init, 1, none, 3)
def mX3_isEnough : zz_MD := (yX3_isEnough, cX3_isEnough, 4, (some .boolean), 3)
def mX3_least : zz_MD := (yX3_least, cX3_least, 1, (some .int), 3)
def mX3_ofSentence : zz_MD := (yX3_ofSentence, cX3_ofSentence, 3, (some .int), 3)
def mX3_ofText : zz_MD := (yX3_ofText, cX3_ofText, 3, (some .int), 3)
def mX3_priceWith : zz_MD := (yX3_priceWith, cX3_priceWith, 6, (some .int), 3)
def mX3_putInOrder : zz_MD := (yX3_putInOrder, cX3_putInOrder, 6, none, 3)
def mX3_readHelpers : zz_MD := (yX3_readHelpers, cX3_readHelpers, 4, none, 3)
def mX3_readNeeded : zz_MD := (yX3_readNeeded, cX3_readNeeded, 5, none, 3)
def mX3_readRatesByMemory : zz_MD := (yX3_readRatesByMemory, cX3_readRatesByMemory, 6, none, 3)
def mX4_add : zz_MD := (yX4_add, cX4_add, 2, (some .boolean), 4)
def mX4_at : zz_MD := (yX4_at, cX4_at, 2, (some .int), 4)
def mX4_init : zz_MD := (yX4_init, cX4_init, 2, none, 4)
def mX4_placeOf : zz_MD := (yX4_placeOf, cX4_placeOf, 3, (some .int), 4)
def mX4_put : zz_MD := (yX4_put, cX4_put, 3, none, 4)
def mX4_sameAs : zz_MD := (yX4_sameAs, cX4_sameAs, 3, (some .boolean), 4)
def mX4_take : zz_MD := (yX4_take, cX4_take, 2, none, 4)
def mX4_takePart : zz_MD := (yX4_takePart, cX4_takePart, 5, none, 4)
def mX4_timesOf : zz_MD := (yX4_timesOf, cX4_timesOf, 4, (some .int), 4)
def mX5_change : zz_MD := (yX5_change, cX5_change, 7, (some .int), 5)
def mX5_changeIn : zz_MD := (yX5_changeIn, cX5_changeIn, 5, (some .int), 5)
def mX5_goesMost : zz_MD := (yX5_goesMost, cX5_goesMost, 8, (some .int), 5)
def mX5_inFirst : zz_MD := (yX5_inFirst, cX5_inFirst, 3, (some .boolean), 5)
def mX5_inSecond : zz_MD := (yX5_inSecond, cX5_inSecond, 3, (some .boolean), 5)
def mX5_isWrong : zz_MD := (yX5_isWrong, cX5_isWrong, 6, (some .boolean), 5)
def mX5_lowered : zz_MD := (yX5_lowered, cX5_lowered, 3, (some .int), 5)
def mX5_pairsWithBoth : zz_MD := (yX5_pairsWithBoth, cX5_pairsWithBoth, 5, (some .int), 5)
def mX5_pairsWithEither : zz_MD := (yX5_pairsWithEither, cX5_pairsWithEither, 5, (some .int), 5)
def mX6_clash : zz_MD := (yX6_clash, cX6_clash, 3, (some .int), 6)
def mX6_endOfTongue : zz_MD := (yX6_endOfTongue, cX6_endOfTongue, 4, (some .int), 6)
def mX6_far : zz_MD := (yX6_far, cX6_far, 3, (some .int), 6)
def mX6_fault : zz_MD := (yX6_fault, cX6_fault, 2, (some .int), 6)
def mX6_faultAsPair : zz_MD := (yX6_faultAsPair, cX6_faultAsPair, 3, (some .int), 6)
def mX6_faultAsSentence : zz_MD := (yX6_faultAsSentence, cX6_faultAsSentence, 2, (some .int), 6)
def mX6_filled : zz_MD := (yX6_filled, cX6_filled, 4, (some .int), 6)
def mX6_found : zz_MD := (yX6_found, cX6_found, 4, (some .int), 6)
def mX6_goes : zz_MD := (yX6_goes, cX6_goes, 6, (some .long), 6)
def mX6_image : zz_MD := (yX6_image, cX6_image, 2, (some .int), 6)
def mX6_init : zz_MD := (yX6_init, cX6_init, 2, none, 6)
def mX6_isNumber : zz_MD := (yX6_isNumber, cX6_isNumber, 1, (some .boolean), 6)
def mX6_isWord : zz_MD := (yX6_isWord, cX6_isWord, 1, (some .boolean), 6)
def mX6_keep : zz_MD := (yX6_keep, cX6_keep, 4, (some .int), 6)
def mX6_kept : zz_MD := (yX6_kept, cX6_kept, 1, (some .int), 6)
def mX6_laid : zz_MD := (yX6_laid, cX6_laid, 2, (some .long), 6)
def mX6_learnt : zz_MD := (yX6_learnt, cX6_learnt, 2, (some .int), 6)
def mX6_length : zz_MD := (yX6_length, cX6_length, 4, (some .int), 6)
def mX6_lengths : zz_MD := (yX6_lengths, cX6_lengths, 2, (some .int), 6)
def mX6_match : zz_MD := (yX6_match, cX6_match, 3, (some .int), 6)
def mX6_must : zz_MD := (yX6_must, cX6_must, 4, (some .int), 6)
def mX6_order : zz_MD := (yX6_order, cX6_order, 2, (some .int), 6)
def mX6_otherwise : zz_MD := (yX6_otherwise, cX6_otherwise, 4, (some .int), 6)
def mX6_pair : zz_MD := (yX6_pair, cX6_pair, 4, (some .int), 6)
def mX6_price : zz_MD := (yX6_price, cX6_price, 2, (some .int), 6)
def mX6_rate : zz_MD := (yX6_rate, cX6_rate, 4, (some .int), 6)
def mX6_restore : zz_MD := (yX6_restore, cX6_restore, 2, (some .int), 6)
def mX6_say : zz_MD := (yX6_say, cX6_say, 2, (some .int), 6)
def mX6_signFilled : zz_MD := (yX6_signFilled, cX6_signFilled, 4, (some .int), 6)
def mX6_standsIn : zz_MD := (yX6_standsIn, cX6_standsIn, 2, (some .boolean), 6)
def mX6_told : zz_MD := (yX6_told, cX6_told, 2, (some .int), 6)
def mX6_toldOfSettings : zz_MD := (yX6_toldOfSettings, cX6_toldOfSettings, 2, (some .int), 6)
def mX6_wipe : zz_MD := (yX6_wipe, cX6_wipe, 2, (some .int), 6)
def mX6_write : zz_MD := (yX6_write, cX6_write, 2, (some .int), 6)
def mX6_wrongs : zz_MD := (yX6_wrongs, cX6_wrongs, 3, (some .int), 6)
def mX7_areAlike : zz_MD := (yX7_areAlike, cX7_areAlike, 7, (some .boolean), 7)
def mX7_band : zz_MD := (yX7_band, cX7_band, 1, (some .int), 7)
def mX7_besides : zz_MD := (yX7_besides, cX7_besides, 1, (some .int), 7)
def mX7_bits : zz_MD := (yX7_bits, cX7_bits, 3, (some .int), 7)
def mX7_changes : zz_MD := (yX7_changes, cX7_changes, 2, (some .int), 7)
def mX7_clash : zz_MD := (yX7_clash, cX7_clash, 4, (some .int), 7)
def mX7_costs : zz_MD := (yX7_costs, cX7_costs, 6, (some .int), 7)
def mX7_doesFill : zz_MD := (yX7_doesFill, cX7_doesFill, 5, (some .boolean), 7)
def mX7_far : zz_MD := (yX7_far, cX7_far, 3, (some .int), 7)
def mX7_farOf : zz_MD := (yX7_farOf, cX7_farOf, 12, (some .int), 7)
def mX7_fault : zz_MD := (yX7_fault, cX7_fault, 2, (some .int), 7)
def mX7_faultOf : zz_MD := (yX7_faultOf, cX7_faultOf, 6, (some .int), 7)
def mX7_filled : zz_MD := (yX7_filled, cX7_filled, 6, (some .int), 7)
def mX7_found : zz_MD := (yX7_found, cX7_found, 4, (some .int), 7)
def mX7_foundOf : zz_MD := (yX7_foundOf, cX7_foundOf, 5, (some .int), 7)
def mX7_goes : zz_MD := (yX7_goes, cX7_goes, 7, (some .long), 7)
def mX7_image : zz_MD := (yX7_image, cX7_image, 4, (some .int), 7)
def mX7_in : zz_MD := (yX7_in, cX7_in, 3, (some .boolean), 7)
def mX7_inFirst : zz_MD := (yX7_inFirst, cX7_inFirst, 5, (some .int), 7)
def mX7_inSecond : zz_MD := (yX7_inSecond, cX7_inSecond, 5, (some .int), 7)
def mX7_init : zz_MD := (yX7_init, cX7_init, 2, none, 7)
def mX7_isNumber : zz_MD := (yX7_isNumber, cX7_isNumber, 1, (some .boolean), 7)
def mX7_isPair : zz_MD := (yX7_isPair, cX7_isPair, 2, (some .boolean), 7)
def mX7_isSentence : zz_MD := (yX7_isSentence, cX7_isSentence, 2, (some .boolean), 7)
def mX7_isWord : zz_MD := (yX7_isWord, cX7_isWord, 1, (some .boolean), 7)
def mX7_isWrong : zz_MD := (yX7_isWrong, cX7_isWrong, 7, (some .boolean), 7)
def mX7_keep : zz_MD := (yX7_keep, cX7_keep, 3, (some .int), 7)
def mX7_kept : zz_MD := (yX7_kept, cX7_kept, 5, (some .int), 7)
def mX7_laid : zz_MD := (yX7_laid, cX7_laid, 7, (some .long), 7)
def mX7_layBeside : zz_MD := (yX7_layBeside, cX7_layBeside, 4, none, 7)
def mX7_layCosts : zz_MD := (yX7_layCosts, cX7_layCosts, 8, none, 7)
def mX7_layGoes : zz_MD := (yX7_layGoes, cX7_layGoes, 6, none, 7)
def mX7_layNeeds : zz_MD := (yX7_layNeeds, cX7_layNeeds, 5, none, 7)
def mX7_layOrders : zz_MD := (yX7_layOrders, cX7_layOrders, 5, none, 7)
def mX7_learnt : zz_MD := (yX7_learnt, cX7_learnt, 6, (some .int), 7)
def mX7_length : zz_MD := (yX7_length, cX7_length, 3, (some .int), 7)
def mX7_lengths : zz_MD := (yX7_lengths, cX7_lengths, 2, (some .int), 7)
def mX7_like : zz_MD := (yX7_like, cX7_like, 3, (some .int), 7)
def mX7_likeOf : zz_MD := (yX7_likeOf, cX7_likeOf, 3, (some .int), 7)
def mX7_likePair : zz_MD := (yX7_likePair, cX7_likePair, 3, (some .int), 7)
def mX7_match : zz_MD := (yX7_match, cX7_match, 3, (some .int), 7)
def mX7_matchOf : zz_MD := (yX7_matchOf, cX7_matchOf, 5, (some .int), 7)
def mX7_must : zz_MD := (yX7_must, cX7_must, 4, (some .int), 7)
def mX7_ofOne : zz_MD := (yX7_ofOne, cX7_ofOne, 1, (some .int), 7)
def mX7_ofOther : zz_MD := (yX7_ofOther, cX7_ofOther, 1, (some .int), 7)
def mX7_order : zz_MD := (yX7_order, cX7_order, 7, (some .int), 7)
def mX7_otherwise : zz_MD := (yX7_otherwise, cX7_otherwise, 7, (some .int), 7)
def mX7_pair : zz_MD := (yX7_pair, cX7_pair, 3, (some .int), 7)
def mX7_price : zz_MD := (yX7_price, cX7_price, 4, (some .int), 7)
def mX7_priceOf : zz_MD := (yX7_priceOf, cX7_priceOf, 3, (some .int), 7)
def mX7_rate : zz_MD := (yX7_rate, cX7_rate, 4, (some .int), 7)
def mX7_restore : zz_MD := (yX7_restore, cX7_restore, 4, (some .int), 7)
def mX7_say : zz_MD := (yX7_say, cX7_say, 2, (some .int), 7)
def mX7_stepCosts : zz_MD := (yX7_stepCosts, cX7_stepCosts, 6, (some .int), 7)
def mX7_told : zz_MD := (yX7_told, cX7_told, 2, (some .int), 7)
def mX7_wipe : zz_MD := (yX7_wipe, cX7_wipe, 2, (some .int), 7)
def mX7_write : zz_MD := (yX7_write, cX7_write, 2, (some .int), 7)
def mX7_wrongs : zz_MD := (yX7_wrongs, cX7_wrongs, 3, (some .int), 7)
end
section
/-! ===== the store's changes ===== -/
def zz_up (I : Nat → Nat → Int32) (k j : Nat) (v : Int32) : Nat → Nat → Int32 := fun a => if a = k then upd (I k) j v else I a
def zz_upL (J : Nat → Nat → Int64) (k j : Nat) (v : Int64) : Nat → Nat → Int64 := fun a => if a = k then vp_updL (J k) j v else J a
theorem zz_up_eq (I : Nat → Nat → Int32) (k j : Nat) (v : Int32) : zz_up I k j v k = upd (I k) j v := if_pos rfl
theorem zz_up_ne {I : Nat → Nat → Int32} {k j a : Nat} {v : Int32} (h : a ≠ k) : zz_up I k j v a = I a := if_neg h
theorem zz_upL_eq (J : Nat → Nat → Int64) (k j : Nat) (v : Int64) : zz_upL J k j v k = vp_updL (J k) j v := if_pos rfl
theorem zz_upL_ne {J : Nat → Nat → Int64} {k j a : Nat} {v : Int64} (h : a ≠ k) : zz_upL J k j v a = J a := if_neg h
theorem zz_ws_up {cA : Nat → ClassId} {b : Nat} {ex : Nat → Nat} {σ : zz_St} {k j : Nat} {v : Int32} {x : zz_SK} (hk : σ.1[k]? = some x) : zz_ws cA b ex (σ.1, zz_up σ.2.1 k j v, σ.2.2) = (zz_ws cA b ex σ).set k (b + k, zz_e cA b ex (upd (σ.2.1 k) j v) (σ.2.2 k) x) := by
  apply List.ext_getElem?
  intro a
  have hl : k < (zz_ws cA b ex σ).length := (List.getElem?_eq_some_iff.mp (zz_ws_get hk)).1
  rw [zz_ws_at]
  by_cases h : a = k
  · subst h
    rw [List.getElem?_set_self hl, hk]
    simp only [Option.map_some, zz_up_eq]
  · rw [List.getElem?_set_ne (Ne.symm h), zz_ws_at]
    simp only [zz_up_ne h]
theorem zz_ws_upL {cA : Nat → ClassId} {b : Nat} {ex : Nat → Nat} {σ : zz_St} {k j : Nat} {v : Int64} {x : zz_SK} (hk : σ.1[k]? = some x) : zz_ws cA b ex (σ.1, σ.2.1, zz_upL σ.2.2 k j v) = (zz_ws cA b ex σ).set k (b + k, zz_e cA b ex (σ.2.1 k) (vp_updL (σ.2.2 k) j v) x) := by
  apply List.ext_getElem?
  intro a
  have hl : k < (zz_ws cA b ex σ).length := (List.getElem?_eq_some_iff.mp (zz_ws_get hk)).1
  rw [zz_ws_at]
  by_cases h : a = k
  · subst h
    rw [List.getElem?_set_self hl, hk]
    simp only [Option.map_some, zz_upL_eq]
  · rw [List.getElem?_set_ne (Ne.symm h), zz_ws_at]
    simp only [zz_upL_ne h]
theorem zz_fv_set {b : Nat} {ex : Nat → Nat} {g : Nat → Int32} {j : Nat} {v : Int32} {fs : List (Option (Option Nat))} (hj : fs[j]? = some none) : fs.mapIdx (fun i y => zz_fv b ex (upd g j v) i y) = (fs.mapIdx (fun i y => zz_fv b ex g i y)).set j (.int v) := by
  apply List.ext_getElem?
  intro a
  have hl : j < (fs.mapIdx (fun i y => zz_fv b ex g i y)).length := by
    rw [List.length_mapIdx]; exact (List.getElem?_eq_some_iff.mp hj).1
  rw [List.getElem?_mapIdx]
  by_cases h : a = j
  · subst h
    rw [List.getElem?_set_self hl, hj]
    simp [zz_fv, upd]
  · rw [List.getElem?_set_ne (Ne.symm h), List.getElem?_mapIdx]
    cases fs[a]? with
    | none => rfl
    | some y => cases y with
      | none => simp [zz_fv, upd, h]
      | some z => cases z <;> simp [zz_fv]
def zz_val (I : Nat → Nat → Int32) (k j : Nat) (x : Option (Option Nat)) : Option Value := match x with
  | none => some (.int (I k j))
  | some (some q) => some (.ref q)
  | some none => none
section ZZP
variable {p : Program} {l : Launch} {e : Env} {R : Room} {s : State} {m : MethodId} {args : Array Value} {below : List Frame} {meth : Method} {c : Code} {H : Heap} {locs : List Loc} {cells slots : Nat} {Qt : State → Prop}
variable {cc : ByteArray} {pc : Nat} {ls : Array Slot} {rest : List Value} {D : va_G} {cl : List vw_C} {A : Nat → Prop} {a : Nat} {tys : List (ClassId × FieldType)} {ws : va_W} {H0 : Heap}
/-- a field that is not final is written: the heap keeps its size -/
theorem zz_put (hexec : p.tables.exec = Jvm.exec) (hb : c.code = cc) {own C : String} {T : u_T} {N ci index : Nat} {Ts : List Cond} (hts : ∀ w ∈ Ts, w.before args s = true) (hin : ∀ w ∈ u_ws C T N, w ∈ Ts) (ty0 : Nat → FieldType) (hty : ∀ k, k < N → parseFieldDescriptor (T k).2.2.1 = some (ty0 k)) (hnm : ∀ a, a < N → ∀ b, b < N → a ≠ b → (T a).2.1 ≠ (T b).2.1) (hown : s.vm.findClass own = some m.cls) (hK : va_K D cl tys s) (hP : va_P D cl ws H) (hD : va_D A ws) (hS0 : va_S A H0 H locs) (q0 : Nat) {fs : List Value} (he : ws[q0]? = some (a, .inr (ci, fs))) (hc : cl[ci]? = some (C, T, N)) (k : Nat) (hk : k < N) (hlink : (Cond.fieldLink own index (T k).1 (T k).2.1 (T k).2.2.1).before args s = true) (hfin : (T k).2.2.2 = false) {ty : FieldType} {v : Value} (hd : parseFieldDescriptor (T k).2.2.1 = some ty) (hn : narrow ty v = v) (hfit : fits ty v = true) (hl : k < fs.length)
    (hdg : decode cc pc = .ok (.putfield index, 3)) (kk : ∀ (H1 : Heap) (locs1 : List Loc), H1.size = H.size → va_P D cl (ws.set q0 (a, .inr (ci, fs.set k v))) H1 → va_S A H0 H1 locs1 → W p l e R s m args below meth c H1 locs1 cells slots Qt (F0 m (pc + 3) ls rest)) : W p l e R s m args below meth c H locs cells slots Qt (F0 m pc ls (v :: .ref a :: rest)) := by
  have hap := va_apart (own := own) hts hin ty0 hty hnm hK hc
  obtain ⟨r, h1, cell, q1, q2, q3, q4⟩ := hP q0 _ he
  have hr : r = (C, T, N) := Option.some.inj (h1.symm.trans hc)
  subst hr
  obtain ⟨hSl, hfc, kC, hkC, hkind⟩ := hK.1 ci _ hc
  obtain ⟨cf, kf, fi, f, hi, hsl⟩ := hSl k hk
  have hlay := hts _ (hin _ (u_in_lay hk))
  unfold u_lay at hlay
  rw [if_neg (by rw [hfin]; decide)] at hlay
  have hst := (u_facts hfc hkC (u_lays hts hin hk) hi).1
  have h6 := u_store hfc hkC hkind hlay hi hd hn hfit
  refine W.putK hexec hb (f := f) ⟨hown, hlink, ⟨_, _, _, hi⟩, hst⟩ (by rw [q2]; exact h6) q1 q3 (by rw [hsl]; exact k2_hasslot (q4 k hk)) rfl rfl hdg fun H' e1 e2 e3 => ?_
  rw [hsl] at e1 ⊢
  exact kk H' _ e2 (hP.set hD he ⟨_, hc, t_OB.to (V := updV (vp_V fs) k v) ⟨_, e1, q2, q3, t_set q4 hap hk v⟩ (fun j _ => vp_updV_set hl v j)⟩ e3) (hS0.put e2 e3 (hD.2 q0 _ he))
theorem zz_iast (hexec : p.tables.exec = Jvm.exec) (hb : c.code = cc) (hK : va_K D cl tys s) (hP : va_P D cl ws H) (hD : va_D A ws) (hS : va_S A H0 H locs) (q0 t0 : Nat) {cA : ClassId} {n : Nat} {f : Nat → Int32} (ha : ws[q0]? = some (a, .inl (cA, n, .inl f))) (ht : tys[t0]? = some (cA, .int)) {i : Int32} {x : Int32} (hin : vp_in i n) (hdg : decode cc pc = .ok (.iastore, 1))
    (kk : ∀ (H1 : Heap) (locs1 : List Loc), H1.size = H.size → va_P D cl (ws.set q0 (a, .inl (cA, n, .inl (upd f i.toNatClampNeg x)))) H1 → va_S A H0 H1 locs1 → W p l e R s m args below meth c H1 locs1 cells slots Qt (F0 m (pc + 1) ls rest)) : W p l e R s m args below meth c H locs cells slots Qt (F0 m pc ls (.int x :: .int i :: .ref a :: rest)) := by
  refine W.iast hexec hb (hP q0 _ ha) ((hK.2 t0 _ ht).1 n (fun j => .int (f j))) (fun q => by cases q) (by show ¬ (i < 0 ∨ (arrV _ _ _).slots.size ≤ _); rw [arrV_size]; exact hin) rfl rfl hdg fun H1 e z oq => ?_
  refine kk H1 _ z (hP.set hD ha ?_ oq) (hS.put z oq (hD.2 q0 _ ha))
  show H1[a]? = some (vp_cell _ _)
  rw [e, vp_cell_i, vp_cell_i, arrV_store]
  congr 2
  funext q
  by_cases hq : q = i.toNatClampNeg
  · subst hq
    simp [updV, upd]
  · simp [updV, upd, hq]
theorem zz_zast (hexec : p.tables.exec = Jvm.exec) (hb : c.code = cc) (hK : va_K D cl tys s) (hP : va_P D cl ws H) (hD : va_D A ws) (hS : va_S A H0 H locs) (q0 t0 : Nat) {cA : ClassId} {n : Nat} {f : Nat → Int32} (ha : ws[q0]? = some (a, .inl (cA, n, .inl f))) (ht : tys[t0]? = some (cA, .boolean)) {i : Int32} {x : Int32} (hin : vp_in i n) (hdg : decode cc pc = .ok (.bastore, 1))
    (kk : ∀ (H1 : Heap) (locs1 : List Loc), H1.size = H.size → va_P D cl (ws.set q0 (a, .inl (cA, n, .inl (upd f i.toNatClampNeg (vp_nar .boolean x))))) H1 → va_S A H0 H1 locs1 → W p l e R s m args below meth c H1 locs1 cells slots Qt (F0 m (pc + 1) ls rest)) : W p l e R s m args below meth c H locs cells slots Qt (F0 m pc ls (.int x :: .int i :: .ref a :: rest)) := by
  refine W.zast hexec hb (hP q0 _ ha) ((hK.2 t0 _ ht).1 n (fun j => .int (f j))) (fun q => by cases q) (by show ¬ (i < 0 ∨ (arrV _ _ _).slots.size ≤ _); rw [arrV_size]; exact hin) rfl rfl hdg fun H1 e z oq => ?_
  refine kk H1 _ z (hP.set hD ha ?_ oq) (hS.put z oq (hD.2 q0 _ ha))
  show H1[a]? = some (vp_cell _ _)
  rw [e, vp_cell_i, vp_cell_i, arrV_store]
  congr 2
  funext q
  by_cases hq : q = i.toNatClampNeg
  · subst hq
    simp [updV, upd, vp_nar]
    try rfl
  · simp [updV, upd, hq]
theorem zz_last (hexec : p.tables.exec = Jvm.exec) (hb : c.code = cc) (hK : va_K D cl tys s) (hP : va_P D cl ws H) (hD : va_D A ws) (hS : va_S A H0 H locs) (q0 t0 : Nat) {cA : ClassId} {n : Nat} {f : Nat → Int64} (ha : ws[q0]? = some (a, .inl (cA, n, .inr (.inl f)))) (ht : tys[t0]? = some (cA, .long)) {i : Int32} {x : Int64} (hin : vp_in i n) (hdg : decode cc pc = .ok (.lastore, 1))
    (kk : ∀ (H1 : Heap) (locs1 : List Loc), H1.size = H.size → va_P D cl (ws.set q0 (a, .inl (cA, n, .inr (.inl (vp_updL f i.toNatClampNeg x))))) H1 → va_S A H0 H1 locs1 → W p l e R s m args below meth c H1 locs1 cells slots Qt (F0 m (pc + 1) ls rest)) : W p l e R s m args below meth c H locs cells slots Qt (F0 m pc ls (.long x :: .int i :: .ref a :: rest)) := by
  refine W.last hexec hb (hP q0 _ ha) ((hK.2 t0 _ ht).1 n (fun j => .long (f j))) (fun q => by cases q) (by show ¬ (i < 0 ∨ (arrV _ _ _).slots.size ≤ _); rw [arrV_size]; exact hin) rfl rfl hdg fun H1 e z oq => ?_
  refine kk H1 _ z (hP.set hD ha ?_ oq) (hS.put z oq (hD.2 q0 _ ha))
  show H1[a]? = some (vp_cell _ _)
  rw [e, vp_cell_l, vp_cell_l, arrV_store]
  congr 2
  funext q
  by_cases hq : q = i.toNatClampNeg
  · subst hq
    simp [updV, vp_updL]
  · simp [updV, vp_updL, hq]
theorem zz_aald (hexec : p.tables.exec = Jvm.exec) (hb : c.code = cc) (hK : va_K D cl tys s) (hP : va_P D cl ws H) (q0 t0 : Nat) {cA : ClassId} {ty : FieldType} {n : Nat} {f : Nat → Option Nat} (ha : ws[q0]? = some (a, .inl (cA, n, .inr (.inr (.inr (.inr f)))))) (ht : tys[t0]? = some (cA, ty)) (hty : ty.isReference = true) {i : Int32} (hin : vp_in i n) (hdg : decode cc pc = .ok (.aaload, 1))
    (kk : W p l e R s m args below meth c H locs cells slots Qt (F0 m (pc + 1) ls (va_rf (f i.toNatClampNeg) :: rest))) : W p l e R s m args below meth c H locs cells slots Qt (F0 m pc ls (.int i :: .ref a :: rest)) := by
  have hlt : i.toNatClampNeg < n := Nat.not_le.mp fun q => hin (Or.inr q)
  exact W.aald (v := va_rf (f i.toNatClampNeg)) (ty := ty) hexec hb (hP q0 _ ha) ((hK.2 t0 _ ht).1 n (fun j => va_rf (f j))) hty (fun q => by cases q) (by show ¬ (i < 0 ∨ (arrV _ _ _).slots.size ≤ _); rw [arrV_size]; exact hin) (by show (arrV _ _ _).slots[_]? = _; rw [arrV_read _ _ hlt]) rfl rfl hdg kk
end ZZP
section ZZH
variable {sc : Nat × (Nat → Int32)} {d mc ms : Nat} {M : zz_MD} {pc : Nat} {L : List (Option Value)} {S : List Value} {σ : zz_St} {Q : Option Value → zz_St → Prop}
theorem Ev.getf {k ci j idx : Nat} {fs : List (Option (Option Nat))} {x : Option (Option Nat)} {v : Value} (hoc : M.1.cls = zz_cn M.2.2.2.2) (hlk : zz_fl M.2.2.2.2 idx = some (ci, j)) (hd : decode M.2.1 pc = .ok (.getfield idx, 3)) (hk : σ.1[k]? = some (.inl (ci, fs))) (hf : fs[j]? = some x) (hv : zz_val σ.2.1 k j x = some v)
    (kk : Ev sc d mc ms M (pc + 3) L (v :: S) σ Q) : Ev sc d mc ms M pc L (.ref k :: S) σ Q := by
  intro p l e R s m args below meth c D cA b ex H locs cells slots Qt ls hC hR hL hf1 hlo hce hsl hret
  have K := kk p l e R s m args below meth c D cA b ex H locs cells slots Qt ls hC hR hL hf1 hlo hce hsl hret
  obtain ⟨hx, hb, hml, hown, hts, hK, hX, hbl, hnm⟩ := hC
  obtain ⟨h1, h2, h3⟩ := zz_fl_ok hlk
  have hk9 : k < σ.1.length := (List.getElem?_eq_some_iff.mp hk).1
  have hadr : zz_ad b ex k = b + k := if_pos (Nat.lt_trans hk9 hR.2.1)
  show W p l e R s m args below meth c H locs cells slots Qt (F0 m pc ls (.ref (zz_ad b ex k) :: S.map (zz_tr b ex)))
  rw [hadr]
  refine va_get (D := D) (ci := ci) (v := zz_tr b ex v) (own := M.1.cls) (C := zz_Rn ci) (T := zz_Tn ci) (N := zz_Nn ci) hx hb hts (zz_lays h1) hown hK.1 hR.2.2.1 k (zz_ws_get hk) (zz_cl_at h1) j h2 (hts _ (by rw [hoc]; exact h3)) (fun _ h9 => h9) ?_ hd K
  rw [List.getElem?_mapIdx, hf]
  cases x with
  | none => cases hv; rfl
  | some z => cases z with
    | none => cases hv
    | some q => cases hv; rfl
theorem Ev.putf {k ci j idx : Nat} {fs : List (Option (Option Nat))} {v : Int32} (hoc : M.1.cls = zz_cn M.2.2.2.2) (hlk : zz_fl M.2.2.2.2 idx = some (ci, j)) (hI : (zz_Tn ci j).2.2 = ("I", false)) (hd : decode M.2.1 pc = .ok (.putfield idx, 3)) (hk : σ.1[k]? = some (.inl (ci, fs))) (hf : fs[j]? = some none)
    (kk : Ev sc d mc ms M (pc + 3) L S (σ.1, zz_up σ.2.1 k j v, σ.2.2) Q) : Ev sc d mc ms M pc L (.int v :: .ref k :: S) σ Q := by
  intro p l e R s m args below meth c D cA b ex H locs cells slots Qt ls hC hR hL hf1 hlo hce hsl hret
  have K := fun H1 locs1 hR1 => kk p l e R s m args below meth c D cA b ex H1 locs1 cells slots Qt ls hC hR1 hL hf1 hlo hce hsl hret
  obtain ⟨hx, hb, hml, hown, hts, hK, hX, hbl, hnm⟩ := hC
  obtain ⟨h1, h2, h3⟩ := zz_fl_ok hlk
  have hk9 : k < σ.1.length := (List.getElem?_eq_some_iff.mp hk).1
  have hadr : zz_ad b ex k = b + k := if_pos (Nat.lt_trans hk9 hR.2.1)
  show W p l e R s m args below meth c H locs cells slots Qt (F0 m pc ls (.int v :: .ref (zz_ad b ex k) :: S.map (zz_tr b ex)))
  rw [hadr]
  have e1 : (zz_Tn ci j).2.2.1 = "I" := by rw [hI]
  refine zz_put (D := D) (ci := ci) (v := .int v) (ty := .int) (own := M.1.cls) (C := zz_Rn ci) (T := zz_Tn ci) (N := zz_Nn ci) hx hb hts (zz_lays h1) (zz_tn ci) (zz_tn_ok h1) (zz_nm_ok h1) hown hK.1 hR.2.2.1 (zz_ws_D cA b ex σ) hR.2.2.2 k (zz_ws_get hk) (zz_cl_at h1) j h2 (hts _ (by rw [hoc]; exact h3)) (by rw [hI]) (by rw [e1]; decide +kernel) rfl rfl (by rw [List.length_mapIdx]; exact (List.getElem?_eq_some_iff.mp hf).1) hd (fun H1 locs1 hz1 hP1 hS1 => K H1 locs1 ⟨hz1.trans hR.1, hR.2.1, ?_, hS1⟩)
  rw [zz_ws_up hk]
  have e2 := zz_fv_set (b := b) (ex := ex) (g := σ.2.1 k) (v := v) hf
  show va_P D zz_cl ((zz_ws cA b ex σ).set k (b + k, .inr (ci, fs.mapIdx (fun i y => zz_fv b ex (upd (σ.2.1 k) j v) i y)))) H1
  rw [e2]
  exact hP1
theorem Ev.iald0 {k n : Nat} {rs : List (Option Nat)} {i : Int32} (hd : decode M.2.1 pc = .ok (.iaload, 1)) (hk : σ.1[k]? = some (.inr (0, n, rs))) (hin : vp_in i n)
    (kk : Ev sc d mc ms M (pc + 1) L (.int (σ.2.1 k i.toNatClampNeg) :: S) σ Q) : Ev sc d mc ms M pc L (.int i :: .ref k :: S) σ Q := by
  intro p l e R s m args below meth c D cA b ex H locs cells slots Qt ls hC hR hL hf1 hlo hce hsl hret
  have K := kk p l e R s m args below meth c D cA b ex H locs cells slots Qt ls hC hR hL hf1 hlo hce hsl hret
  obtain ⟨hx, hb, hml, hown, hts, hK, hX, hbl, hnm⟩ := hC
  have hk9 : k < σ.1.length := (List.getElem?_eq_some_iff.mp hk).1
  have hadr : zz_ad b ex k = b + k := if_pos (Nat.lt_trans hk9 hR.2.1)
  show W p l e R s m args below meth c H locs cells slots Qt (F0 m pc ls (.int i :: .ref (zz_ad b ex k) :: S.map (zz_tr b ex)))
  rw [hadr]
  exact va_iald hx hb hK.1 hR.2.2.1 k 0 (zz_ws_get hk) rfl hin hd K
theorem Ev.zald0 {k n : Nat} {rs : List (Option Nat)} {i : Int32} (hd : decode M.2.1 pc = .ok (.baload, 1)) (hk : σ.1[k]? = some (.inr (2, n, rs))) (hin : vp_in i n)
    (kk : Ev sc d mc ms M (pc + 1) L (.int (σ.2.1 k i.toNatClampNeg) :: S) σ Q) : Ev sc d mc ms M pc L (.int i :: .ref k :: S) σ Q := by
  intro p l e R s m args below meth c D cA b ex H locs cells slots Qt ls hC hR hL hf1 hlo hce hsl hret
  have K := kk p l e R s m args below meth c D cA b ex H locs cells slots Qt ls hC hR hL hf1 hlo hce hsl hret
  obtain ⟨hx, hb, hml, hown, hts, hK, hX, hbl, hnm⟩ := hC
  have hk9 : k < σ.1.length := (List.getElem?_eq_some_iff.mp hk).1
  have hadr : zz_ad b ex k = b + k := if_pos (Nat.lt_trans hk9 hR.2.1)
  show W p l e R s m args below meth c H locs cells slots Qt (F0 m pc ls (.int i :: .ref (zz_ad b ex k) :: S.map (zz_tr b ex)))
  rw [hadr]
  exact va_zald hx hb hK.1 hR.2.2.1 k 2 (zz_ws_get hk) rfl hin hd K
theorem Ev.lald0 {k n : Nat} {rs : List (Option Nat)} {i : Int32} (hd : decode M.2.1 pc = .ok (.laload, 1)) (hk : σ.1[k]? = some (.inr (1, n, rs))) (hin : vp_in i n)
    (kk : Ev sc d mc ms M (pc + 1) L (.long (σ.2.2 k i.toNatClampNeg) :: S) σ Q) : Ev sc d mc ms M pc L (.int i :: .ref k :: S) σ Q := by
  intro p l e R s m args below meth c D cA b ex H locs cells slots Qt ls hC hR hL hf1 hlo hce hsl hret
  have K := kk p l e R s m args below meth c D cA b ex H locs cells slots Qt ls hC hR hL hf1 hlo hce hsl hret
  obtain ⟨hx, hb, hml, hown, hts, hK, hX, hbl, hnm⟩ := hC
  have hk9 : k < σ.1.length := (List.getElem?_eq_some_iff.mp hk).1
  have hadr : zz_ad b ex k = b + k := if_pos (Nat.lt_trans hk9 hR.2.1)
  show W p l e R s m args below meth c H locs cells slots Qt (F0 m pc ls (.int i :: .ref (zz_ad b ex k) :: S.map (zz_tr b ex)))
  rw [hadr]
  exact va_lald hx hb hK.1 hR.2.2.1 k 1 (zz_ws_get hk) rfl hin hd K
theorem Ev.aald0 {k n tg r : Nat} {rs : List (Option Nat)} {i : Int32} (hd : decode M.2.1 pc = .ok (.aaload, 1)) (hk : σ.1[k]? = some (.inr (tg, n, rs))) (htg : 3 ≤ tg ∧ tg ≤ 6) (hin : vp_in i n) (hr : rs[i.toNatClampNeg]? = some (some r))
    (kk : Ev sc d mc ms M (pc + 1) L (.ref r :: S) σ Q) : Ev sc d mc ms M pc L (.int i :: .ref k :: S) σ Q := by
  intro p l e R s m args below meth c D cA b ex H locs cells slots Qt ls hC hR hL hf1 hlo hce hsl hret
  have K := kk p l e R s m args below meth c D cA b ex H locs cells slots Qt ls hC hR hL hf1 hlo hce hsl hret
  obtain ⟨hx, hb, hml, hown, hts, hK, hX, hbl, hnm⟩ := hC
  have hk9 : k < σ.1.length := (List.getElem?_eq_some_iff.mp hk).1
  have hadr : zz_ad b ex k = b + k := if_pos (Nat.lt_trans hk9 hR.2.1)
  show W p l e R s m args below meth c H locs cells slots Qt (F0 m pc ls (.int i :: .ref (zz_ad b ex k) :: S.map (zz_tr b ex)))
  rw [hadr]
  have e1 : va_rf ((fun j => (rs[j]?.join).map (zz_ad b ex)) i.toNatClampNeg) = .ref (zz_ad b ex r) := by
    show va_rf ((rs[i.toNatClampNeg]?.join).map (zz_ad b ex)) = _
    rw [hr]; rfl
  have K2 : W p l e R s m args below meth c H locs cells slots Qt (F0 m (pc + 1) ls (va_rf ((fun j => (rs[j]?.join).map (zz_ad b ex)) i.toNatClampNeg) :: S.map (zz_tr b ex))) := by
    rw [e1]; exact K
  rcases (show tg = 3 ∨ tg = 4 ∨ tg = 5 ∨ tg = 6 by omega) with rfl | rfl | rfl | rfl
  · exact zz_aald hx hb hK.1 hR.2.2.1 k 3 (zz_ws_get hk) rfl rfl hin hd K2
  · exact zz_aald hx hb hK.1 hR.2.2.1 k 4 (zz_ws_get hk) rfl rfl hin hd K2
  · exact zz_aald hx hb hK.1 hR.2.2.1 k 5 (zz_ws_get hk) rfl rfl hin hd K2
  · exact zz_aald hx hb hK.1 hR.2.2.1 k 6 (zz_ws_get hk) rfl rfl hin hd K2
theorem Ev.iast0 {k n : Nat} {rs : List (Option Nat)} {i v : Int32} (hd : decode M.2.1 pc = .ok (.iastore, 1)) (hk : σ.1[k]? = some (.inr (0, n, rs))) (hin : vp_in i n)
    (kk : Ev sc d mc ms M (pc + 1) L S (σ.1, zz_up σ.2.1 k i.toNatClampNeg v, σ.2.2) Q) : Ev sc d mc ms M pc L (.int v :: .int i :: .ref k :: S) σ Q := by
  intro p l e R s m args below meth c D cA b ex H locs cells slots Qt ls hC hR hL hf1 hlo hce hsl hret
  have K := fun H1 locs1 hR1 => kk p l e R s m args below meth c D cA b ex H1 locs1 cells slots Qt ls hC hR1 hL hf1 hlo hce hsl hret
  obtain ⟨hx, hb, hml, hown, hts, hK, hX, hbl, hnm⟩ := hC
  have hk9 : k < σ.1.length := (List.getElem?_eq_some_iff.mp hk).1
  have hadr : zz_ad b ex k = b + k := if_pos (Nat.lt_trans hk9 hR.2.1)
  show W p l e R s m args below meth c H locs cells slots Qt (F0 m pc ls (.int v :: .int i :: .ref (zz_ad b ex k) :: S.map (zz_tr b ex)))
  rw [hadr]
  exact zz_iast hx hb hK.1 hR.2.2.1 (zz_ws_D cA b ex σ) hR.2.2.2 k 0 (zz_ws_get hk) rfl hin hd (fun H1 locs1 hz1 hP1 hS1 => K H1 locs1 ⟨hz1.trans hR.1, hR.2.1, by rw [zz_ws_up hk]; exact hP1, hS1⟩)
theorem Ev.zast0 {k n : Nat} {rs : List (Option Nat)} {i v : Int32} (hd : decode M.2.1 pc = .ok (.bastore, 1)) (hk : σ.1[k]? = some (.inr (2, n, rs))) (hin : vp_in i n)
    (kk : Ev sc d mc ms M (pc + 1) L S (σ.1, zz_up σ.2.1 k i.toNatClampNeg (vp_nar .boolean v), σ.2.2) Q) : Ev sc d mc ms M pc L (.int v :: .int i :: .ref k :: S) σ Q := by
  intro p l e R s m args below meth c D cA b ex H locs cells slots Qt ls hC hR hL hf1 hlo hce hsl hret
  have K := fun H1 locs1 hR1 => kk p l e R s m args below meth c D cA b ex H1 locs1 cells slots Qt ls hC hR1 hL hf1 hlo hce hsl hret
  obtain ⟨hx, hb, hml, hown, hts, hK, hX, hbl, hnm⟩ := hC
  have hk9 : k < σ.1.length := (List.getElem?_eq_some_iff.mp hk).1
  have hadr : zz_ad b ex k = b + k := if_pos (Nat.lt_trans hk9 hR.2.1)
  show W p l e R s m args below meth c H locs cells slots Qt (F0 m pc ls (.int v :: .int i :: .ref (zz_ad b ex k) :: S.map (zz_tr b ex)))
  rw [hadr]
  exact zz_zast hx hb hK.1 hR.2.2.1 (zz_ws_D cA b ex σ) hR.2.2.2 k 2 (zz_ws_get hk) rfl hin hd (fun H1 locs1 hz1 hP1 hS1 => K H1 locs1 ⟨hz1.trans hR.1, hR.2.1, by rw [zz_ws_up hk]; exact hP1, hS1⟩)
theorem Ev.last0 {k n : Nat} {rs : List (Option Nat)} {i : Int32} {v : Int64} (hd : decode M.2.1 pc = .ok (.lastore, 1)) (hk : σ.1[k]? = some (.inr (1, n, rs))) (hin : vp_in i n)
    (kk : Ev sc d mc ms M (pc + 1) L S (σ.1, σ.2.1, zz_upL σ.2.2 k i.toNatClampNeg v) Q) : Ev sc d mc ms M pc L (.long v :: .int i :: .ref k :: S) σ Q := by
  intro p l e R s m args below meth c D cA b ex H locs cells slots Qt ls hC hR hL hf1 hlo hce hsl hret
  have K := fun H1 locs1 hR1 => kk p l e R s m args below meth c D cA b ex H1 locs1 cells slots Qt ls hC hR1 hL hf1 hlo hce hsl hret
  obtain ⟨hx, hb, hml, hown, hts, hK, hX, hbl, hnm⟩ := hC
  have hk9 : k < σ.1.length := (List.getElem?_eq_some_iff.mp hk).1
  have hadr : zz_ad b ex k = b + k := if_pos (Nat.lt_trans hk9 hR.2.1)
  show W p l e R s m args below meth c H locs cells slots Qt (F0 m pc ls (.long v :: .int i :: .ref (zz_ad b ex k) :: S.map (zz_tr b ex)))
  rw [hadr]
  exact zz_last hx hb hK.1 hR.2.2.1 (zz_ws_D cA b ex σ) hR.2.2.2 k 1 (zz_ws_get hk) rfl hin hd (fun H1 locs1 hz1 hP1 hS1 => K H1 locs1 ⟨hz1.trans hR.1, hR.2.1, by rw [zz_ws_upL hk]; exact hP1, hS1⟩)
end ZZH
end
section
theorem zz_w_math : Cond.initialized "java/lang/Math" ∈ zz_WG := by decide +kernel
theorem zz_w_mmin : Cond.static Lib.Math.min.name ∈ zz_WG ∧ Cond.code Lib.Math.min.name Lib.Math.min.code 2 (some .int) ∈ zz_WG := by decide +kernel
theorem zz_w_mmax : Cond.static Lib.Math.max.name ∈ zz_WG ∧ Cond.code Lib.Math.max.name Lib.Math.max.code 2 (some .int) ∈ zz_WG := by decide +kernel
theorem zz_w_mabs : Cond.static Lib.Math.abs.name ∈ zz_WG ∧ Cond.code Lib.Math.abs.name Lib.Math.abs.code 1 (some .int) ∈ zz_WG := by decide +kernel
theorem zz_ld_pc {pc n t i pc' : Nat} {L L' : List (Option Value)} {S S' : List Value} (h : zz_ld pc n L S t i = some (pc', L', S')) : pc' = pc + n := by
  unfold zz_ld at h
  split at h <;> cases h <;> rfl
theorem zz_so_pc {pc n t i pc' : Nat} {L L' : List (Option Value)} {S S' : List Value} (h : zz_so pc n L S t i = some (pc', L', S')) : pc' = pc + n := by
  unfold zz_so at h
  split at h
  · cases h
  · split at h
    · cases h; rfl
    · cases h; rfl
    · split at h <;> cases h; rfl
    · cases h
theorem zz_b2_pc {pc n pc' : Nat} {f : Int32 → Int32 → Int32} {L L' : List (Option Value)} {S S' : List Value} (h : zz_b2 pc n L S f = some (pc', L', S')) : pc' = pc + n := by
  unfold zz_b2 at h
  split at h <;> cases h; rfl
theorem zz_step_pc {i : Instr} {n pc pc' : Nat} {L L' : List (Option Value)} {S S' : List Value} (h : zz_step i n pc L S = some (pc', L', S')) : pc' = pc + n := by
  cases i <;> simp only [zz_step, zz_psh] at h
  all_goals (first | (cases h; done) | (exact zz_ld_pc h) | (exact zz_so_pc h) | (exact zz_b2_pc h) | (cases h; rfl) | (split at h <;> first | (cases h; done) | (cases h; rfl)))
/-! ===== the other instructions ===== -/
section ZZO
variable {sc : Nat × (Nat → Int32)} {d mc ms : Nat} {M : zz_MD} {pc : Nat} {L : List (Option Value)} {S : List Value} {σ : zz_St} {Q : Option Value → zz_St → Prop}
theorem zz_exA (b : Nat) (ex : Nat → Nat) (i : Nat) : zz_ad b ex (100000 + i) = ex i := by
  unfold zz_ad
  rw [if_neg (by omega), Nat.add_sub_cancel_left]
theorem Ev.xld {i0 : Nat} {i : Int32} (hd : decode M.2.1 pc = .ok (.iaload, 1)) (h4 : i0 < 4) (hin : vp_in i (zz_xs sc i0).1)
    (kk : Ev sc d mc ms M (pc + 1) L (.int ((zz_xs sc i0).2 i.toNatClampNeg) :: S) σ Q) : Ev sc d mc ms M pc L (.int i :: .ref (100000 + i0) :: S) σ Q := by
  intro p l e R s m args below meth c D cA b ex H locs cells slots Qt ls hC hR hL hf1 hlo hce hsl hret
  have K := kk p l e R s m args below meth c D cA b ex H locs cells slots Qt ls hC hR hL hf1 hlo hce hsl hret
  obtain ⟨hx, hb, hml, hown, hts, hK, hX, hbl, hnm⟩ := hC
  show W p l e R s m args below meth c H locs cells slots Qt (F0 m pc ls (.int i :: .ref (zz_ad b ex (100000 + i0)) :: S.map (zz_tr b ex)))
  rw [zz_exA]
  exact va_sld hx hb (hX.1 i0 h4).2 (Nat.lt_of_lt_of_le (hX.1 i0 h4).1 hbl) (Nat.not_le.mpr (hX.1 i0 h4).1) hR.2.2.2 hin hd K
theorem Ev.xlen {i0 : Nat} (hd : decode M.2.1 pc = .ok (.arraylength, 1)) (h4 : i0 < 4)
    (kk : Ev sc d mc ms M (pc + 1) L (.int (Int32.ofNat (zz_xs sc i0).1) :: S) σ Q) : Ev sc d mc ms M pc L (.ref (100000 + i0) :: S) σ Q := by
  intro p l e R s m args below meth c D cA b ex H locs cells slots Qt ls hC hR hL hf1 hlo hce hsl hret
  have K := kk p l e R s m args below meth c D cA b ex H locs cells slots Qt ls hC hR hL hf1 hlo hce hsl hret
  obtain ⟨hx, hb, hml, hown, hts, hK, hX, hbl, hnm⟩ := hC
  show W p l e R s m args below meth c H locs cells slots Qt (F0 m pc ls (.ref (zz_ad b ex (100000 + i0)) :: S.map (zz_tr b ex)))
  rw [zz_exA]
  exact va_slen hx hb (hX.1 i0 h4).2 (Nat.lt_of_lt_of_le (hX.1 i0 h4).1 hbl) (Nat.not_le.mpr (hX.1 i0 h4).1) hR.2.2.2 hd K
theorem Ev.alen {k n : Nat} {rs : List (Option Nat)} {v : Int32} (hd : decode M.2.1 pc = .ok (.arraylength, 1)) (hk : σ.1[k]? = some (.inr (0, n, rs))) (hv : Int32.ofNat n = v)
    (kk : Ev sc d mc ms M (pc + 1) L (.int v :: S) σ Q) : Ev sc d mc ms M pc L (.ref k :: S) σ Q := by
  intro p l e R s m args below meth c D cA b ex H locs cells slots Qt ls hC hR hL hf1 hlo hce hsl hret
  have K := kk p l e R s m args below meth c D cA b ex H locs cells slots Qt ls hC hR hL hf1 hlo hce hsl hret
  obtain ⟨hx, hb, hml, hown, hts, hK, hX, hbl, hnm⟩ := hC
  have hk9 : k < σ.1.length := (List.getElem?_eq_some_iff.mp hk).1
  have hadr : zz_ad b ex k = b + k := if_pos (Nat.lt_trans hk9 hR.2.1)
  show W p l e R s m args below meth c H locs cells slots Qt (F0 m pc ls (.ref (zz_ad b ex k) :: S.map (zz_tr b ex)))
  rw [hadr]
  exact va_alen hx hb hK.1 hR.2.2.1 k 0 (zz_ws_get hk) rfl hv hd K
theorem Ev.gets {i0 idx : Nat} (hd : decode M.2.1 pc = .ok (.getstatic idx, 3)) (h1 : 1 ≤ i0) (h4 : i0 < 4) (hlk : Cond.fieldLink M.1.cls idx RX0 (zz_sn i0) "[I" ∈ zz_WG)
    (kk : Ev sc d mc ms M (pc + 3) L (.ref (100000 + i0) :: S) σ Q) : Ev sc d mc ms M pc L S σ Q := by
  intro p l e R s m args below meth c D cA b ex H locs cells slots Qt ls hC hR hL hf1 hlo hce hsl hret
  have K := kk p l e R s m args below meth c D cA b ex H locs cells slots Qt ls hC hR hL hf1 hlo hce hsl hret
  obtain ⟨hx, hb, hml, hown, hts, hK, hX, hbl, hnm⟩ := hC
  have K2 : W p l e R s m args below meth c H locs cells slots Qt (F0 m (pc + 3) ls (.ref (ex i0) :: S.map (zz_tr b ex))) := by
    rw [← zz_exA b ex i0]; exact K
  exact va_gets hx hb (hX.2 i0 h1 h4) hR.2.2.2 hown (hts _ hlk) (fun _ h => h) hd K2
theorem Ev.ldc {idx : Nat} {v : Int32} (hd : decode M.2.1 pc = .ok (.ldc idx, 2)) (hw : Cond.constant M.1.cls idx v ∈ zz_WG)
    (kk : Ev sc d mc ms M (pc + 2) L (.int v :: S) σ Q) : Ev sc d mc ms M pc L S σ Q := by
  intro p l e R s m args below meth c D cA b ex H locs cells slots Qt ls hC hR hL hf1 hlo hce hsl hret
  have K := kk p l e R s m args below meth c D cA b ex H locs cells slots Qt ls hC hR hL hf1 hlo hce hsl hret
  obtain ⟨hx, hb, hml, hown, hts, hK, hX, hbl, hnm⟩ := hC
  exact lv_ldc hx hb hown (hts _ hw) hd K
theorem Ev.ldc2 {idx : Nat} {v : Int64} (hd : decode M.2.1 pc = .ok (.ldc2_w idx, 3)) (hw : Cond.constantLong M.1.cls idx v ∈ zz_WG)
    (kk : Ev sc d mc ms M (pc + 3) L (.long v :: S) σ Q) : Ev sc d mc ms M pc L S σ Q := by
  intro p l e R s m args below meth c D cA b ex H locs cells slots Qt ls hC hR hL hf1 hlo hce hsl hret
  have K := kk p l e R s m args below meth c D cA b ex H locs cells slots Qt ls hC hR hL hf1 hlo hce hsl hret
  obtain ⟨hx, hb, hml, hown, hts, hK, hX, hbl, hnm⟩ := hC
  exact lv_ldc2 hx hb hown (hts _ hw) hd K
theorem Ev.idiv {x y : Int32} (hd : decode M.2.1 pc = .ok (.idiv, 1)) (hne : ¬ y = 0)
    (kk : Ev sc d mc ms M (pc + 1) L (.int (x / y) :: S) σ Q) : Ev sc d mc ms M pc L (.int y :: .int x :: S) σ Q := by
  intro p l e R s m args below meth c D cA b ex H locs cells slots Qt ls hC hR hL hf1 hlo hce hsl hret
  have K := kk p l e R s m args below meth c D cA b ex H locs cells slots Qt ls hC hR hL hf1 hlo hce hsl hret
  obtain ⟨hx, hb, hml, hown, hts, hK, hX, hbl, hnm⟩ := hC
  exact lv_idiv hx hb hd hne K
theorem Ev.irem {x y : Int32} (hd : decode M.2.1 pc = .ok (.irem, 1)) (hne : ¬ y = 0)
    (kk : Ev sc d mc ms M (pc + 1) L (.int (x - x / y * y) :: S) σ Q) : Ev sc d mc ms M pc L (.int y :: .int x :: S) σ Q := by
  intro p l e R s m args below meth c D cA b ex H locs cells slots Qt ls hC hR hL hf1 hlo hce hsl hret
  have K := kk p l e R s m args below meth c D cA b ex H locs cells slots Qt ls hC hR hL hf1 hlo hce hsl hret
  obtain ⟨hx, hb, hml, hown, hts, hK, hX, hbl, hnm⟩ := hC
  exact lv_irem hx hb hd hne K
theorem Ev.goto {off : Int} {tgt : Nat} (hd : decode M.2.1 pc = .ok (.goto off, 3)) (ht : (pc : Int) + off = (tgt : Int)) (kk : Ev sc d mc ms M tgt L S σ Q) : Ev sc d mc ms M pc L S σ Q := by
  intro p l e R s m args below meth c D cA b ex H locs cells slots Qt ls hC hR hL hf1 hlo hce hsl hret
  have K := kk p l e R s m args below meth c D cA b ex H locs cells slots Qt ls hC hR hL hf1 hlo hce hsl hret
  obtain ⟨hx, hb, hml, hown, hts, hK, hX, hbl, hnm⟩ := hC
  exact lv_goto hx hb hd ht K
theorem Ev.tblOut {dflt lo hi : Int} {offs : Array Int} {len : Nat} {x : Int32} {tgt : Nat} (hd : decode M.2.1 pc = .ok (.tableswitch dflt lo hi offs, len)) (h : x.toInt < lo ∨ hi < x.toInt) (ht : (pc : Int) + dflt = (tgt : Int)) (kk : Ev sc d mc ms M tgt L S σ Q) : Ev sc d mc ms M pc L (.int x :: S) σ Q := by
  intro p l e R s m args below meth c D cA b ex H locs cells slots Qt ls hC hR hL hf1 hlo hce hsl hret
  have K := kk p l e R s m args below meth c D cA b ex H locs cells slots Qt ls hC hR hL hf1 hlo hce hsl hret
  obtain ⟨hx, hb, hml, hown, hts, hK, hX, hbl, hnm⟩ := hC
  exact lv_tableOut hx hb hd h ht K
theorem Ev.tblIn {dflt lo hi : Int} {offs : Array Int} {len : Nat} {x : Int32} {off : Int} {tgt : Nat} (hd : decode M.2.1 pc = .ok (.tableswitch dflt lo hi offs, len)) (h1 : ¬ x.toInt < lo) (h2 : ¬ hi < x.toInt) (ho : offs[(x.toInt - lo).toNat]? = some off) (ht : (pc : Int) + off = (tgt : Int)) (kk : Ev sc d mc ms M tgt L S σ Q) : Ev sc d mc ms M pc L (.int x :: S) σ Q := by
  intro p l e R s m args below meth c D cA b ex H locs cells slots Qt ls hC hR hL hf1 hlo hce hsl hret
  have K := kk p l e R s m args below meth c D cA b ex H locs cells slots Qt ls hC hR hL hf1 hlo hce hsl hret
  obtain ⟨hx, hb, hml, hown, hts, hK, hX, hbl, hnm⟩ := hC
  exact lv_tableIn hx hb hd h1 h2 ho ht K
theorem Ev.if_eq {x : Int32} {off : Int} {tgt : Nat} (hd : decode M.2.1 pc = .ok (.ifCond .eq off, 3)) (ht : (pc : Int) + off = (tgt : Int)) (kt : x = 0 → Ev sc d mc ms M tgt L S σ Q) (kf : ¬ (x = 0) → Ev sc d mc ms M (pc + 3) L S σ Q) : Ev sc d mc ms M pc L (.int x :: S) σ Q := by
  intro p l e R s m args below meth c D cA b ex H locs cells slots Qt ls hC hR hL hf1 hlo hce hsl hret
  have Kt := fun h => kt h p l e R s m args below meth c D cA b ex H locs cells slots Qt ls hC hR hL hf1 hlo hce hsl hret
  have Kf := fun h => kf h p l e R s m args below meth c D cA b ex H locs cells slots Qt ls hC hR hL hf1 hlo hce hsl hret
  obtain ⟨hx, hb, hml, hown, hts, hK, hX, hbl, hnm⟩ := hC
  exact lv_if_eq hx hb hd ht Kt Kf
theorem Ev.icmp_eq {x y : Int32} {off : Int} {tgt : Nat} (hd : decode M.2.1 pc = .ok (.if_icmp .eq off, 3)) (ht : (pc : Int) + off = (tgt : Int)) (kt : x = y → Ev sc d mc ms M tgt L S σ Q) (kf : ¬ (x = y) → Ev sc d mc ms M (pc + 3) L S σ Q) : Ev sc d mc ms M pc L (.int y :: .int x :: S) σ Q := by
  intro p l e R s m args below meth c D cA b ex H locs cells slots Qt ls hC hR hL hf1 hlo hce hsl hret
  have Kt := fun h => kt h p l e R s m args below meth c D cA b ex H locs cells slots Qt ls hC hR hL hf1 hlo hce hsl hret
  have Kf := fun h => kf h p l e R s m args below meth c D cA b ex H locs cells slots Qt ls hC hR hL hf1 hlo hce hsl hret
  obtain ⟨hx, hb, hml, hown, hts, hK, hX, hbl, hnm⟩ := hC
  exact lv_icmp_eq hx hb hd ht Kt Kf
theorem Ev.if_ne {x : Int32} {off : Int} {tgt : Nat} (hd : decode M.2.1 pc = .ok (.ifCond .ne off, 3)) (ht : (pc : Int) + off = (tgt : Int)) (kt : ¬ x = 0 → Ev sc d mc ms M tgt L S σ Q) (kf : x = 0 → Ev sc d mc ms M (pc + 3) L S σ Q) : Ev sc d mc ms M pc L (.int x :: S) σ Q := by
  intro p l e R s m args below meth c D cA b ex H locs cells slots Qt ls hC hR hL hf1 hlo hce hsl hret
  have Kt := fun h => kt h p l e R s m args below meth c D cA b ex H locs cells slots Qt ls hC hR hL hf1 hlo hce hsl hret
  have Kf := fun h => kf h p l e R s m args below meth c D cA b ex H locs cells slots Qt ls hC hR hL hf1 hlo hce hsl hret
  obtain ⟨hx, hb, hml, hown, hts, hK, hX, hbl, hnm⟩ := hC
  exact lv_if_ne hx hb hd ht Kt Kf
theorem Ev.icmp_ne {x y : Int32} {off : Int} {tgt : Nat} (hd : decode M.2.1 pc = .ok (.if_icmp .ne off, 3)) (ht : (pc : Int) + off = (tgt : Int)) (kt : ¬ x = y → Ev sc d mc ms M tgt L S σ Q) (kf : x = y → Ev sc d mc ms M (pc + 3) L S σ Q) : Ev sc d mc ms M pc L (.int y :: .int x :: S) σ Q := by
  intro p l e R s m args below meth c D cA b ex H locs cells slots Qt ls hC hR hL hf1 hlo hce hsl hret
  have Kt := fun h => kt h p l e R s m args below meth c D cA b ex H locs cells slots Qt ls hC hR hL hf1 hlo hce hsl hret
  have Kf := fun h => kf h p l e R s m args below meth c D cA b ex H locs cells slots Qt ls hC hR hL hf1 hlo hce hsl hret
  obtain ⟨hx, hb, hml, hown, hts, hK, hX, hbl, hnm⟩ := hC
  exact lv_icmp_ne hx hb hd ht Kt Kf
theorem Ev.if_lt {x : Int32} {off : Int} {tgt : Nat} (hd : decode M.2.1 pc = .ok (.ifCond .lt off, 3)) (ht : (pc : Int) + off = (tgt : Int)) (kt : x < 0 → Ev sc d mc ms M tgt L S σ Q) (kf : ¬ (x < 0) → Ev sc d mc ms M (pc + 3) L S σ Q) : Ev sc d mc ms M pc L (.int x :: S) σ Q := by
  intro p l e R s m args below meth c D cA b ex H locs cells slots Qt ls hC hR hL hf1 hlo hce hsl hret
  have Kt := fun h => kt h p l e R s m args below meth c D cA b ex H locs cells slots Qt ls hC hR hL hf1 hlo hce hsl hret
  have Kf := fun h => kf h p l e R s m args below meth c D cA b ex H locs cells slots Qt ls hC hR hL hf1 hlo hce hsl hret
  obtain ⟨hx, hb, hml, hown, hts, hK, hX, hbl, hnm⟩ := hC
  exact lv_if_lt hx hb hd ht Kt Kf
theorem Ev.icmp_lt {x y : Int32} {off : Int} {tgt : Nat} (hd : decode M.2.1 pc = .ok (.if_icmp .lt off, 3)) (ht : (pc : Int) + off = (tgt : Int)) (kt : x < y → Ev sc d mc ms M tgt L S σ Q) (kf : ¬ (x < y) → Ev sc d mc ms M (pc + 3) L S σ Q) : Ev sc d mc ms M pc L (.int y :: .int x :: S) σ Q := by
  intro p l e R s m args below meth c D cA b ex H locs cells slots Qt ls hC hR hL hf1 hlo hce hsl hret
  have Kt := fun h => kt h p l e R s m args below meth c D cA b ex H locs cells slots Qt ls hC hR hL hf1 hlo hce hsl hret
  have Kf := fun h => kf h p l e R s m args below meth c D cA b ex H locs cells slots Qt ls hC hR hL hf1 hlo hce hsl hret
  obtain ⟨hx, hb, hml, hown, hts, hK, hX, hbl, hnm⟩ := hC
  exact lv_icmp_lt hx hb hd ht Kt Kf
theorem Ev.if_ge {x : Int32} {off : Int} {tgt : Nat} (hd : decode M.2.1 pc = .ok (.ifCond .ge off, 3)) (ht : (pc : Int) + off = (tgt : Int)) (kt : 0 ≤ x → Ev sc d mc ms M tgt L S σ Q) (kf : ¬ (0 ≤ x) → Ev sc d mc ms M (pc + 3) L S σ Q) : Ev sc d mc ms M pc L (.int x :: S) σ Q := by
  intro p l e R s m args below meth c D cA b ex H locs cells slots Qt ls hC hR hL hf1 hlo hce hsl hret
  have Kt := fun h => kt h p l e R s m args below meth c D cA b ex H locs cells slots Qt ls hC hR hL hf1 hlo hce hsl hret
  have Kf := fun h => kf h p l e R s m args below meth c D cA b ex H locs cells slots Qt ls hC hR hL hf1 hlo hce hsl hret
  obtain ⟨hx, hb, hml, hown, hts, hK, hX, hbl, hnm⟩ := hC
  exact lv_if_ge hx hb hd ht Kt Kf
theorem Ev.icmp_ge {x y : Int32} {off : Int} {tgt : Nat} (hd : decode M.2.1 pc = .ok (.if_icmp .ge off, 3)) (ht : (pc : Int) + off = (tgt : Int)) (kt : y ≤ x → Ev sc d mc ms M tgt L S σ Q) (kf : ¬ (y ≤ x) → Ev sc d mc ms M (pc + 3) L S σ Q) : Ev sc d mc ms M pc L (.int y :: .int x :: S) σ Q := by
  intro p l e R s m args below meth c D cA b ex H locs cells slots Qt ls hC hR hL hf1 hlo hce hsl hret
  have Kt := fun h => kt h p l e R s m args below meth c D cA b ex H locs cells slots Qt ls hC hR hL hf1 hlo hce hsl hret
  have Kf := fun h => kf h p l e R s m args below meth c D cA b ex H locs cells slots Qt ls hC hR hL hf1 hlo hce hsl hret
  obtain ⟨hx, hb, hml, hown, hts, hK, hX, hbl, hnm⟩ := hC
  exact lv_icmp_ge hx hb hd ht Kt Kf
theorem Ev.if_gt {x : Int32} {off : Int} {tgt : Nat} (hd : decode M.2.1 pc = .ok (.ifCond .gt off, 3)) (ht : (pc : Int) + off = (tgt : Int)) (kt : 0 < x → Ev sc d mc ms M tgt L S σ Q) (kf : ¬ (0 < x) → Ev sc d mc ms M (pc + 3) L S σ Q) : Ev sc d mc ms M pc L (.int x :: S) σ Q := by
  intro p l e R s m args below meth c D cA b ex H locs cells slots Qt ls hC hR hL hf1 hlo hce hsl hret
  have Kt := fun h => kt h p l e R s m args below meth c D cA b ex H locs cells slots Qt ls hC hR hL hf1 hlo hce hsl hret
  have Kf := fun h => kf h p l e R s m args below meth c D cA b ex H locs cells slots Qt ls hC hR hL hf1 hlo hce hsl hret
  obtain ⟨hx, hb, hml, hown, hts, hK, hX, hbl, hnm⟩ := hC
  exact lv_if_gt hx hb hd ht Kt Kf
theorem Ev.icmp_gt {x y : Int32} {off : Int} {tgt : Nat} (hd : decode M.2.1 pc = .ok (.if_icmp .gt off, 3)) (ht : (pc : Int) + off = (tgt : Int)) (kt : y < x → Ev sc d mc ms M tgt L S σ Q) (kf : ¬ (y < x) → Ev sc d mc ms M (pc + 3) L S σ Q) : Ev sc d mc ms M pc L (.int y :: .int x :: S) σ Q := by
  intro p l e R s m args below meth c D cA b ex H locs cells slots Qt ls hC hR hL hf1 hlo hce hsl hret
  have Kt := fun h => kt h p l e R s m args below meth c D cA b ex H locs cells slots Qt ls hC hR hL hf1 hlo hce hsl hret
  have Kf := fun h => kf h p l e R s m args below meth c D cA b ex H locs cells slots Qt ls hC hR hL hf1 hlo hce hsl hret
  obtain ⟨hx, hb, hml, hown, hts, hK, hX, hbl, hnm⟩ := hC
  exact lv_icmp_gt hx hb hd ht Kt Kf
theorem Ev.if_le {x : Int32} {off : Int} {tgt : Nat} (hd : decode M.2.1 pc = .ok (.ifCond .le off, 3)) (ht : (pc : Int) + off = (tgt : Int)) (kt : x ≤ 0 → Ev sc d mc ms M tgt L S σ Q) (kf : ¬ (x ≤ 0) → Ev sc d mc ms M (pc + 3) L S σ Q) : Ev sc d mc ms M pc L (.int x :: S) σ Q := by
  intro p l e R s m args below meth c D cA b ex H locs cells slots Qt ls hC hR hL hf1 hlo hce hsl hret
  have Kt := fun h => kt h p l e R s m args below meth c D cA b ex H locs cells slots Qt ls hC hR hL hf1 hlo hce hsl hret
  have Kf := fun h => kf h p l e R s m args below meth c D cA b ex H locs cells slots Qt ls hC hR hL hf1 hlo hce hsl hret
  obtain ⟨hx, hb, hml, hown, hts, hK, hX, hbl, hnm⟩ := hC
  exact lv_if_le hx hb hd ht Kt Kf
theorem Ev.icmp_le {x y : Int32} {off : Int} {tgt : Nat} (hd : decode M.2.1 pc = .ok (.if_icmp .le off, 3)) (ht : (pc : Int) + off = (tgt : Int)) (kt : x ≤ y → Ev sc d mc ms M tgt L S σ Q) (kf : ¬ (x ≤ y) → Ev sc d mc ms M (pc + 3) L S σ Q) : Ev sc d mc ms M pc L (.int y :: .int x :: S) σ Q := by
  intro p l e R s m args below meth c D cA b ex H locs cells slots Qt ls hC hR hL hf1 hlo hce hsl hret
  have Kt := fun h => kt h p l e R s m args below meth c D cA b ex H locs cells slots Qt ls hC hR hL hf1 hlo hce hsl hret
  have Kf := fun h => kf h p l e R s m args below meth c D cA b ex H locs cells slots Qt ls hC hR hL hf1 hlo hce hsl hret
  obtain ⟨hx, hb, hml, hown, hts, hK, hX, hbl, hnm⟩ := hC
  exact lv_icmp_le hx hb hd ht Kt Kf
theorem Ev.vret (hr : M.2.2.2.1 = none) (hd : decode M.2.1 pc = .ok (.return_, 1)) (hq : Q none σ) : Ev sc d mc ms M pc L [] σ Q := by
  intro p l e R s m args below meth c D cA b ex H locs cells slots Qt ls hC hR hL hf1 hlo hce hsl hret
  exact hret pc ls none σ H locs cells slots hq hR (Nat.le_add_right _ _) (Nat.le_add_right _ _) (Or.inl ⟨hr, rfl, hd⟩)
theorem Ev.iret {x : Int32} (hr : M.2.2.2.1 = some .int) (hd : decode M.2.1 pc = .ok (.ireturn, 1)) (hq : Q (some (.int x)) σ) : Ev sc d mc ms M pc L [.int x] σ Q := by
  intro p l e R s m args below meth c D cA b ex H locs cells slots Qt ls hC hR hL hf1 hlo hce hsl hret
  exact hret pc ls (some (.int x)) σ H locs cells slots hq hR (Nat.le_add_right _ _) (Nat.le_add_right _ _) (Or.inr (Or.inl ⟨hr, x, rfl, hd⟩))
theorem Ev.zret {x : Int32} (hr : M.2.2.2.1 = some .boolean) (hd : decode M.2.1 pc = .ok (.ireturn, 1)) (h01 : x = 0 ∨ x = 1) (hq : Q (some (.int x)) σ) : Ev sc d mc ms M pc L [.int x] σ Q := by
  intro p l e R s m args below meth c D cA b ex H locs cells slots Qt ls hC hR hL hf1 hlo hce hsl hret
  exact hret pc ls (some (.int x)) σ H locs cells slots hq hR (Nat.le_add_right _ _) (Nat.le_add_right _ _) (Or.inr (Or.inr (Or.inl ⟨hr, x, h01, rfl, hd⟩)))
theorem Ev.lret {x : Int64} (hr : M.2.2.2.1 = some .long) (hd : decode M.2.1 pc = .ok (.lreturn, 1)) (hq : Q (some (.long x)) σ) : Ev sc d mc ms M pc L [.long x] σ Q := by
  intro p l e R s m args below meth c D cA b ex H locs cells slots Qt ls hC hR hL hf1 hlo hce hsl hret
  exact hret pc ls (some (.long x)) σ H locs cells slots hq hR (Nat.le_add_right _ _) (Nat.le_add_right _ _) (Or.inr (Or.inr (Or.inr ⟨hr, x, rfl, hd⟩)))
theorem Ev.mmin {x y : Int32} {idx : Nat} (hd : decode M.2.1 pc = .ok (.invokestatic idx, 3)) (hst : (S.map fun v => v.category).sum ≤ 8) (w1 : Cond.methodLink M.1.cls idx Lib.Math.min.name ∈ zz_WG)
    (kk : Ev sc (d + 1) mc ms M (pc + 3) L (.int (if y < x then y else x) :: S) σ Q) : Ev sc (d + 1) mc ms M pc L (.int y :: .int x :: S) σ Q := by
  intro p l e R s m args below meth c D cA b ex H locs cells slots Qt ls hC hR hL hf1 hlo hce hsl hret
  have K := kk p l e R s m args below meth c D cA b ex H locs cells slots Qt ls hC hR hL hf1 hlo hce hsl hret
  obtain ⟨hx, hb, hml, hown, hts, hK, hX, hbl, hnm⟩ := hC
  exact va_mmin hx hb (by rw [hml]; exact hL.1.symm) hown (hts _ w1) (hts _ zz_w_mmin.1) (hts _ zz_w_math) (hts _ zz_w_mmin.2) (by omega) (by rw [zz_cats]; omega) (by omega) (by omega) hd K
theorem Ev.mmax {x y : Int32} {idx : Nat} (hd : decode M.2.1 pc = .ok (.invokestatic idx, 3)) (hst : (S.map fun v => v.category).sum ≤ 8) (w1 : Cond.methodLink M.1.cls idx Lib.Math.max.name ∈ zz_WG)
    (kk : Ev sc (d + 1) mc ms M (pc + 3) L (.int (if x < y then y else x) :: S) σ Q) : Ev sc (d + 1) mc ms M pc L (.int y :: .int x :: S) σ Q := by
  intro p l e R s m args below meth c D cA b ex H locs cells slots Qt ls hC hR hL hf1 hlo hce hsl hret
  have K := kk p l e R s m args below meth c D cA b ex H locs cells slots Qt ls hC hR hL hf1 hlo hce hsl hret
  obtain ⟨hx, hb, hml, hown, hts, hK, hX, hbl, hnm⟩ := hC
  exact va_mmax hx hb (by rw [hml]; exact hL.1.symm) hown (hts _ w1) (hts _ zz_w_mmax.1) (hts _ zz_w_math) (hts _ zz_w_mmax.2) (by omega) (by rw [zz_cats]; omega) (by omega) (by omega) hd K
theorem Ev.mabs {x : Int32} {idx : Nat} (hd : decode M.2.1 pc = .ok (.invokestatic idx, 3)) (hst : (S.map fun v => v.category).sum ≤ 8) (w1 : Cond.methodLink M.1.cls idx Lib.Math.abs.name ∈ zz_WG)
    (kk : Ev sc (d + 1) mc ms M (pc + 3) L (.int (if 0 ≤ x then x else 0 - x) :: S) σ Q) : Ev sc (d + 1) mc ms M pc L (.int x :: S) σ Q := by
  intro p l e R s m args below meth c D cA b ex H locs cells slots Qt ls hC hR hL hf1 hlo hce hsl hret
  have K := kk p l e R s m args below meth c D cA b ex H locs cells slots Qt ls hC hR hL hf1 hlo hce hsl hret
  obtain ⟨hx, hb, hml, hown, hts, hK, hX, hbl, hnm⟩ := hC
  exact va_mabs hx hb (by rw [hml]; exact hL.1.symm) hown (hts _ w1) (hts _ zz_w_mabs.1) (hts _ zz_w_math) (hts _ zz_w_mabs.2) (by omega) (by rw [zz_cats]; omega) (by omega) (by omega) hd K
theorem Ev.callSN {d : Nat} {mc1 ms1 mc2 ms2 : Nat} (M' : zz_MD) {idx n : Nat} {host : String} (as rest : List Value) (Q1 : Option Value → zz_St → Prop)
    (hw : Cond.methodLinkNest M.1.cls idx M'.1 host ∈ zz_nest) (w1 : Cond.code M'.1 M'.2.1 M'.2.2.1 M'.2.2.2.1 ∈ zz_WG) (w2 : Cond.initialized M'.1.cls ∈ zz_WG) (w4 : M'.1.cls ≠ "java/lang/invoke/MethodHandle" ∧ M'.1.cls ≠ "java/lang/invoke/VarHandle" ∧ (parseMethodDescriptor M'.1.desc).map (fun d => d.parameters.length) = some n) (w5 : M'.2.2.1 ≤ 17) (w6 : Cond.static M'.1 ∈ zz_WG)
    (hd : decode M.2.1 pc = .ok (.invokestatic idx, 3)) (hn : as.length = n) (hst : (rest.map fun v => v.category).sum ≤ 8)
    (hM : EvM sc d mc1 ms1 M' as σ Q1) (kk : ∀ (r : Option Value) (σ' : zz_St), Q1 r σ' → Ev sc (d + 1) mc2 ms2 M (pc + 3) L (r.toList ++ rest) σ' Q) : Ev sc (d + 1) (mc1 + mc2) (ms1 + ms2) M pc L (as.reverse ++ rest) σ Q := by
  intro p l e R s m args below meth c D cA b ex H locs cells slots Qt ls hC hR hL hf hlo hce hsl hret
  have hC' := hC
  obtain ⟨hx, hb, hml, hown, hts, hK, hX, hbl, hnm⟩ := hC
  have hpre := zz_pre hC' hR (as.map (zz_tr b ex))
  have hstk : (as.reverse ++ rest).map (zz_tr b ex) = (as.map (zz_tr b ex)).reverse ++ rest.map (zz_tr b ex) := by
    rw [List.map_append, List.map_reverse]
  rw [hstk]
  refine zz_go (Q1 := Q1) (a := #[]) (va_runSN (As := as.map (zz_tr b ex)) (n := n) ⟨hx, hb, hml, hown, hts⟩ (hM l D cA b ex) ⟨va_cnB n hts (zz_gw w1) rfl rfl rfl (hK.2 _ hw) (hts _ w2) w4 ⟨by show d + 1 ≤ R.frames; omega, by show 8 + (M'.2.2.1 + 11) + 36 * d ≤ R.locals; omega⟩, hts _ w6, trivial⟩ hpre rfl (by rw [List.length_map]; exact hn) hL.1 rfl (lv_room (by rw [zz_cats]; exact hst)) hd ⟨by omega, by omega⟩) hR.2.2.2 ?_
  intro r σ' H1 locs1 hq1 hR1
  have h1 := kk r σ' hq1 p l e R s m args below meth c D cA b ex H1 locs1 (cells + mc1) (slots + ms1) Qt ls hC' hR1 hL hf hlo (by omega) (by omega) (fun pc' ls' r' σ'' H' locs' cells' slots' a1 a2 a3 a4 a5 => hret pc' ls' r' σ'' H' locs' cells' slots' a1 a2 (by omega) (by omega) a5)
  have e9 : (r.toList ++ rest).map (zz_tr b ex) = (r.map (zz_tr b ex)).toList ++ rest.map (zz_tr b ex) := by
    cases r <;> rfl
  rw [e9] at h1
  exact h1
/-! by places -/
theorem zz_vin {i : Int32} {j n : Nat} (hi : i = nI j) (hj : j < n) (hn : n < 2 ^ 31) : vp_in i n := by rw [hi]; exact vp_in_nI hj hn
theorem Ev.iald {k n : Nat} {rs : List (Option Nat)} {i : Int32} (j : Nat) (hd : decode M.2.1 pc = .ok (.iaload, 1)) (hk : σ.1[k]? = some (.inr (0, n, rs))) (hi : i = nI j) (hj : j < n) (hn : n < 2 ^ 31)
    (kk : Ev sc d mc ms M (pc + 1) L (.int (σ.2.1 k j) :: S) σ Q) : Ev sc d mc ms M pc L (.int i :: .ref k :: S) σ Q := by
  refine Ev.iald0 hd hk (zz_vin hi hj hn) ?_
  rw [hi, nI_clamp (Nat.lt_trans hj hn)]
  exact kk
theorem Ev.zald {k n : Nat} {rs : List (Option Nat)} {i : Int32} (j : Nat) (hd : decode M.2.1 pc = .ok (.baload, 1)) (hk : σ.1[k]? = some (.inr (2, n, rs))) (hi : i = nI j) (hj : j < n) (hn : n < 2 ^ 31)
    (kk : Ev sc d mc ms M (pc + 1) L (.int (σ.2.1 k j) :: S) σ Q) : Ev sc d mc ms M pc L (.int i :: .ref k :: S) σ Q := by
  refine Ev.zald0 hd hk (zz_vin hi hj hn) ?_
  rw [hi, nI_clamp (Nat.lt_trans hj hn)]
  exact kk
theorem Ev.lald {k n : Nat} {rs : List (Option Nat)} {i : Int32} (j : Nat) (hd : decode M.2.1 pc = .ok (.laload, 1)) (hk : σ.1[k]? = some (.inr (1, n, rs))) (hi : i = nI j) (hj : j < n) (hn : n < 2 ^ 31)
    (kk : Ev sc d mc ms M (pc + 1) L (.long (σ.2.2 k j) :: S) σ Q) : Ev sc d mc ms M pc L (.int i :: .ref k :: S) σ Q := by
  refine Ev.lald0 hd hk (zz_vin hi hj hn) ?_
  rw [hi, nI_clamp (Nat.lt_trans hj hn)]
  exact kk
theorem Ev.aald {k n tg r : Nat} {rs : List (Option Nat)} {i : Int32} (j : Nat) (hd : decode M.2.1 pc = .ok (.aaload, 1)) (hk : σ.1[k]? = some (.inr (tg, n, rs))) (htg : 3 ≤ tg ∧ tg ≤ 6) (hi : i = nI j) (hj : j < n) (hn : n < 2 ^ 31) (hr : rs[j]? = some (some r))
    (kk : Ev sc d mc ms M (pc + 1) L (.ref r :: S) σ Q) : Ev sc d mc ms M pc L (.int i :: .ref k :: S) σ Q := by
  refine Ev.aald0 (r := r) hd hk htg (zz_vin hi hj hn) ?_ kk
  rw [hi, nI_clamp (Nat.lt_trans hj hn)]
  exact hr
theorem Ev.iast {k n : Nat} {rs : List (Option Nat)} {i v : Int32} (j : Nat) (hd : decode M.2.1 pc = .ok (.iastore, 1)) (hk : σ.1[k]? = some (.inr (0, n, rs))) (hi : i = nI j) (hj : j < n) (hn : n < 2 ^ 31)
    (kk : Ev sc d mc ms M (pc + 1) L S (σ.1, zz_up σ.2.1 k j v, σ.2.2) Q) : Ev sc d mc ms M pc L (.int v :: .int i :: .ref k :: S) σ Q := by
  refine Ev.iast0 hd hk (zz_vin hi hj hn) ?_
  rw [hi, nI_clamp (Nat.lt_trans hj hn)]
  exact kk
theorem Ev.zast {k n : Nat} {rs : List (Option Nat)} {i v : Int32} (j : Nat) (hd : decode M.2.1 pc = .ok (.bastore, 1)) (hk : σ.1[k]? = some (.inr (2, n, rs))) (hi : i = nI j) (hj : j < n) (hn : n < 2 ^ 31)
    (kk : Ev sc d mc ms M (pc + 1) L S (σ.1, zz_up σ.2.1 k j (vp_nar .boolean v), σ.2.2) Q) : Ev sc d mc ms M pc L (.int v :: .int i :: .ref k :: S) σ Q := by
  refine Ev.zast0 hd hk (zz_vin hi hj hn) ?_
  rw [hi, nI_clamp (Nat.lt_trans hj hn)]
  exact kk
theorem Ev.last {k n : Nat} {rs : List (Option Nat)} {i : Int32} {v : Int64} (j : Nat) (hd : decode M.2.1 pc = .ok (.lastore, 1)) (hk : σ.1[k]? = some (.inr (1, n, rs))) (hi : i = nI j) (hj : j < n) (hn : n < 2 ^ 31)
    (kk : Ev sc d mc ms M (pc + 1) L S (σ.1, σ.2.1, zz_upL σ.2.2 k j v) Q) : Ev sc d mc ms M pc L (.long v :: .int i :: .ref k :: S) σ Q := by
  refine Ev.last0 hd hk (zz_vin hi hj hn) ?_
  rw [hi, nI_clamp (Nat.lt_trans hj hn)]
  exact kk
theorem Ev.xldN {i0 : Nat} {i : Int32} (j : Nat) (hd : decode M.2.1 pc = .ok (.iaload, 1)) (h4 : i0 < 4) (hi : i = nI j) (hj : j < (zz_xs sc i0).1) (hn : (zz_xs sc i0).1 < 2 ^ 31)
    (kk : Ev sc d mc ms M (pc + 1) L (.int ((zz_xs sc i0).2 j) :: S) σ Q) : Ev sc d mc ms M pc L (.int i :: .ref (100000 + i0) :: S) σ Q := by
  refine Ev.xld hd h4 (zz_vin hi hj hn) ?_
  rw [hi, nI_clamp (Nat.lt_trans hj hn)]
  exact kk
/-! ===== straight stretches ===== -/
def zz_stepG (oc : Nat) (σ : zz_St) (i : Instr) (n pc : Nat) (L : List (Option Value)) (S : List Value) : Option (Nat × List (Option Value) × List Value) := match i with
  | .getfield idx => match S, Nat.beq n 3 with
    | .ref k :: r, true => match zz_fl oc idx, σ.1[k]? with
      | some (ci, j), some (.inl o) => match Nat.beq ci o.1, o.2[j]? with
        | true, some x => match zz_val σ.2.1 k j x with
          | some v => some (pc + 3, L, v :: r)
          | none => none
        | _, _ => none
      | _, _ => none
    | _, _ => none
  | i => match Nat.beq (zz_len i) n with
    | true => zz_step i n pc L S
    | false => none
def zz_run (oc : Nat) (σ : zz_St) : List (Instr × Nat) → Nat → List (Option Value) → List Value → Option (Nat × List (Option Value) × List Value)
  | [], pc, L, S => some (pc, L, S)
  | (i, n) :: r, pc, L, S => match zz_stepG oc σ i n pc L S with
    | some (pc', L', S') => zz_run oc σ r pc' L' S'
    | none => none
def zz_chk (c : ByteArray) : List (Instr × Nat) → Nat → Bool
  | [], _ => true
  | (i, n) :: r, pc => decide (decode c pc = .ok (i, n)) && zz_chk c r (pc + n)
theorem Ev.stepG {i : Instr} {n pc' : Nat} {L' : List (Option Value)} {S' : List Value} (hoc : M.1.cls = zz_cn M.2.2.2.2) (hd : decode M.2.1 pc = .ok (i, n)) (hs : zz_stepG M.2.2.2.2 σ i n pc L S = some (pc', L', S')) (kk : Ev sc d mc ms M pc' L' S' σ Q) : Ev sc d mc ms M pc L S σ Q ∧ pc' = pc + n := by
  unfold zz_stepG at hs
  split at hs
  · next idx =>
    split at hs
    · next k r hn =>
      have hn : n = 3 := Nat.eq_of_beq_eq_true hn
      subst hn
      split at hs
      · next ci j o h1 h2 =>
        split at hs
        · next x h3 h4 =>
          split at hs
          · next v h5 =>
            cases hs
            have e := Nat.eq_of_beq_eq_true h3
            obtain ⟨ci', fs⟩ := o
            dsimp only at e h4 h2
            subst e
            exact ⟨Ev.getf hoc h1 hd h2 h4 h5 kk, rfl⟩
          · cases hs
        · cases hs
      · cases hs
    · cases hs
  · split at hs
    · next h1 => exact ⟨Ev.step hd (Nat.eq_of_beq_eq_true h1) hs kk, zz_step_pc hs⟩
    · cases hs
theorem zz_stepG_pc {oc : Nat} {i : Instr} {n pc' : Nat} {L' : List (Option Value)} {S' : List Value} (hs : zz_stepG oc σ i n pc L S = some (pc', L', S')) : pc' = pc + n := by
  unfold zz_stepG at hs
  split at hs
  · split at hs
    · next hn =>
      have hn : n = 3 := Nat.eq_of_beq_eq_true hn
      subst hn
      split at hs
      · split at hs
        · split at hs
          · cases hs; rfl
          · cases hs
        · cases hs
      · cases hs
    · cases hs
  · split at hs
    · exact zz_step_pc hs
    · cases hs
theorem Ev.run (is : List (Instr × Nat)) {pc' : Nat} {L' : List (Option Value)} {S' : List Value} (hoc : M.1.cls = zz_cn M.2.2.2.2) (hc : zz_chk M.2.1 is pc = true) (hs : zz_run M.2.2.2.2 σ is pc L S = some (pc', L', S')) (kk : Ev sc d mc ms M pc' L' S' σ Q) : Ev sc d mc ms M pc L S σ Q := by
  induction is generalizing pc L S with
  | nil => cases hs; exact kk
  | cons a r ih =>
    obtain ⟨i, n⟩ := a
    simp only [zz_chk, Bool.and_eq_true, decide_eq_true_eq] at hc
    simp only [zz_run] at hs
    split at hs
    · next p1 L1 S1 h1 =>
      have hp : p1 = pc + n := zz_stepG_pc h1
      exact (Ev.stepG hoc hc.1 h1 (ih (by rw [hp]; exact hc.2) hs)).1
    · cases hs
end ZZO
end
section
/-! ===== the cells of both objects, by program ===== -/
def zz_SH : List zz_SK := [.inl (5, [some (some 1), some (some 3), some (some 104), some (some 307), some (some 308), some (some 310), some (some 328)]),
  .inl (4, [some (some 2), none]),
  .inr (0, 30, []),
  .inl (2, [some (some 4), some (some 5), some (some 6), some (some 7), some (some 8), some (some 19), some (some 30), some (some 31), some (some 32), some (some 34), none, none]),
  .inr (3, 12, [some 36, some 40, some 44, some 48, some 52, some 56, some 60, some 64, some 68, some 72, some 76, some 80]),
  .inr (3, 12, [some 38, some 42, some 46, some 50, some 54, some 58, some 62, some 66, some 70, some 74, some 78, some 82]),
  .inr (0, 12, []),
  .inr (3, 10, [some 84, some 86, some 88, some 90, some 92, some 94, some 96, some 98, some 100, some 102]),
  .inr (5, 10, [some 9, some 10, some 11, some 12, some 13, some 14, some 15, some 16, some 17, some 18]),
  .inr (0, 12, []),
  .inr (0, 12, []),
  .inr (0, 12, []),
  .inr (0, 12, []),
  .inr (0, 12, []),
  .inr (0, 12, []),
  .inr (0, 12, []),
  .inr (0, 12, []),
  .inr (0, 12, []),
  .inr (0, 12, []),
  .inr (5, 10, [some 20, some 21, some 22, some 23, some 24, some 25, some 26, some 27, some 28, some 29]),
  .inr (0, 10, []),
  .inr (0, 10, []),
  .inr (0, 10, []),
  .inr (0, 10, []),
  .inr (0, 10, []),
  .inr (0, 10, []),
  .inr (0, 10, []),
  .inr (0, 10, []),
  .inr (0, 10, []),
  .inr (0, 10, []),
  .inr (0, 5, []),
  .inr (0, 16, []),
  .inl (4, [some (some 33), none]),
  .inr (0, 12, []),
  .inl (4, [some (some 35), none]),
  .inr (0, 12, []),
  .inl (4, [some (some 37), none]),
  .inr (0, 12, []),
  .inl (4, [some (some 39), none]),
  .inr (0, 12, []),
  .inl (4, [some (some 41), none]),
  .inr (0, 12, []),
  .inl (4, [some (some 43), none]),
  .inr (0, 12, []),
  .inl (4, [some (some 45), none]),
  .inr (0, 12, []),
  .inl (4, [some (some 47), none]),
  .inr (0, 12, []),
  .inl (4, [some (some 49), none]),
  .inr (0, 12, []),
  .inl (4, [some (some 51), none]),
  .inr (0, 12, []),
  .inl (4, [some (some 53), none]),
  .inr (0, 12, []),
  .inl (4, [some (some 55), none]),
  .inr (0, 12, []),
  .inl (4, [some (some 57), none]),
  .inr (0, 12, []),
  .inl (4, [some (some 59), none]),
  .inr (0, 12, []),
  .inl (4, [some (some 61), none]),
  .inr (0, 12, []),
  .inl (4, [some (some 63), none]),
  .inr (0, 12, []),
  .inl (4, [some (some 65), none]),
  .inr (0, 12, []),
  .inl (4, [some (some 67), none]),
  .inr (0, 12, []),
  .inl (4, [some (some 69), none]),
  .inr (0, 12, []),
  .inl (4, [some (some 71), none]),
  .inr (0, 12, []),
  .inl (4, [some (some 73), none]),
  .inr (0, 12, []),
  .inl (4, [some (some 75), none]),
  .inr (0, 12, []),
  .inl (4, [some (some 77), none]),
  .inr (0, 12, []),
  .inl (4, [some (some 79), none]),
  .inr (0, 12, []),
  .inl (4, [some (some 81), none]),
  .inr (0, 12, []),
  .inl (4, [some (some 83), none]),
  .inr (0, 12, []),
  .inl (4, [some (some 85), none]),
  .inr (0, 12, []),
  .inl (4, [some (some 87), none]),
  .inr (0, 12, []),
  .inl (4, [some (some 89), none]),
  .inr (0, 12, []),
  .inl (4, [some (some 91), none]),
  .inr (0, 12, []),
  .inl (4, [some (some 93), none]),
  .inr (0, 12, []),
  .inl (4, [some (some 95), none]),
  .inr (0, 12, []),
  .inl (4, [some (some 97), none]),
  .inr (0, 12, []),
  .inl (4, [some (some 99), none]),
  .inr (0, 12, []),
  .inl (4, [some (some 101), none]),
  .inr (0, 12, []),
  .inl (4, [some (some 103), none]),
  .inr (0, 12, []),
  .inr (4, 2, [some 105, some 206]),
  .inl (2, [some (some 106), some (some 107), some (some 108), some (some 109), some (some 110), some (some 121), some (some 132), some (some 133), some (some 134), some (some 136), none, none]),
  .inr (3, 12, [some 138, some 142, some 146, some 150, some 154, some 158, some 162, some 166, some 170, some 174, some 178, some 182]),
  .inr (3, 12, [some 140, some 144, some 148, some 152, some 156, some 160, some 164, some 168, some 172, some 176, some 180, some 184]),
  .inr (0, 12, []),
  .inr (3, 10, [some 186, some 188, some 190, some 192, some 194, some 196, some 198, some 200, some 202, some 204]),
  .inr (5, 10, [some 111, some 112, some 113, some 114, some 115, some 116, some 117, some 118, some 119, some 120]),
  .inr (0, 12, []),
  .inr (0, 12, []),
  .inr (0, 12, []),
  .inr (0, 12, []),
  .inr (0, 12, []),
  .inr (0, 12, []),
  .inr (0, 12, []),
  .inr (0, 12, []),
  .inr (0, 12, []),
  .inr (0, 12, []),
  .inr (5, 10, [some 122, some 123, some 124, some 125, some 126, some 127, some 128, some 129, some 130, some 131]),
  .inr (0, 10, []),
  .inr (0, 10, []),
  .inr (0, 10, []),
  .inr (0, 10, []),
  .inr (0, 10, []),
  .inr (0, 10, []),
  .inr (0, 10, []),
  .inr (0, 10, []),
  .inr (0, 10, []),
  .inr (0, 10, []),
  .inr (0, 5, []),
  .inr (0, 16, []),
  .inl (4, [some (some 135), none]),
  .inr (0, 12, []),
  .inl (4, [some (some 137), none]),
  .inr (0, 12, []),
  .inl (4, [some (some 139), none]),
  .inr (0, 12, []),
  .inl (4, [some (some 141), none]),
  .inr (0, 12, []),
  .inl (4, [some (some 143), none]),
  .inr (0, 12, []),
  .inl (4, [some (some 145), none]),
  .inr (0, 12, []),
  .inl (4, [some (some 147), none]),
  .inr (0, 12, []),
  .inl (4, [some (some 149), none]),
  .inr (0, 12, []),
  .inl (4, [some (some 151), none]),
  .inr (0, 12, []),
  .inl (4, [some (some 153), none]),
  .inr (0, 12, []),
  .inl (4, [some (some 155), none]),
  .inr (0, 12, []),
  .inl (4, [some (some 157), none]),
  .inr (0, 12, []),
  .inl (4, [some (some 159), none]),
  .inr (0, 12, []),
  .inl (4, [some (some 161), none]),
  .inr (0, 12, []),
  .inl (4, [some (some 163), none]),
  .inr (0, 12, []),
  .inl (4, [some (some 165), none]),
  .inr (0, 12, []),
  .inl (4, [some (some 167), none]),
  .inr (0, 12, []),
  .inl (4, [some (some 169), none]),
  .inr (0, 12, []),
  .inl (4, [some (some 171), none]),
  .inr (0, 12, []),
  .inl (4, [some (some 173), none]),
  .inr (0, 12, []),
  .inl (4, [some (some 175), none]),
  .inr (0, 12, []),
  .inl (4, [some (some 177), none]),
  .inr (0, 12, []),
  .inl (4, [some (some 179), none]),
  .inr (0, 12, []),
  .inl (4, [some (some 181), none]),
  .inr (0, 12, []),
  .inl (4, [some (some 183), none]),
  .inr (0, 12, []),
  .inl (4, [some (some 185), none]),
  .inr (0, 12, []),
  .inl (4, [some (some 187), none]),
  .inr (0, 12, []),
  .inl (4, [some (some 189), none]),
  .inr (0, 12, []),
  .inl (4, [some (some 191), none]),
  .inr (0, 12, []),
  .inl (4, [some (some 193), none]),
  .inr (0, 12, []),
  .inl (4, [some (some 195), none]),
  .inr (0, 12, []),
  .inl (4, [some (some 197), none]),
  .inr (0, 12, []),
  .inl (4, [some (some 199), none]),
  .inr (0, 12, []),
  .inl (4, [some (some 201), none]),
  .inr (0, 12, []),
  .inl (4, [some (some 203), none]),
  .inr (0, 12, []),
  .inl (4, [some (some 205), none]),
  .inr (0, 12, []),
  .inl (2, [some (some 207), some (some 208), some (some 209), some (some 210), some (some 211), some (some 222), some (some 233), some (some 234), some (some 235), some (some 237), none, none]),
  .inr (3, 12, [some 239, some 243, some 247, some 251, some 255, some 259, some 263, some 267, some 271, some 275, some 279, some 283]),
  .inr (3, 12, [some 241, some 245, some 249, some 253, some 257, some 261, some 265, some 269, some 273, some 277, some 281, some 285]),
  .inr (0, 12, []),
  .inr (3, 10, [some 287, some 289, some 291, some 293, some 295, some 297, some 299, some 301, some 303, some 305]),
  .inr (5, 10, [some 212, some 213, some 214, some 215, some 216, some 217, some 218, some 219, some 220, some 221]),
  .inr (0, 12, []),
  .inr (0, 12, []),
  .inr (0, 12, []),
  .inr (0, 12, []),
  .inr (0, 12, []),
  .inr (0, 12, []),
  .inr (0, 12, []),
  .inr (0, 12, []),
  .inr (0, 12, []),
  .inr (0, 12, []),
  .inr (5, 10, [some 223, some 224, some 225, some 226, some 227, some 228, some 229, some 230, some 231, some 232]),
  .inr (0, 10, []),
  .inr (0, 10, []),
  .inr (0, 10, []),
  .inr (0, 10, []),
  .inr (0, 10, []),
  .inr (0, 10, []),
  .inr (0, 10, []),
  .inr (0, 10, []),
  .inr (0, 10, []),
  .inr (0, 10, []),
  .inr (0, 5, []),
  .inr (0, 16, []),
  .inl (4, [some (some 236), none]),
  .inr (0, 12, []),
  .inl (4, [some (some 238), none]),
  .inr (0, 12, []),
  .inl (4, [some (some 240), none]),
  .inr (0, 12, []),
  .inl (4, [some (some 242), none]),
  .inr (0, 12, []),
  .inl (4, [some (some 244), none]),
  .inr (0, 12, []),
  .inl (4, [some (some 246), none]),
  .inr (0, 12, []),
  .inl (4, [some (some 248), none]),
  .inr (0, 12, []),
  .inl (4, [some (some 250), none]),
  .inr (0, 12, []),
  .inl (4, [some (some 252), none]),
  .inr (0, 12, []),
  .inl (4, [some (some 254), none]),
  .inr (0, 12, []),
  .inl (4, [some (some 256), none]),
  .inr (0, 12, []),
  .inl (4, [some (some 258), none]),
  .inr (0, 12, []),
  .inl (4, [some (some 260), none]),
  .inr (0, 12, []),
  .inl (4, [some (some 262), none]),
  .inr (0, 12, []),
  .inl (4, [some (some 264), none]),
  .inr (0, 12, []),
  .inl (4, [some (some 266), none]),
  .inr (0, 12, []),
  .inl (4, [some (some 268), none]),
  .inr (0, 12, []),
  .inl (4, [some (some 270), none]),
  .inr (0, 12, []),
  .inl (4, [some (some 272), none]),
  .inr (0, 12, []),
  .inl (4, [some (some 274), none]),
  .inr (0, 12, []),
  .inl (4, [some (some 276), none]),
  .inr (0, 12, []),
  .inl (4, [some (some 278), none]),
  .inr (0, 12, []),
  .inl (4, [some (some 280), none]),
  .inr (0, 12, []),
  .inl (4, [some (some 282), none]),
  .inr (0, 12, []),
  .inl (4, [some (some 284), none]),
  .inr (0, 12, []),
  .inl (4, [some (some 286), none]),
  .inr (0, 12, []),
  .inl (4, [some (some 288), none]),
  .inr (0, 12, []),
  .inl (4, [some (some 290), none]),
  .inr (0, 12, []),
  .inl (4, [some (some 292), none]),
  .inr (0, 12, []),
  .inl (4, [some (some 294), none]),
  .inr (0, 12, []),
  .inl (4, [some (some 296), none]),
  .inr (0, 12, []),
  .inl (4, [some (some 298), none]),
  .inr (0, 12, []),
  .inl (4, [some (some 300), none]),
  .inr (0, 12, []),
  .inl (4, [some (some 302), none]),
  .inr (0, 12, []),
  .inl (4, [some (some 304), none]),
  .inr (0, 12, []),
  .inl (4, [some (some 306), none]),
  .inr (0, 12, []),
  .inr (2, 2, []),
  .inl (1, [some (some 309)]),
  .inr (0, 13, []),
  .inl (3, [some (some 311), some (some 312), some (some 323), some (some 324), some (some 325), some (some 326)]),
  .inr (0, 10, []),
  .inr (5, 10, [some 313, some 314, some 315, some 316, some 317, some 318, some 319, some 320, some 321, some 322]),
  .inr (0, 5, []),
  .inr (0, 5, []),
  .inr (0, 5, []),
  .inr (0, 5, []),
  .inr (0, 5, []),
  .inr (0, 5, []),
  .inr (0, 5, []),
  .inr (0, 5, []),
  .inr (0, 5, []),
  .inr (0, 5, []),
  .inr (0, 1024, []),
  .inr (0, 1024, []),
  .inr (0, 10, []),
  .inl (4, [some (some 327), none]),
  .inr (0, 10, []),
  .inl (0, [some (some 329), some (some 343), some (some 357)]),
  .inr (5, 13, [some 330, some 331, some 332, some 333, some 334, some 335, some 336, some 337, some 338, some 339, some 340, some 341, some 342]),
  .inr (0, 13, []),
  .inr (0, 13, []),
  .inr (0, 13, []),
  .inr (0, 13, []),
  .inr (0, 13, []),
  .inr (0, 13, []),
  .inr (0, 13, []),
  .inr (0, 13, []),
  .inr (0, 13, []),
  .inr (0, 13, []),
  .inr (0, 13, []),
  .inr (0, 13, []),
  .inr (0, 13, []),
  .inr (6, 13, [some 344, some 345, some 346, some 347, some 348, some 349, some 350, some 351, some 352, some 353, some 354, some 355, some 356]),
  .inr (1, 13, []),
  .inr (1, 13, []),
  .inr (1, 13, []),
  .inr (1, 13, []),
  .inr (1, 13, []),
  .inr (1, 13, []),
  .inr (1, 13, []),
  .inr (1, 13, []),
  .inr (1, 13, []),
  .inr (1, 13, []),
  .inr (1, 13, []),
  .inr (1, 13, []),
  .inr (1, 13, []),
  .inl (4, [some (some 358), none]),
  .inr (0, 24, []),
  .inl (6, [none, some (some 360), none, some (some 361), some (some 362), some (some 363), some (some 364), some (some 365), none, some (some 366), some (some 367), some (some 368), some (some 369), some (some 370), some (some 371), none, some (some 372), none, some (some 373), some (some 374), some (some 375), some (some 376), none, none, some (some 377), some (some 378), some (some 379), some (some 380)]),
  .inr (0, 30, []),
  .inr (0, 12, []),
  .inr (0, 12, []),
  .inr (0, 12, []),
  .inr (0, 144, []),
  .inr (0, 144, []),
  .inr (0, 10, []),
  .inr (0, 120, []),
  .inr (0, 5, []),
  .inr (0, 16, []),
  .inr (0, 2, []),
  .inr (0, 24, []),
  .inr (0, 13, []),
  .inr (0, 10, []),
  .inr (0, 100, []),
  .inr (0, 1024, []),
  .inr (0, 10, []),
  .inr (0, 169, []),
  .inr (1, 169, []),
  .inr (0, 1040, []),
  .inr (2, 2, [])]
theorem zz_SH_len : zz_SH.length = 381 := by decide +kernel
def mL_law : zz_MD := (x, code, 4, some .boolean, 8)
/-! ===== the calls, by program ===== -/
theorem zz_in (k : Nat) {w : Cond} (h : lw_tbl[k]? = some w) (hg : goodWord w = true) : w ∈ zz_WG := List.mem_filter.mpr ⟨List.mem_of_getElem? h, hg⟩
set_option maxRecDepth 100000 in
theorem lk_RL_13 {M : zz_MD} (h : M.1.cls = RL := by rfl) : zz_cV M mX6_say 13 1 := by
  unfold zz_cV zz_cB
  rw [h]
  exact ⟨⟨zz_in 242 rfl rfl, zz_in 39 rfl rfl, zz_in 239 rfl rfl, ⟨by decide, by decide, by decide +kernel⟩, by decide⟩, zz_in 240 rfl rfl, zz_in 241 rfl rfl⟩
set_option maxRecDepth 100000 in
theorem lk_RL_17 {M : zz_MD} (h : M.1.cls = RL := by rfl) : zz_cV M mX7_say 17 1 := by
  unfold zz_cV zz_cB
  rw [h]
  exact ⟨⟨zz_in 696 rfl rfl, zz_in 45 rfl rfl, zz_in 693 rfl rfl, ⟨by decide, by decide, by decide +kernel⟩, by decide⟩, zz_in 694 rfl rfl, zz_in 695 rfl rfl⟩
set_option maxRecDepth 100000 in
theorem lk_RL_18 {M : zz_MD} (h : M.1.cls = RL := by rfl) : zz_cV M mX6_wipe 18 0 := by
  unfold zz_cV zz_cB
  rw [h]
  exact ⟨⟨zz_in 250 rfl rfl, zz_in 39 rfl rfl, zz_in 247 rfl rfl, ⟨by decide, by decide, by decide +kernel⟩, by decide⟩, zz_in 248 rfl rfl, zz_in 249 rfl rfl⟩
set_option maxRecDepth 100000 in
theorem lk_RL_22 {M : zz_MD} (h : M.1.cls = RL := by rfl) : zz_cV M mX7_wipe 22 0 := by
  unfold zz_cV zz_cB
  rw [h]
  exact ⟨⟨zz_in 703 rfl rfl, zz_in 45 rfl rfl, zz_in 700 rfl rfl, ⟨by decide, by decide, by decide +kernel⟩, by decide⟩, zz_in 701 rfl rfl, zz_in 702 rfl rfl⟩
set_option maxRecDepth 100000 in
theorem lk_RL_23 {M : zz_MD} (h : M.1.cls = RL := by rfl) : zz_cV M mX6_fault 23 1 := by
  unfold zz_cV zz_cB
  rw [h]
  exact ⟨⟨zz_in 254 rfl rfl, zz_in 39 rfl rfl, zz_in 251 rfl rfl, ⟨by decide, by decide, by decide +kernel⟩, by decide⟩, zz_in 252 rfl rfl, zz_in 253 rfl rfl⟩
set_option maxRecDepth 100000 in
theorem lk_RL_26 {M : zz_MD} (h : M.1.cls = RL := by rfl) : zz_cV M mX7_fault 26 1 := by
  unfold zz_cV zz_cB
  rw [h]
  exact ⟨⟨zz_in 707 rfl rfl, zz_in 45 rfl rfl, zz_in 704 rfl rfl, ⟨by decide, by decide, by decide +kernel⟩, by decide⟩, zz_in 705 rfl rfl, zz_in 706 rfl rfl⟩
set_option maxRecDepth 100000 in
theorem lk_RL_27 {M : zz_MD} (h : M.1.cls = RL := by rfl) : zz_cV M mX6_keep 27 1 := by
  unfold zz_cV zz_cB
  rw [h]
  exact ⟨⟨zz_in 280 rfl rfl, zz_in 39 rfl rfl, zz_in 277 rfl rfl, ⟨by decide, by decide, by decide +kernel⟩, by decide⟩, zz_in 278 rfl rfl, zz_in 279 rfl rfl⟩
set_option maxRecDepth 100000 in
theorem lk_RL_30 {M : zz_MD} (h : M.1.cls = RL := by rfl) : zz_cV M mX7_keep 30 1 := by
  unfold zz_cV zz_cB
  rw [h]
  exact ⟨⟨zz_in 718 rfl rfl, zz_in 45 rfl rfl, zz_in 715 rfl rfl, ⟨by decide, by decide, by decide +kernel⟩, by decide⟩, zz_in 716 rfl rfl, zz_in 717 rfl rfl⟩
set_option maxRecDepth 100000 in
theorem lk_RL_31 {M : zz_MD} (h : M.1.cls = RL := by rfl) : zz_cV M mX6_write 31 0 := by
  unfold zz_cV zz_cB
  rw [h]
  exact ⟨⟨zz_in 334 rfl rfl, zz_in 39 rfl rfl, zz_in 331 rfl rfl, ⟨by decide, by decide, by decide +kernel⟩, by decide⟩, zz_in 332 rfl rfl, zz_in 333 rfl rfl⟩
set_option maxRecDepth 100000 in
theorem lk_RL_34 {M : zz_MD} (h : M.1.cls = RL := by rfl) : zz_cV M mX7_write 34 0 := by
  unfold zz_cV zz_cB
  rw [h]
  exact ⟨⟨zz_in 726 rfl rfl, zz_in 45 rfl rfl, zz_in 723 rfl rfl, ⟨by decide, by decide, by decide +kernel⟩, by decide⟩, zz_in 724 rfl rfl, zz_in 725 rfl rfl⟩
set_option maxRecDepth 100000 in
theorem lk_RL_35 {M : zz_MD} (h : M.1.cls = RL := by rfl) : zz_cV M mX6_pair 35 2 := by
  unfold zz_cV zz_cB
  rw [h]
  exact ⟨⟨zz_in 342 rfl rfl, zz_in 39 rfl rfl, zz_in 339 rfl rfl, ⟨by decide, by decide, by decide +kernel⟩, by decide⟩, zz_in 340 rfl rfl, zz_in 341 rfl rfl⟩
set_option maxRecDepth 100000 in
theorem lk_RL_39 {M : zz_MD} (h : M.1.cls = RL := by rfl) : zz_cV M mX7_pair 39 2 := by
  unfold zz_cV zz_cB
  rw [h]
  exact ⟨⟨zz_in 730 rfl rfl, zz_in 45 rfl rfl, zz_in 727 rfl rfl, ⟨by decide, by decide, by decide +kernel⟩, by decide⟩, zz_in 728 rfl rfl, zz_in 729 rfl rfl⟩
set_option maxRecDepth 100000 in
theorem lk_RL_40 {M : zz_MD} (h : M.1.cls = RL := by rfl) : zz_cV M mX6_far 40 2 := by
  unfold zz_cV zz_cB
  rw [h]
  exact ⟨⟨zz_in 346 rfl rfl, zz_in 39 rfl rfl, zz_in 343 rfl rfl, ⟨by decide, by decide, by decide +kernel⟩, by decide⟩, zz_in 344 rfl rfl, zz_in 345 rfl rfl⟩
set_option maxRecDepth 100000 in
theorem lk_RL_43 {M : zz_MD} (h : M.1.cls = RL := by rfl) : zz_cV M mX7_far 43 2 := by
  unfold zz_cV zz_cB
  rw [h]
  exact ⟨⟨zz_in 734 rfl rfl, zz_in 45 rfl rfl, zz_in 731 rfl rfl, ⟨by decide, by decide, by decide +kernel⟩, by decide⟩, zz_in 732 rfl rfl, zz_in 733 rfl rfl⟩
set_option maxRecDepth 100000 in
theorem lk_RL_44 {M : zz_MD} (h : M.1.cls = RL := by rfl) : zz_cV M mX6_match 44 2 := by
  unfold zz_cV zz_cB
  rw [h]
  exact ⟨⟨zz_in 352 rfl rfl, zz_in 39 rfl rfl, zz_in 349 rfl rfl, ⟨by decide, by decide, by decide +kernel⟩, by decide⟩, zz_in 350 rfl rfl, zz_in 351 rfl rfl⟩
set_option maxRecDepth 100000 in
theorem lk_RL_47 {M : zz_MD} (h : M.1.cls = RL := by rfl) : zz_cV M mX7_match 47 2 := by
  unfold zz_cV zz_cB
  rw [h]
  exact ⟨⟨zz_in 749 rfl rfl, zz_in 45 rfl rfl, zz_in 746 rfl rfl, ⟨by decide, by decide, by decide +kernel⟩, by decide⟩, zz_in 747 rfl rfl, zz_in 748 rfl rfl⟩
set_option maxRecDepth 100000 in
theorem lk_RL_48 {M : zz_MD} (h : M.1.cls = RL := by rfl) : zz_cV M mX6_found 48 2 := by
  unfold zz_cV zz_cB
  rw [h]
  exact ⟨⟨zz_in 356 rfl rfl, zz_in 39 rfl rfl, zz_in 353 rfl rfl, ⟨by decide, by decide, by decide +kernel⟩, by decide⟩, zz_in 354 rfl rfl, zz_in 355 rfl rfl⟩
set_option maxRecDepth 100000 in
theorem lk_RL_51 {M : zz_MD} (h : M.1.cls = RL := by rfl) : zz_cV M mX7_found 51 2 := by
  unfold zz_cV zz_cB
  rw [h]
  exact ⟨⟨zz_in 764 rfl rfl, zz_in 45 rfl rfl, zz_in 761 rfl rfl, ⟨by decide, by decide, by decide +kernel⟩, by decide⟩, zz_in 762 rfl rfl, zz_in 763 rfl rfl⟩
set_option maxRecDepth 100000 in
theorem lk_RL_52 {M : zz_MD} (h : M.1.cls = RL := by rfl) : zz_cV M mX6_filled 52 2 := by
  unfold zz_cV zz_cB
  rw [h]
  exact ⟨⟨zz_in 364 rfl rfl, zz_in 39 rfl rfl, zz_in 361 rfl rfl, ⟨by decide, by decide, by decide +kernel⟩, by decide⟩, zz_in 362 rfl rfl, zz_in 363 rfl rfl⟩
set_option maxRecDepth 100000 in
theorem lk_RL_55 {M : zz_MD} (h : M.1.cls = RL := by rfl) : zz_cV M mX7_filled 55 2 := by
  unfold zz_cV zz_cB
  rw [h]
  exact ⟨⟨zz_in 772 rfl rfl, zz_in 45 rfl rfl, zz_in 769 rfl rfl, ⟨by decide, by decide, by decide +kernel⟩, by decide⟩, zz_in 770 rfl rfl, zz_in 771 rfl rfl⟩
set_option maxRecDepth 100000 in
theorem lk_RL_56 {M : zz_MD} (h : M.1.cls = RL := by rfl) : zz_cV M mX6_rate 56 2 := by
  unfold zz_cV zz_cB
  rw [h]
  exact ⟨⟨zz_in 378 rfl rfl, zz_in 39 rfl rfl, zz_in 375 rfl rfl, ⟨by decide, by decide, by decide +kernel⟩, by decide⟩, zz_in 376 rfl rfl, zz_in 377 rfl rfl⟩
set_option maxRecDepth 100000 in
theorem lk_RL_59 {M : zz_MD} (h : M.1.cls = RL := by rfl) : zz_cV M mX7_rate 59 2 := by
  unfold zz_cV zz_cB
  rw [h]
  exact ⟨⟨zz_in 780 rfl rfl, zz_in 45 rfl rfl, zz_in 777 rfl rfl, ⟨by decide, by decide, by decide +kernel⟩, by decide⟩, zz_in 778 rfl rfl, zz_in 779 rfl rfl⟩
set_option maxRecDepth 100000 in
theorem lk_RL_60 {M : zz_MD} (h : M.1.cls = RL := by rfl) : zz_cV M mX6_price 60 1 := by
  unfold zz_cV zz_cB
  rw [h]
  exact ⟨⟨zz_in 382 rfl rfl, zz_in 39 rfl rfl, zz_in 379 rfl rfl, ⟨by decide, by decide, by decide +kernel⟩, by decide⟩, zz_in 380 rfl rfl, zz_in 381 rfl rfl⟩
set_option maxRecDepth 100000 in
theorem lk_RL_63 {M : zz_MD} (h : M.1.cls = RL := by rfl) : zz_cV M mX7_price 63 1 := by
  unfold zz_cV zz_cB
  rw [h]
  exact ⟨⟨zz_in 784 rfl rfl, zz_in 45 rfl rfl, zz_in 781 rfl rfl, ⟨by decide, by decide, by decide +kernel⟩, by decide⟩, zz_in 782 rfl rfl, zz_in 783 rfl rfl⟩
set_option maxRecDepth 100000 in
theorem lk_RL_64 {M : zz_MD} (h : M.1.cls = RL := by rfl) : zz_cV M mX6_order 64 1 := by
  unfold zz_cV zz_cB
  rw [h]
  exact ⟨⟨zz_in 400 rfl rfl, zz_in 39 rfl rfl, zz_in 397 rfl rfl, ⟨by decide, by decide, by decide +kernel⟩, by decide⟩, zz_in 398 rfl rfl, zz_in 399 rfl rfl⟩
set_option maxRecDepth 100000 in
theorem lk_RL_67 {M : zz_MD} (h : M.1.cls = RL := by rfl) : zz_cV M mX7_order 67 1 := by
  unfold zz_cV zz_cB
  rw [h]
  exact ⟨⟨zz_in 795 rfl rfl, zz_in 45 rfl rfl, zz_in 792 rfl rfl, ⟨by decide, by decide, by decide +kernel⟩, by decide⟩, zz_in 793 rfl rfl, zz_in 794 rfl rfl⟩
set_option maxRecDepth 100000 in
theorem lk_RL_68 {M : zz_MD} (h : M.1.cls = RL := by rfl) : zz_cV M mX6_kept 68 0 := by
  unfold zz_cV zz_cB
  rw [h]
  exact ⟨⟨zz_in 431 rfl rfl, zz_in 39 rfl rfl, zz_in 428 rfl rfl, ⟨by decide, by decide, by decide +kernel⟩, by decide⟩, zz_in 429 rfl rfl, zz_in 430 rfl rfl⟩
set_option maxRecDepth 100000 in
theorem lk_RL_71 {M : zz_MD} (h : M.1.cls = RL := by rfl) : zz_cV M mX7_kept 71 0 := by
  unfold zz_cV zz_cB
  rw [h]
  exact ⟨⟨zz_in 817 rfl rfl, zz_in 45 rfl rfl, zz_in 814 rfl rfl, ⟨by decide, by decide, by decide +kernel⟩, by decide⟩, zz_in 815 rfl rfl, zz_in 816 rfl rfl⟩
set_option maxRecDepth 100000 in
theorem lk_RL_72 {M : zz_MD} (h : M.1.cls = RL := by rfl) : zz_cV M mX6_must 72 2 := by
  unfold zz_cV zz_cB
  rw [h]
  exact ⟨⟨zz_in 453 rfl rfl, zz_in 39 rfl rfl, zz_in 450 rfl rfl, ⟨by decide, by decide, by decide +kernel⟩, by decide⟩, zz_in 451 rfl rfl, zz_in 452 rfl rfl⟩
set_option maxRecDepth 100000 in
theorem lk_RL_75 {M : zz_MD} (h : M.1.cls = RL := by rfl) : zz_cV M mX7_must 75 2 := by
  unfold zz_cV zz_cB
  rw [h]
  exact ⟨⟨zz_in 828 rfl rfl, zz_in 45 rfl rfl, zz_in 825 rfl rfl, ⟨by decide, by decide, by decide +kernel⟩, by decide⟩, zz_in 826 rfl rfl, zz_in 827 rfl rfl⟩
set_option maxRecDepth 100000 in
theorem lk_RL_76 {M : zz_MD} (h : M.1.cls = RL := by rfl) : zz_cV M mX6_wrongs 76 0 := by
  unfold zz_cV zz_cB
  rw [h]
  exact ⟨⟨zz_in 460 rfl rfl, zz_in 39 rfl rfl, zz_in 457 rfl rfl, ⟨by decide, by decide, by decide +kernel⟩, by decide⟩, zz_in 458 rfl rfl, zz_in 459 rfl rfl⟩
set_option maxRecDepth 100000 in
theorem lk_RL_79 {M : zz_MD} (h : M.1.cls = RL := by rfl) : zz_cV M mX7_wrongs 79 0 := by
  unfold zz_cV zz_cB
  rw [h]
  exact ⟨⟨zz_in 835 rfl rfl, zz_in 45 rfl rfl, zz_in 832 rfl rfl, ⟨by decide, by decide, by decide +kernel⟩, by decide⟩, zz_in 833 rfl rfl, zz_in 834 rfl rfl⟩
set_option maxRecDepth 100000 in
theorem lk_RL_80 {M : zz_MD} (h : M.1.cls = RL := by rfl) : zz_cV M mX6_goes 80 3 := by
  unfold zz_cV zz_cB
  rw [h]
  exact ⟨⟨zz_in 471 rfl rfl, zz_in 39 rfl rfl, zz_in 468 rfl rfl, ⟨by decide, by decide, by decide +kernel⟩, by decide⟩, zz_in 469 rfl rfl, zz_in 470 rfl rfl⟩
set_option maxRecDepth 100000 in
theorem lk_RL_84 {M : zz_MD} (h : M.1.cls = RL := by rfl) : zz_cV M mX7_goes 84 3 := by
  unfold zz_cV zz_cB
  rw [h]
  exact ⟨⟨zz_in 851 rfl rfl, zz_in 45 rfl rfl, zz_in 848 rfl rfl, ⟨by decide, by decide, by decide +kernel⟩, by decide⟩, zz_in 849 rfl rfl, zz_in 850 rfl rfl⟩
set_option maxRecDepth 100000 in
theorem lk_RL_85 {M : zz_MD} (h : M.1.cls = RL := by rfl) : zz_cV M mX6_learnt 85 1 := by
  unfold zz_cV zz_cB
  rw [h]
  exact ⟨⟨zz_in 493 rfl rfl, zz_in 39 rfl rfl, zz_in 490 rfl rfl, ⟨by decide, by decide, by decide +kernel⟩, by decide⟩, zz_in 491 rfl rfl, zz_in 492 rfl rfl⟩
set_option maxRecDepth 100000 in
theorem lk_RL_88 {M : zz_MD} (h : M.1.cls = RL := by rfl) : zz_cV M mX7_learnt 88 1 := by
  unfold zz_cV zz_cB
  rw [h]
  exact ⟨⟨zz_in 861 rfl rfl, zz_in 45 rfl rfl, zz_in 858 rfl rfl, ⟨by decide, by decide, by decide +kernel⟩, by decide⟩, zz_in 859 rfl rfl, zz_in 860 rfl rfl⟩
set_option maxRecDepth 100000 in
theorem lk_RL_89 {M : zz_MD} (h : M.1.cls = RL := by rfl) : zz_cV M mX6_otherwise 89 3 := by
  unfold zz_cV zz_cB
  rw [h]
  exact ⟨⟨zz_in 502 rfl rfl, zz_in 39 rfl rfl, zz_in 499 rfl rfl, ⟨by decide, by decide, by decide +kernel⟩, by decide⟩, zz_in 500 rfl rfl, zz_in 501 rfl rfl⟩
set_option maxRecDepth 100000 in
theorem lk_RL_93 {M : zz_MD} (h : M.1.cls = RL := by rfl) : zz_cV M mX7_otherwise 93 3 := by
  unfold zz_cV zz_cB
  rw [h]
  exact ⟨⟨zz_in 865 rfl rfl, zz_in 45 rfl rfl, zz_in 862 rfl rfl, ⟨by decide, by decide, by decide +kernel⟩, by decide⟩, zz_in 863 rfl rfl, zz_in 864 rfl rfl⟩
set_option maxRecDepth 100000 in
theorem lk_RL_94 {M : zz_MD} (h : M.1.cls = RL := by rfl) : zz_cV M mX6_clash 94 0 := by
  unfold zz_cV zz_cB
  rw [h]
  exact ⟨⟨zz_in 517 rfl rfl, zz_in 39 rfl rfl, zz_in 514 rfl rfl, ⟨by decide, by decide, by decide +kernel⟩, by decide⟩, zz_in 515 rfl rfl, zz_in 516 rfl rfl⟩
set_option maxRecDepth 100000 in
theorem lk_RL_97 {M : zz_MD} (h : M.1.cls = RL := by rfl) : zz_cV M mX7_clash 97 0 := by
  unfold zz_cV zz_cB
  rw [h]
  exact ⟨⟨zz_in 869 rfl rfl, zz_in 45 rfl rfl, zz_in 866 rfl rfl, ⟨by decide, by decide, by decide +kernel⟩, by decide⟩, zz_in 867 rfl rfl, zz_in 868 rfl rfl⟩
set_option maxRecDepth 100000 in
theorem lk_RL_98 {M : zz_MD} (h : M.1.cls = RL := by rfl) : zz_cV M mX6_length 98 2 := by
  unfold zz_cV zz_cB
  rw [h]
  exact ⟨⟨zz_in 522 rfl rfl, zz_in 39 rfl rfl, zz_in 519 rfl rfl, ⟨by decide, by decide, by decide +kernel⟩, by decide⟩, zz_in 520 rfl rfl, zz_in 521 rfl rfl⟩
set_option maxRecDepth 100000 in
theorem lk_RL_101 {M : zz_MD} (h : M.1.cls = RL := by rfl) : zz_cV M mX7_length 101 2 := by
  unfold zz_cV zz_cB
  rw [h]
  exact ⟨⟨zz_in 876 rfl rfl, zz_in 45 rfl rfl, zz_in 873 rfl rfl, ⟨by decide, by decide, by decide +kernel⟩, by decide⟩, zz_in 874 rfl rfl, zz_in 875 rfl rfl⟩
set_option maxRecDepth 100000 in
theorem lk_RL_102 {M : zz_MD} (h : M.1.cls = RL := by rfl) : zz_cV M mX6_lengths 102 0 := by
  unfold zz_cV zz_cB
  rw [h]
  exact ⟨⟨zz_in 526 rfl rfl, zz_in 39 rfl rfl, zz_in 523 rfl rfl, ⟨by decide, by decide, by decide +kernel⟩, by decide⟩, zz_in 524 rfl rfl, zz_in 525 rfl rfl⟩
set_option maxRecDepth 100000 in
theorem lk_RL_105 {M : zz_MD} (h : M.1.cls = RL := by rfl) : zz_cV M mX7_lengths 105 0 := by
  unfold zz_cV zz_cB
  rw [h]
  exact ⟨⟨zz_in 880 rfl rfl, zz_in 45 rfl rfl, zz_in 877 rfl rfl, ⟨by decide, by decide, by decide +kernel⟩, by decide⟩, zz_in 878 rfl rfl, zz_in 879 rfl rfl⟩
set_option maxRecDepth 100000 in
theorem lk_RL_106 {M : zz_MD} (h : M.1.cls = RL := by rfl) : zz_cV M mX6_laid 106 1 := by
  unfold zz_cV zz_cB
  rw [h]
  exact ⟨⟨zz_in 530 rfl rfl, zz_in 39 rfl rfl, zz_in 527 rfl rfl, ⟨by decide, by decide, by decide +kernel⟩, by decide⟩, zz_in 528 rfl rfl, zz_in 529 rfl rfl⟩
set_option maxRecDepth 100000 in
theorem lk_RL_110 {M : zz_MD} (h : M.1.cls = RL := by rfl) : zz_cV M mX7_laid 110 1 := by
  unfold zz_cV zz_cB
  rw [h]
  exact ⟨⟨zz_in 884 rfl rfl, zz_in 45 rfl rfl, zz_in 881 rfl rfl, ⟨by decide, by decide, by decide +kernel⟩, by decide⟩, zz_in 882 rfl rfl, zz_in 883 rfl rfl⟩
set_option maxRecDepth 100000 in
theorem lk_RL_111 {M : zz_MD} (h : M.1.cls = RL := by rfl) : zz_cV M mX6_image 111 1 := by
  unfold zz_cV zz_cB
  rw [h]
  exact ⟨⟨zz_in 572 rfl rfl, zz_in 39 rfl rfl, zz_in 569 rfl rfl, ⟨by decide, by decide, by decide +kernel⟩, by decide⟩, zz_in 570 rfl rfl, zz_in 571 rfl rfl⟩
set_option maxRecDepth 100000 in
theorem lk_RL_114 {M : zz_MD} (h : M.1.cls = RL := by rfl) : zz_cV M mX7_image 114 1 := by
  unfold zz_cV zz_cB
  rw [h]
  exact ⟨⟨zz_in 906 rfl rfl, zz_in 45 rfl rfl, zz_in 903 rfl rfl, ⟨by decide, by decide, by decide +kernel⟩, by decide⟩, zz_in 904 rfl rfl, zz_in 905 rfl rfl⟩
set_option maxRecDepth 100000 in
theorem lk_RL_115 {M : zz_MD} (h : M.1.cls = RL := by rfl) : zz_cV M mX6_restore 115 1 := by
  unfold zz_cV zz_cB
  rw [h]
  exact ⟨⟨zz_in 593 rfl rfl, zz_in 39 rfl rfl, zz_in 590 rfl rfl, ⟨by decide, by decide, by decide +kernel⟩, by decide⟩, zz_in 591 rfl rfl, zz_in 592 rfl rfl⟩
set_option maxRecDepth 100000 in
theorem lk_RL_118 {M : zz_MD} (h : M.1.cls = RL := by rfl) : zz_cV M mX7_restore 118 1 := by
  unfold zz_cV zz_cB
  rw [h]
  exact ⟨⟨zz_in 910 rfl rfl, zz_in 45 rfl rfl, zz_in 907 rfl rfl, ⟨by decide, by decide, by decide +kernel⟩, by decide⟩, zz_in 908 rfl rfl, zz_in 909 rfl rfl⟩
set_option maxRecDepth 100000 in
theorem lk_RL_119 {M : zz_MD} (h : M.1.cls = RL := by rfl) : zz_cV M mX6_told 119 1 := by
  unfold zz_cV zz_cB
  rw [h]
  exact ⟨⟨zz_in 597 rfl rfl, zz_in 39 rfl rfl, zz_in 594 rfl rfl, ⟨by decide, by decide, by decide +kernel⟩, by decide⟩, zz_in 595 rfl rfl, zz_in 596 rfl rfl⟩
set_option maxRecDepth 100000 in
theorem lk_RL_122 {M : zz_MD} (h : M.1.cls = RL := by rfl) : zz_cV M mX7_told 122 1 := by
  unfold zz_cV zz_cB
  rw [h]
  exact ⟨⟨zz_in 914 rfl rfl, zz_in 45 rfl rfl, zz_in 911 rfl rfl, ⟨by decide, by decide, by decide +kernel⟩, by decide⟩, zz_in 912 rfl rfl, zz_in 913 rfl rfl⟩
set_option maxRecDepth 100000 in
theorem lk_RX0_34 {M : zz_MD} (h : M.1.cls = RX0 := by rfl) : zz_cV M mX0_layFrom 34 4 := by
  unfold zz_cV zz_cB
  rw [h]
  exact ⟨⟨zz_in 538 rfl rfl, zz_in 44 rfl rfl, zz_in 535 rfl rfl, ⟨by decide, by decide, by decide +kernel⟩, by decide⟩, zz_in 537 rfl rfl, zz_in 11 rfl rfl⟩
set_option maxRecDepth 100000 in
theorem lk_RX0_38 {M : zz_MD} (h : M.1.cls = RX0 := by rfl) : zz_cV M mX0_readSteps 38 2 := by
  unfold zz_cV zz_cB
  rw [h]
  exact ⟨⟨zz_in 563 rfl rfl, zz_in 44 rfl rfl, zz_in 560 rfl rfl, ⟨by decide, by decide, by decide +kernel⟩, by decide⟩, zz_in 562 rfl rfl, zz_in 13 rfl rfl⟩
set_option maxRecDepth 100000 in
theorem lk_RX0_45 {M : zz_MD} (h : M.1.cls = RX0 := by rfl) : zz_cS M mX0_fits 45 5 := by
  unfold zz_cS zz_cB
  rw [h]
  exact ⟨⟨zz_in 542 rfl rfl, zz_in 44 rfl rfl, zz_in 540 rfl rfl, ⟨by decide, by decide, by decide +kernel⟩, by decide⟩, zz_in 541 rfl rfl⟩
set_option maxRecDepth 100000 in
theorem lk_RX0_49 {M : zz_MD} (h : M.1.cls = RX0 := by rfl) : zz_cV M mX0_costWith 49 5 := by
  unfold zz_cV zz_cB
  rw [h]
  exact ⟨⟨zz_in 550 rfl rfl, zz_in 44 rfl rfl, zz_in 547 rfl rfl, ⟨by decide, by decide, by decide +kernel⟩, by decide⟩, zz_in 549 rfl rfl, zz_in 12 rfl rfl⟩
set_option maxRecDepth 100000 in
theorem lk_RX0_60 {M : zz_MD} (h : M.1.cls = RX0 := by rfl) : zz_cS M mX0_together 60 3 := by
  unfold zz_cS zz_cB
  rw [h]
  exact ⟨⟨zz_in 553 rfl rfl, zz_in 44 rfl rfl, zz_in 551 rfl rfl, ⟨by decide, by decide, by decide +kernel⟩, by decide⟩, zz_in 552 rfl rfl⟩
set_option maxRecDepth 100000 in
theorem lk_RX0_73 {M : zz_MD} (h : M.1.cls = RX0 := by rfl) : zz_cV M mX4_at 73 1 := by
  unfold zz_cV zz_cB
  rw [h]
  exact ⟨⟨zz_in 266 rfl rfl, zz_in 40 rfl rfl, zz_in 554 rfl rfl, ⟨by decide, by decide, by decide +kernel⟩, by decide⟩, zz_in 264 rfl rfl, zz_in 265 rfl rfl⟩
set_option maxRecDepth 100000 in
theorem lk_RX0_76 {M : zz_MD} (h : M.1.cls = RX0 := by rfl) : zz_cV M mX0_firstOfLeast 76 4 := by
  unfold zz_cV zz_cB
  rw [h]
  exact ⟨⟨zz_in 567 rfl rfl, zz_in 44 rfl rfl, zz_in 564 rfl rfl, ⟨by decide, by decide, by decide +kernel⟩, by decide⟩, zz_in 566 rfl rfl, zz_in 14 rfl rfl⟩
set_option maxRecDepth 100000 in
theorem lk_RX0_80 {M : zz_MD} (h : M.1.cls = RX0 := by rfl) : zz_cV M mX4_add 80 1 := by
  unfold zz_cV zz_cB
  rw [h]
  exact ⟨⟨zz_in 246 rfl rfl, zz_in 40 rfl rfl, zz_in 568 rfl rfl, ⟨by decide, by decide, by decide +kernel⟩, by decide⟩, zz_in 244 rfl rfl, zz_in 245 rfl rfl⟩
set_option maxRecDepth 100000 in
theorem lk_RX1_27 {M : zz_MD} (h : M.1.cls = RX1 := by rfl) : zz_cV M mX4_at 27 1 := by
  unfold zz_cV zz_cB
  rw [h]
  exact ⟨⟨zz_in 266 rfl rfl, zz_in 40 rfl rfl, zz_in 313 rfl rfl, ⟨by decide, by decide, by decide +kernel⟩, by decide⟩, zz_in 264 rfl rfl, zz_in 265 rfl rfl⟩
set_option maxRecDepth 100000 in
theorem lk_RX1_31 {M : zz_MD} (h : M.1.cls = RX1 := by rfl) : zz_cS M mX1_costOfChange 31 2 := by
  unfold zz_cS zz_cB
  rw [h]
  exact ⟨⟨zz_in 316 rfl rfl, zz_in 42 rfl rfl, zz_in 314 rfl rfl, ⟨by decide, by decide, by decide +kernel⟩, by decide⟩, zz_in 315 rfl rfl⟩
set_option maxRecDepth 100000 in
theorem lk_RX1_41 {M : zz_MD} (h : M.1.cls = RX1 := by rfl) : zz_cV M mX1_farOf 41 2 := by
  unfold zz_cV zz_cB
  rw [h]
  exact ⟨⟨zz_in 309 rfl rfl, zz_in 42 rfl rfl, zz_in 306 rfl rfl, ⟨by decide, by decide, by decide +kernel⟩, by decide⟩, zz_in 307 rfl rfl, zz_in 308 rfl rfl⟩
set_option maxRecDepth 100000 in
theorem lk_RX1_54 {M : zz_MD} (h : M.1.cls = RX1 := by rfl) : zz_cV M mX1_likeOf 54 2 := by
  unfold zz_cV zz_cB
  rw [h]
  exact ⟨⟨zz_in 302 rfl rfl, zz_in 42 rfl rfl, zz_in 299 rfl rfl, ⟨by decide, by decide, by decide +kernel⟩, by decide⟩, zz_in 301 rfl rfl, zz_in 4 rfl rfl⟩
set_option maxRecDepth 100000 in
theorem lk_RX1_57 {M : zz_MD} (h : M.1.cls = RX1 := by rfl) : zz_cV M mX2_standsAsBefore 57 2 := by
  unfold zz_cV zz_cB
  rw [h]
  exact ⟨⟨zz_in 321 rfl rfl, zz_in 41 rfl rfl, zz_in 318 rfl rfl, ⟨by decide, by decide, by decide +kernel⟩, by decide⟩, zz_in 319 rfl rfl, zz_in 320 rfl rfl⟩
set_option maxRecDepth 100000 in
theorem lk_RX1_68 {M : zz_MD} (h : M.1.cls = RX1 := by rfl) : zz_cV M mX1_matchOf 68 3 := by
  unfold zz_cV zz_cB
  rw [h]
  exact ⟨⟨zz_in 298 rfl rfl, zz_in 42 rfl rfl, zz_in 295 rfl rfl, ⟨by decide, by decide, by decide +kernel⟩, by decide⟩, zz_in 297 rfl rfl, zz_in 3 rfl rfl⟩
set_option maxRecDepth 100000 in
theorem lk_RX2_58 {M : zz_MD} (h : M.1.cls = RX2 := by rfl) : zz_cV M mX2_isSentence 58 1 := by
  unfold zz_cV zz_cB
  rw [h]
  exact ⟨⟨zz_in 325 rfl rfl, zz_in 41 rfl rfl, zz_in 322 rfl rfl, ⟨by decide, by decide, by decide +kernel⟩, by decide⟩, zz_in 323 rfl rfl, zz_in 324 rfl rfl⟩
set_option maxRecDepth 100000 in
theorem lk_RX2_62 {M : zz_MD} (h : M.1.cls = RX2 := by rfl) : zz_cV M mX2_isPair 62 1 := by
  unfold zz_cV zz_cB
  rw [h]
  exact ⟨⟨zz_in 284 rfl rfl, zz_in 41 rfl rfl, zz_in 326 rfl rfl, ⟨by decide, by decide, by decide +kernel⟩, by decide⟩, zz_in 282 rfl rfl, zz_in 283 rfl rfl⟩
set_option maxRecDepth 100000 in
theorem lk_RX2_65 {M : zz_MD} (h : M.1.cls = RX2 := by rfl) : zz_cV M mX4_sameAs 65 1 := by
  unfold zz_cV zz_cB
  rw [h]
  exact ⟨⟨zz_in 330 rfl rfl, zz_in 40 rfl rfl, zz_in 327 rfl rfl, ⟨by decide, by decide, by decide +kernel⟩, by decide⟩, zz_in 328 rfl rfl, zz_in 329 rfl rfl⟩
set_option maxRecDepth 100000 in
theorem lk_RX2_69 {M : zz_MD} (h : M.1.cls = RX2 := by rfl) : zz_cV M mX2_takePairs 69 1 := by
  unfold zz_cV zz_cB
  rw [h]
  exact ⟨⟨zz_in 580 rfl rfl, zz_in 41 rfl rfl, zz_in 577 rfl rfl, ⟨by decide, by decide, by decide +kernel⟩, by decide⟩, zz_in 579 rfl rfl, zz_in 15 rfl rfl⟩
set_option maxRecDepth 100000 in
theorem lk_RX2_73 {M : zz_MD} (h : M.1.cls = RX2 := by rfl) : zz_cV M mX2_takeText 73 1 := by
  unfold zz_cV zz_cB
  rw [h]
  exact ⟨⟨zz_in 589 rfl rfl, zz_in 41 rfl rfl, zz_in 586 rfl rfl, ⟨by decide, by decide, by decide +kernel⟩, by decide⟩, zz_in 588 rfl rfl, zz_in 16 rfl rfl⟩
set_option maxRecDepth 100000 in
theorem lk_RX2_76 {M : zz_MD} (h : M.1.cls = RX2 := by rfl) : zz_cV M mX4_take 76 1 := by
  unfold zz_cV zz_cB
  rw [h]
  exact ⟨⟨zz_in 584 rfl rfl, zz_in 40 rfl rfl, zz_in 581 rfl rfl, ⟨by decide, by decide, by decide +kernel⟩, by decide⟩, zz_in 582 rfl rfl, zz_in 583 rfl rfl⟩
set_option maxRecDepth 100000 in
theorem lk_RX3_40 {M : zz_MD} (h : M.1.cls = RX3 := by rfl) : zz_cV M mX2_bestFor 40 1 := by
  unfold zz_cV zz_cB
  rw [h]
  exact ⟨⟨zz_in 360 rfl rfl, zz_in 41 rfl rfl, zz_in 392 rfl rfl, ⟨by decide, by decide, by decide +kernel⟩, by decide⟩, zz_in 358 rfl rfl, zz_in 359 rfl rfl⟩
set_option maxRecDepth 100000 in
theorem lk_RX3_49 {M : zz_MD} (h : M.1.cls = RX3 := by rfl) : zz_cS M mX3_bandOf 49 1 := by
  unfold zz_cS zz_cB
  rw [h]
  exact ⟨⟨zz_in 395 rfl rfl, zz_in 43 rfl rfl, zz_in 393 rfl rfl, ⟨by decide, by decide, by decide +kernel⟩, by decide⟩, zz_in 394 rfl rfl⟩
set_option maxRecDepth 100000 in
theorem lk_RX3_52 {M : zz_MD} (h : M.1.cls = RX3 := by rfl) : zz_cS M mX3_bandFound 52 2 := by
  unfold zz_cS zz_cB
  rw [h]
  exact ⟨⟨zz_in 391 rfl rfl, zz_in 43 rfl rfl, zz_in 389 rfl rfl, ⟨by decide, by decide, by decide +kernel⟩, by decide⟩, zz_in 390 rfl rfl⟩
set_option maxRecDepth 100000 in
theorem lk_RX3_70 {M : zz_MD} (h : M.1.cls = RX3 := by rfl) : zz_cS M mX3_ofSentence 70 2 := by
  unfold zz_cS zz_cB
  rw [h]
  exact ⟨⟨zz_in 388 rfl rfl, zz_in 43 rfl rfl, zz_in 386 rfl rfl, ⟨by decide, by decide, by decide +kernel⟩, by decide⟩, zz_in 387 rfl rfl⟩
set_option maxRecDepth 100000 in
theorem lk_RX3_73 {M : zz_MD} (h : M.1.cls = RX3 := by rfl) : zz_cV M mX3_readRatesByMemory 73 1 := by
  unfold zz_cV zz_cB
  rw [h]
  exact ⟨⟨zz_in 408 rfl rfl, zz_in 43 rfl rfl, zz_in 405 rfl rfl, ⟨by decide, by decide, by decide +kernel⟩, by decide⟩, zz_in 407 rfl rfl, zz_in 5 rfl rfl⟩
set_option maxRecDepth 100000 in
theorem lk_RX3_77 {M : zz_MD} (h : M.1.cls = RX3 := by rfl) : zz_cV M mX3_readHelpers 77 1 := by
  unfold zz_cV zz_cB
  rw [h]
  exact ⟨⟨zz_in 413 rfl rfl, zz_in 43 rfl rfl, zz_in 410 rfl rfl, ⟨by decide, by decide, by decide +kernel⟩, by decide⟩, zz_in 412 rfl rfl, zz_in 6 rfl rfl⟩
set_option maxRecDepth 100000 in
theorem lk_RX3_80 {M : zz_MD} (h : M.1.cls = RX3 := by rfl) : zz_cV M mX3_chooseNext 80 2 := by
  unfold zz_cV zz_cB
  rw [h]
  exact ⟨⟨zz_in 417 rfl rfl, zz_in 43 rfl rfl, zz_in 414 rfl rfl, ⟨by decide, by decide, by decide +kernel⟩, by decide⟩, zz_in 416 rfl rfl, zz_in 7 rfl rfl⟩
set_option maxRecDepth 100000 in
theorem lk_RX3_84 {M : zz_MD} (h : M.1.cls = RX3 := by rfl) : zz_cV M mX4_add 84 1 := by
  unfold zz_cV zz_cB
  rw [h]
  exact ⟨⟨zz_in 246 rfl rfl, zz_in 40 rfl rfl, zz_in 423 rfl rfl, ⟨by decide, by decide, by decide +kernel⟩, by decide⟩, zz_in 244 rfl rfl, zz_in 245 rfl rfl⟩
set_option maxRecDepth 100000 in
theorem lk_RX3_103 {M : zz_MD} (h : M.1.cls = RX3 := by rfl) : zz_cV M mX3_priceWith 103 3 := by
  unfold zz_cV zz_cB
  rw [h]
  exact ⟨⟨zz_in 422 rfl rfl, zz_in 43 rfl rfl, zz_in 419 rfl rfl, ⟨by decide, by decide, by decide +kernel⟩, by decide⟩, zz_in 421 rfl rfl, zz_in 8 rfl rfl⟩
set_option maxRecDepth 100000 in
theorem lk_RX3_107 {M : zz_MD} (h : M.1.cls = RX3 := by rfl) : zz_cV M mX3_readNeeded 107 1 := by
  unfold zz_cV zz_cB
  rw [h]
  exact ⟨⟨zz_in 439 rfl rfl, zz_in 43 rfl rfl, zz_in 436 rfl rfl, ⟨by decide, by decide, by decide +kernel⟩, by decide⟩, zz_in 438 rfl rfl, zz_in 9 rfl rfl⟩
set_option maxRecDepth 100000 in
theorem lk_RX3_110 {M : zz_MD} (h : M.1.cls = RX3 := by rfl) : zz_cS M mJ6_bitCount_0f7a4 110 1 := by
  unfold zz_cS zz_cB
  rw [h]
  exact ⟨⟨zz_in 442 rfl rfl, zz_in 47 rfl rfl, zz_in 440 rfl rfl, ⟨by decide, by decide, by decide +kernel⟩, by decide⟩, zz_in 441 rfl rfl⟩
set_option maxRecDepth 100000 in
theorem lk_RX3_113 {M : zz_MD} (h : M.1.cls = RX3 := by rfl) : zz_cV M mX3_isEnough 113 2 := by
  unfold zz_cV zz_cB
  rw [h]
  exact ⟨⟨zz_in 449 rfl rfl, zz_in 43 rfl rfl, zz_in 446 rfl rfl, ⟨by decide, by decide, by decide +kernel⟩, by decide⟩, zz_in 448 rfl rfl, zz_in 10 rfl rfl⟩
set_option maxRecDepth 100000 in
theorem lk_RX4_19 {M : zz_MD} (h : M.1.cls = RX4 := by rfl) : zz_cV M mX4_at 19 1 := by
  unfold zz_cV zz_cB
  rw [h]
  exact ⟨⟨zz_in 266 rfl rfl, zz_in 40 rfl rfl, zz_in 289 rfl rfl, ⟨by decide, by decide, by decide +kernel⟩, by decide⟩, zz_in 264 rfl rfl, zz_in 265 rfl rfl⟩
set_option maxRecDepth 100000 in
theorem lk_RX4_23 {M : zz_MD} (h : M.1.cls = RX4 := by rfl) : zz_cV M mX4_add 23 1 := by
  unfold zz_cV zz_cB
  rw [h]
  exact ⟨⟨zz_in 246 rfl rfl, zz_in 40 rfl rfl, zz_in 290 rfl rfl, ⟨by decide, by decide, by decide +kernel⟩, by decide⟩, zz_in 244 rfl rfl, zz_in 245 rfl rfl⟩
set_option maxRecDepth 100000 in
theorem lk_RX4_27 {M : zz_MD} (h : M.1.cls = RX4 := by rfl) : zz_cV M mX4_takePart 27 3 := by
  unfold zz_cV zz_cB
  rw [h]
  exact ⟨⟨zz_in 288 rfl rfl, zz_in 40 rfl rfl, zz_in 585 rfl rfl, ⟨by decide, by decide, by decide +kernel⟩, by decide⟩, zz_in 286 rfl rfl, zz_in 287 rfl rfl⟩
set_option maxRecDepth 100000 in
theorem lk_RX5_19 {M : zz_MD} (h : M.1.cls = RX5 := by rfl) : zz_cV M mX4_timesOf 19 1 := by
  unfold zz_cV zz_cB
  rw [h]
  exact ⟨⟨zz_in 467 rfl rfl, zz_in 40 rfl rfl, zz_in 464 rfl rfl, ⟨by decide, by decide, by decide +kernel⟩, by decide⟩, zz_in 465 rfl rfl, zz_in 466 rfl rfl⟩
set_option maxRecDepth 100000 in
theorem lk_RX5_28 {M : zz_MD} (h : M.1.cls = RX5 := by rfl) : zz_cV M mX4_placeOf 28 1 := by
  unfold zz_cV zz_cB
  rw [h]
  exact ⟨⟨zz_in 374 rfl rfl, zz_in 40 rfl rfl, zz_in 480 rfl rfl, ⟨by decide, by decide, by decide +kernel⟩, by decide⟩, zz_in 372 rfl rfl, zz_in 373 rfl rfl⟩
set_option maxRecDepth 100000 in
theorem lk_RX5_35 {M : zz_MD} (h : M.1.cls = RX5 := by rfl) : zz_cS M mX5_inFirst 35 3 := by
  unfold zz_cS zz_cB
  rw [h]
  exact ⟨⟨zz_in 479 rfl rfl, zz_in 48 rfl rfl, zz_in 477 rfl rfl, ⟨by decide, by decide, by decide +kernel⟩, by decide⟩, zz_in 478 rfl rfl⟩
set_option maxRecDepth 100000 in
theorem lk_RX5_41 {M : zz_MD} (h : M.1.cls = RX5 := by rfl) : zz_cS M mX5_inSecond 41 3 := by
  unfold zz_cS zz_cB
  rw [h]
  exact ⟨⟨zz_in 483 rfl rfl, zz_in 48 rfl rfl, zz_in 481 rfl rfl, ⟨by decide, by decide, by decide +kernel⟩, by decide⟩, zz_in 482 rfl rfl⟩
set_option maxRecDepth 100000 in
theorem lk_RX5_44 {M : zz_MD} (h : M.1.cls = RX5 := by rfl) : zz_cS M mX5_pairsWithBoth 44 3 := by
  unfold zz_cS zz_cB
  rw [h]
  exact ⟨⟨zz_in 476 rfl rfl, zz_in 48 rfl rfl, zz_in 497 rfl rfl, ⟨by decide, by decide, by decide +kernel⟩, by decide⟩, zz_in 475 rfl rfl⟩
set_option maxRecDepth 100000 in
theorem lk_RX5_48 {M : zz_MD} (h : M.1.cls = RX5 := by rfl) : zz_cS M mX5_pairsWithEither 48 3 := by
  unfold zz_cS zz_cB
  rw [h]
  exact ⟨⟨zz_in 486 rfl rfl, zz_in 48 rfl rfl, zz_in 498 rfl rfl, ⟨by decide, by decide, by decide +kernel⟩, by decide⟩, zz_in 485 rfl rfl⟩
set_option maxRecDepth 100000 in
theorem lk_RX5_51 {M : zz_MD} (h : M.1.cls = RX5 := by rfl) : zz_cS M mX5_changeIn 51 3 := by
  unfold zz_cS zz_cB
  rw [h]
  exact ⟨⟨zz_in 508 rfl rfl, zz_in 48 rfl rfl, zz_in 506 rfl rfl, ⟨by decide, by decide, by decide +kernel⟩, by decide⟩, zz_in 507 rfl rfl⟩
set_option maxRecDepth 100000 in
theorem lk_RX5_58 {M : zz_MD} (h : M.1.cls = RX5 := by rfl) : zz_cV M mX4_at 58 1 := by
  unfold zz_cV zz_cB
  rw [h]
  exact ⟨⟨zz_in 266 rfl rfl, zz_in 40 rfl rfl, zz_in 509 rfl rfl, ⟨by decide, by decide, by decide +kernel⟩, by decide⟩, zz_in 264 rfl rfl, zz_in 265 rfl rfl⟩
set_option maxRecDepth 100000 in
theorem lk_RX5_61 {M : zz_MD} (h : M.1.cls = RX5 := by rfl) : zz_cV M mX4_put 61 2 := by
  unfold zz_cV zz_cB
  rw [h]
  exact ⟨⟨zz_in 513 rfl rfl, zz_in 40 rfl rfl, zz_in 510 rfl rfl, ⟨by decide, by decide, by decide +kernel⟩, by decide⟩, zz_in 511 rfl rfl, zz_in 512 rfl rfl⟩
set_option maxRecDepth 100000 in
theorem lk_RX6_54 {M : zz_MD} (h : M.1.cls = RX6 := by rfl) : zz_cV M mX4_add 54 1 := by
  unfold zz_cV zz_cB
  rw [h]
  exact ⟨⟨zz_in 246 rfl rfl, zz_in 40 rfl rfl, zz_in 243 rfl rfl, ⟨by decide, by decide, by decide +kernel⟩, by decide⟩, zz_in 244 rfl rfl, zz_in 245 rfl rfl⟩
set_option maxRecDepth 100000 in
theorem lk_RX6_62 {M : zz_MD} (h : M.1.cls = RX6 := by rfl) : zz_cV M mX6_faultAsSentence 62 0 := by
  unfold zz_cV zz_cB
  rw [h]
  exact ⟨⟨zz_in 258 rfl rfl, zz_in 39 rfl rfl, zz_in 255 rfl rfl, ⟨by decide, by decide, by decide +kernel⟩, by decide⟩, zz_in 257 rfl rfl, zz_in 0 rfl rfl⟩
set_option maxRecDepth 100000 in
theorem lk_RX6_66 {M : zz_MD} (h : M.1.cls = RX6 := by rfl) : zz_cV M mX6_faultAsPair 66 0 := by
  unfold zz_cV zz_cB
  rw [h]
  exact ⟨⟨zz_in 276 rfl rfl, zz_in 39 rfl rfl, zz_in 273 rfl rfl, ⟨by decide, by decide, by decide +kernel⟩, by decide⟩, zz_in 275 rfl rfl, zz_in 2 rfl rfl⟩
set_option maxRecDepth 100000 in
theorem lk_RX6_69 {M : zz_MD} (h : M.1.cls = RX6 := by rfl) : zz_cV M mX2_isPair 69 1 := by
  unfold zz_cV zz_cB
  rw [h]
  exact ⟨⟨zz_in 284 rfl rfl, zz_in 41 rfl rfl, zz_in 281 rfl rfl, ⟨by decide, by decide, by decide +kernel⟩, by decide⟩, zz_in 282 rfl rfl, zz_in 283 rfl rfl⟩
set_option maxRecDepth 100000 in
theorem lk_RX6_75 {M : zz_MD} (h : M.1.cls = RX6 := by rfl) : zz_cV M mX6_endOfTongue 75 2 := by
  unfold zz_cV zz_cB
  rw [h]
  exact ⟨⟨zz_in 262 rfl rfl, zz_in 39 rfl rfl, zz_in 259 rfl rfl, ⟨by decide, by decide, by decide +kernel⟩, by decide⟩, zz_in 261 rfl rfl, zz_in 1 rfl rfl⟩
set_option maxRecDepth 100000 in
theorem lk_RX6_83 {M : zz_MD} (h : M.1.cls = RX6 := by rfl) : zz_cV M mX4_takePart 83 3 := by
  unfold zz_cV zz_cB
  rw [h]
  exact ⟨⟨zz_in 288 rfl rfl, zz_in 40 rfl rfl, zz_in 285 rfl rfl, ⟨by decide, by decide, by decide +kernel⟩, by decide⟩, zz_in 286 rfl rfl, zz_in 287 rfl rfl⟩
set_option maxRecDepth 100000 in
theorem lk_RX6_94 {M : zz_MD} (h : M.1.cls = RX6 := by rfl) : zz_cV M mX1_meetPair 94 2 := by
  unfold zz_cV zz_cB
  rw [h]
  exact ⟨⟨zz_in 294 rfl rfl, zz_in 42 rfl rfl, zz_in 291 rfl rfl, ⟨by decide, by decide, by decide +kernel⟩, by decide⟩, zz_in 292 rfl rfl, zz_in 293 rfl rfl⟩
set_option maxRecDepth 100000 in
theorem lk_RX6_104 {M : zz_MD} (h : M.1.cls = RX6 := by rfl) : zz_cV M mX1_meetSentence 104 2 := by
  unfold zz_cV zz_cB
  rw [h]
  exact ⟨⟨zz_in 338 rfl rfl, zz_in 42 rfl rfl, zz_in 335 rfl rfl, ⟨by decide, by decide, by decide +kernel⟩, by decide⟩, zz_in 336 rfl rfl, zz_in 337 rfl rfl⟩
set_option maxRecDepth 100000 in
theorem lk_RX6_107 {M : zz_MD} (h : M.1.cls = RX6 := by rfl) : zz_cV M mX4_at 107 1 := by
  unfold zz_cV zz_cB
  rw [h]
  exact ⟨⟨zz_in 266 rfl rfl, zz_in 40 rfl rfl, zz_in 263 rfl rfl, ⟨by decide, by decide, by decide +kernel⟩, by decide⟩, zz_in 264 rfl rfl, zz_in 265 rfl rfl⟩
set_option maxRecDepth 100000 in
theorem lk_RX6_111 {M : zz_MD} (h : M.1.cls = RX6 := by rfl) : zz_cS M mX6_standsIn 111 2 := by
  unfold zz_cS zz_cB
  rw [h]
  exact ⟨⟨zz_in 269 rfl rfl, zz_in 39 rfl rfl, zz_in 267 rfl rfl, ⟨by decide, by decide, by decide +kernel⟩, by decide⟩, zz_in 268 rfl rfl⟩
set_option maxRecDepth 100000 in
theorem lk_RX6_115 {M : zz_MD} (h : M.1.cls = RX6 := by rfl) : zz_cS M mX6_isNumber 115 1 := by
  unfold zz_cS zz_cB
  rw [h]
  exact ⟨⟨zz_in 272 rfl rfl, zz_in 39 rfl rfl, zz_in 270 rfl rfl, ⟨by decide, by decide, by decide +kernel⟩, by decide⟩, zz_in 271 rfl rfl⟩
set_option maxRecDepth 100000 in
theorem lk_RX6_118 {M : zz_MD} (h : M.1.cls = RX6 := by rfl) : zz_cV M mX2_isSentence 118 1 := by
  unfold zz_cV zz_cB
  rw [h]
  exact ⟨⟨zz_in 325 rfl rfl, zz_in 41 rfl rfl, zz_in 347 rfl rfl, ⟨by decide, by decide, by decide +kernel⟩, by decide⟩, zz_in 323 rfl rfl, zz_in 324 rfl rfl⟩
set_option maxRecDepth 100000 in
theorem lk_RX6_121 {M : zz_MD} (h : M.1.cls = RX6 := by rfl) : zz_cV M mX1_farOf 121 2 := by
  unfold zz_cV zz_cB
  rw [h]
  exact ⟨⟨zz_in 309 rfl rfl, zz_in 42 rfl rfl, zz_in 348 rfl rfl, ⟨by decide, by decide, by decide +kernel⟩, by decide⟩, zz_in 307 rfl rfl, zz_in 308 rfl rfl⟩
set_option maxRecDepth 100000 in
theorem lk_RX6_129 {M : zz_MD} (h : M.1.cls = RX6 := by rfl) : zz_cV M mX2_bestFor 129 1 := by
  unfold zz_cV zz_cB
  rw [h]
  exact ⟨⟨zz_in 360 rfl rfl, zz_in 41 rfl rfl, zz_in 357 rfl rfl, ⟨by decide, by decide, by decide +kernel⟩, by decide⟩, zz_in 358 rfl rfl, zz_in 359 rfl rfl⟩
set_option maxRecDepth 100000 in
theorem lk_RX6_132 {M : zz_MD} (h : M.1.cls = RX6 := by rfl) : zz_cS M mX1_likeButForNumbers 132 2 := by
  unfold zz_cS zz_cB
  rw [h]
  exact ⟨⟨zz_in 367 rfl rfl, zz_in 42 rfl rfl, zz_in 365 rfl rfl, ⟨by decide, by decide, by decide +kernel⟩, by decide⟩, zz_in 366 rfl rfl⟩
set_option maxRecDepth 100000 in
theorem lk_RX6_136 {M : zz_MD} (h : M.1.cls = RX6 := by rfl) : zz_cS M mX6_signFilled 136 3 := by
  unfold zz_cS zz_cB
  rw [h]
  exact ⟨⟨zz_in 370 rfl rfl, zz_in 39 rfl rfl, zz_in 368 rfl rfl, ⟨by decide, by decide, by decide +kernel⟩, by decide⟩, zz_in 369 rfl rfl⟩
set_option maxRecDepth 100000 in
theorem lk_RX6_140 {M : zz_MD} (h : M.1.cls = RX6 := by rfl) : zz_cV M mX4_placeOf 140 1 := by
  unfold zz_cV zz_cB
  rw [h]
  exact ⟨⟨zz_in 374 rfl rfl, zz_in 40 rfl rfl, zz_in 371 rfl rfl, ⟨by decide, by decide, by decide +kernel⟩, by decide⟩, zz_in 372 rfl rfl, zz_in 373 rfl rfl⟩
set_option maxRecDepth 100000 in
theorem lk_RX6_146 {M : zz_MD} (h : M.1.cls = RX6 := by rfl) : zz_cS M mX3_ofText 146 1 := by
  unfold zz_cS zz_cB
  rw [h]
  exact ⟨⟨zz_in 385 rfl rfl, zz_in 43 rfl rfl, zz_in 383 rfl rfl, ⟨by decide, by decide, by decide +kernel⟩, by decide⟩, zz_in 384 rfl rfl⟩
set_option maxRecDepth 100000 in
theorem lk_RX6_150 {M : zz_MD} (h : M.1.cls = RX6 := by rfl) : zz_cS M mX3_ofSentence 150 2 := by
  unfold zz_cS zz_cB
  rw [h]
  exact ⟨⟨zz_in 388 rfl rfl, zz_in 43 rfl rfl, zz_in 396 rfl rfl, ⟨by decide, by decide, by decide +kernel⟩, by decide⟩, zz_in 387 rfl rfl⟩
set_option maxRecDepth 100000 in
theorem lk_RX6_154 {M : zz_MD} (h : M.1.cls = RX6 := by rfl) : zz_cV M mX3_putInOrder 154 1 := by
  unfold zz_cV zz_cB
  rw [h]
  exact ⟨⟨zz_in 404 rfl rfl, zz_in 43 rfl rfl, zz_in 401 rfl rfl, ⟨by decide, by decide, by decide +kernel⟩, by decide⟩, zz_in 402 rfl rfl, zz_in 403 rfl rfl⟩
set_option maxRecDepth 100000 in
theorem lk_RX6_158 {M : zz_MD} (h : M.1.cls = RX6 := by rfl) : zz_cV M mX3_least 158 0 := by
  unfold zz_cV zz_cB
  rw [h]
  exact ⟨⟨zz_in 427 rfl rfl, zz_in 43 rfl rfl, zz_in 424 rfl rfl, ⟨by decide, by decide, by decide +kernel⟩, by decide⟩, zz_in 425 rfl rfl, zz_in 426 rfl rfl⟩
set_option maxRecDepth 100000 in
theorem lk_RX6_164 {M : zz_MD} (h : M.1.cls = RX6 := by rfl) : zz_cV M mX3_fewestPairs 164 1 := by
  unfold zz_cV zz_cB
  rw [h]
  exact ⟨⟨zz_in 435 rfl rfl, zz_in 43 rfl rfl, zz_in 432 rfl rfl, ⟨by decide, by decide, by decide +kernel⟩, by decide⟩, zz_in 433 rfl rfl, zz_in 434 rfl rfl⟩
set_option maxRecDepth 100000 in
theorem lk_RX6_167 {M : zz_MD} (h : M.1.cls = RX6 := by rfl) : zz_cS M mX6_isWord 167 1 := by
  unfold zz_cS zz_cB
  rw [h]
  exact ⟨⟨zz_in 456 rfl rfl, zz_in 39 rfl rfl, zz_in 454 rfl rfl, ⟨by decide, by decide, by decide +kernel⟩, by decide⟩, zz_in 455 rfl rfl⟩
set_option maxRecDepth 100000 in
theorem lk_RX6_173 {M : zz_MD} (h : M.1.cls = RX6 := by rfl) : zz_cS M mX5_isWrong 173 2 := by
  unfold zz_cS zz_cB
  rw [h]
  exact ⟨⟨zz_in 463 rfl rfl, zz_in 48 rfl rfl, zz_in 461 rfl rfl, ⟨by decide, by decide, by decide +kernel⟩, by decide⟩, zz_in 462 rfl rfl⟩
set_option maxRecDepth 100000 in
theorem lk_RX6_183 {M : zz_MD} (h : M.1.cls = RX6 := by rfl) : zz_cS M mX5_pairsWithBoth 183 3 := by
  unfold zz_cS zz_cB
  rw [h]
  exact ⟨⟨zz_in 476 rfl rfl, zz_in 48 rfl rfl, zz_in 474 rfl rfl, ⟨by decide, by decide, by decide +kernel⟩, by decide⟩, zz_in 475 rfl rfl⟩
set_option maxRecDepth 100000 in
theorem lk_RX6_187 {M : zz_MD} (h : M.1.cls = RX6 := by rfl) : zz_cS M mX5_pairsWithEither 187 3 := by
  unfold zz_cS zz_cB
  rw [h]
  exact ⟨⟨zz_in 486 rfl rfl, zz_in 48 rfl rfl, zz_in 484 rfl rfl, ⟨by decide, by decide, by decide +kernel⟩, by decide⟩, zz_in 485 rfl rfl⟩
set_option maxRecDepth 100000 in
theorem lk_RX6_190 {M : zz_MD} (h : M.1.cls = RX6 := by rfl) : zz_cS M mX5_lowered 190 2 := by
  unfold zz_cS zz_cB
  rw [h]
  exact ⟨⟨zz_in 489 rfl rfl, zz_in 48 rfl rfl, zz_in 487 rfl rfl, ⟨by decide, by decide, by decide +kernel⟩, by decide⟩, zz_in 488 rfl rfl⟩
set_option maxRecDepth 100000 in
theorem lk_RX6_193 {M : zz_MD} (h : M.1.cls = RX6 := by rfl) : zz_cS M mX5_goesMost 193 2 := by
  unfold zz_cS zz_cB
  rw [h]
  exact ⟨⟨zz_in 496 rfl rfl, zz_in 48 rfl rfl, zz_in 494 rfl rfl, ⟨by decide, by decide, by decide +kernel⟩, by decide⟩, zz_in 495 rfl rfl⟩
set_option maxRecDepth 100000 in
theorem lk_RX6_196 {M : zz_MD} (h : M.1.cls = RX6 := by rfl) : zz_cS M mX5_change 196 4 := by
  unfold zz_cS zz_cB
  rw [h]
  exact ⟨⟨zz_in 505 rfl rfl, zz_in 48 rfl rfl, zz_in 503 rfl rfl, ⟨by decide, by decide, by decide +kernel⟩, by decide⟩, zz_in 504 rfl rfl⟩
set_option maxRecDepth 100000 in
theorem lk_RX6_200 {M : zz_MD} (h : M.1.cls = RX6 := by rfl) : zz_cV M mX4_sameAs 200 1 := by
  unfold zz_cV zz_cB
  rw [h]
  exact ⟨⟨zz_in 330 rfl rfl, zz_in 40 rfl rfl, zz_in 518 rfl rfl, ⟨by decide, by decide, by decide +kernel⟩, by decide⟩, zz_in 328 rfl rfl, zz_in 329 rfl rfl⟩
set_option maxRecDepth 100000 in
theorem lk_RX6_210 {M : zz_MD} (h : M.1.cls = RX6 := by rfl) : zz_cV M mX0_lay 210 2 := by
  unfold zz_cV zz_cB
  rw [h]
  exact ⟨⟨zz_in 534 rfl rfl, zz_in 44 rfl rfl, zz_in 531 rfl rfl, ⟨by decide, by decide, by decide +kernel⟩, by decide⟩, zz_in 532 rfl rfl, zz_in 533 rfl rfl⟩
set_option maxRecDepth 100000 in
theorem lk_RX6_224 {M : zz_MD} (h : M.1.cls = RX6 := by rfl) : zz_cV M mX2_take 224 1 := by
  unfold zz_cV zz_cB
  rw [h]
  exact ⟨⟨zz_in 576 rfl rfl, zz_in 41 rfl rfl, zz_in 573 rfl rfl, ⟨by decide, by decide, by decide +kernel⟩, by decide⟩, zz_in 574 rfl rfl, zz_in 575 rfl rfl⟩
set_option maxRecDepth 100000 in
theorem lk_RX6_227 {M : zz_MD} (h : M.1.cls = RX6 := by rfl) : zz_cV M mX6_toldOfSettings 227 1 := by
  unfold zz_cV zz_cB
  rw [h]
  exact ⟨⟨zz_in 601 rfl rfl, zz_in 39 rfl rfl, zz_in 598 rfl rfl, ⟨by decide, by decide, by decide +kernel⟩, by decide⟩, zz_in 600 rfl rfl, zz_in 17 rfl rfl⟩
set_option maxRecDepth 100000 in
theorem lk_RX7_79 {M : zz_MD} (h : M.1.cls = RX7 := by rfl) : zz_cS M mX7_in 79 3 := by
  unfold zz_cS zz_cB
  rw [h]
  exact ⟨⟨zz_in 699 rfl rfl, zz_in 45 rfl rfl, zz_in 697 rfl rfl, ⟨by decide, by decide, by decide +kernel⟩, by decide⟩, zz_in 698 rfl rfl⟩
set_option maxRecDepth 100000 in
theorem lk_RX7_92 {M : zz_MD} (h : M.1.cls = RX7 := by rfl) : zz_cS M mX7_isNumber 92 1 := by
  unfold zz_cS zz_cB
  rw [h]
  exact ⟨⟨zz_in 714 rfl rfl, zz_in 45 rfl rfl, zz_in 712 rfl rfl, ⟨by decide, by decide, by decide +kernel⟩, by decide⟩, zz_in 713 rfl rfl⟩
set_option maxRecDepth 100000 in
theorem lk_RX7_96 {M : zz_MD} (h : M.1.cls = RX7 := by rfl) : zz_cV M mX7_faultOf 96 1 := by
  unfold zz_cV zz_cB
  rw [h]
  exact ⟨⟨zz_in 711 rfl rfl, zz_in 45 rfl rfl, zz_in 708 rfl rfl, ⟨by decide, by decide, by decide +kernel⟩, by decide⟩, zz_in 710 rfl rfl, zz_in 18 rfl rfl⟩
set_option maxRecDepth 100000 in
theorem lk_RX7_100 {M : zz_MD} (h : M.1.cls = RX7 := by rfl) : zz_cV M mX7_isPair 100 1 := by
  unfold zz_cV zz_cB
  rw [h]
  exact ⟨⟨zz_in 722 rfl rfl, zz_in 45 rfl rfl, zz_in 719 rfl rfl, ⟨by decide, by decide, by decide +kernel⟩, by decide⟩, zz_in 721 rfl rfl, zz_in 19 rfl rfl⟩
set_option maxRecDepth 100000 in
theorem lk_RX7_103 {M : zz_MD} (h : M.1.cls = RX7 := by rfl) : zz_cS M mX7_changes 103 2 := by
  unfold zz_cS zz_cB
  rw [h]
  exact ⟨⟨zz_in 745 rfl rfl, zz_in 45 rfl rfl, zz_in 743 rfl rfl, ⟨by decide, by decide, by decide +kernel⟩, by decide⟩, zz_in 744 rfl rfl⟩
set_option maxRecDepth 100000 in
theorem lk_RX7_107 {M : zz_MD} (h : M.1.cls = RX7 := by rfl) : zz_cV M mX7_isSentence 107 1 := by
  unfold zz_cV zz_cB
  rw [h]
  exact ⟨⟨zz_in 738 rfl rfl, zz_in 45 rfl rfl, zz_in 735 rfl rfl, ⟨by decide, by decide, by decide +kernel⟩, by decide⟩, zz_in 737 rfl rfl, zz_in 20 rfl rfl⟩
set_option maxRecDepth 100000 in
theorem lk_RX7_110 {M : zz_MD} (h : M.1.cls = RX7 := by rfl) : zz_cV M mX7_farOf 110 6 := by
  unfold zz_cV zz_cB
  rw [h]
  exact ⟨⟨zz_in 742 rfl rfl, zz_in 45 rfl rfl, zz_in 739 rfl rfl, ⟨by decide, by decide, by decide +kernel⟩, by decide⟩, zz_in 741 rfl rfl, zz_in 21 rfl rfl⟩
set_option maxRecDepth 100000 in
theorem lk_RX7_114 {M : zz_MD} (h : M.1.cls = RX7 := by rfl) : zz_cV M mX7_far 114 2 := by
  unfold zz_cV zz_cB
  rw [h]
  exact ⟨⟨zz_in 734 rfl rfl, zz_in 45 rfl rfl, zz_in 808 rfl rfl, ⟨by decide, by decide, by decide +kernel⟩, by decide⟩, zz_in 732 rfl rfl, zz_in 733 rfl rfl⟩
set_option maxRecDepth 100000 in
theorem lk_RX7_117 {M : zz_MD} (h : M.1.cls = RX7 := by rfl) : zz_cS M mX7_like 117 3 := by
  unfold zz_cS zz_cB
  rw [h]
  exact ⟨⟨zz_in 760 rfl rfl, zz_in 45 rfl rfl, zz_in 758 rfl rfl, ⟨by decide, by decide, by decide +kernel⟩, by decide⟩, zz_in 759 rfl rfl⟩
set_option maxRecDepth 100000 in
theorem lk_RX7_121 {M : zz_MD} (h : M.1.cls = RX7 := by rfl) : zz_cV M mX7_likePair 121 2 := by
  unfold zz_cV zz_cB
  rw [h]
  exact ⟨⟨zz_in 757 rfl rfl, zz_in 45 rfl rfl, zz_in 754 rfl rfl, ⟨by decide, by decide, by decide +kernel⟩, by decide⟩, zz_in 756 rfl rfl, zz_in 23 rfl rfl⟩
set_option maxRecDepth 100000 in
theorem lk_RX7_124 {M : zz_MD} (h : M.1.cls = RX7 := by rfl) : zz_cV M mX7_matchOf 124 2 := by
  unfold zz_cV zz_cB
  rw [h]
  exact ⟨⟨zz_in 753 rfl rfl, zz_in 45 rfl rfl, zz_in 750 rfl rfl, ⟨by decide, by decide, by decide +kernel⟩, by decide⟩, zz_in 752 rfl rfl, zz_in 22 rfl rfl⟩
set_option maxRecDepth 100000 in
theorem lk_RX7_130 {M : zz_MD} (h : M.1.cls = RX7 := by rfl) : zz_cV M mX7_foundOf 130 1 := by
  unfold zz_cV zz_cB
  rw [h]
  exact ⟨⟨zz_in 768 rfl rfl, zz_in 45 rfl rfl, zz_in 765 rfl rfl, ⟨by decide, by decide, by decide +kernel⟩, by decide⟩, zz_in 767 rfl rfl, zz_in 24 rfl rfl⟩
set_option maxRecDepth 100000 in
theorem lk_RX7_133 {M : zz_MD} (h : M.1.cls = RX7 := by rfl) : zz_cV M mX7_doesFill 133 2 := by
  unfold zz_cV zz_cB
  rw [h]
  exact ⟨⟨zz_in 776 rfl rfl, zz_in 45 rfl rfl, zz_in 773 rfl rfl, ⟨by decide, by decide, by decide +kernel⟩, by decide⟩, zz_in 775 rfl rfl, zz_in 25 rfl rfl⟩
set_option maxRecDepth 100000 in
theorem lk_RX7_137 {M : zz_MD} (h : M.1.cls = RX7 := by rfl) : zz_cS M mX7_band 137 1 := by
  unfold zz_cS zz_cB
  rw [h]
  exact ⟨⟨zz_in 791 rfl rfl, zz_in 45 rfl rfl, zz_in 789 rfl rfl, ⟨by decide, by decide, by decide +kernel⟩, by decide⟩, zz_in 790 rfl rfl⟩
set_option maxRecDepth 100000 in
theorem lk_RX7_140 {M : zz_MD} (h : M.1.cls = RX7 := by rfl) : zz_cV M mX7_priceOf 140 1 := by
  unfold zz_cV zz_cB
  rw [h]
  exact ⟨⟨zz_in 788 rfl rfl, zz_in 45 rfl rfl, zz_in 785 rfl rfl, ⟨by decide, by decide, by decide +kernel⟩, by decide⟩, zz_in 787 rfl rfl, zz_in 26 rfl rfl⟩
set_option maxRecDepth 100000 in
theorem lk_RX7_143 {M : zz_MD} (h : M.1.cls = RX7 := by rfl) : zz_cV M mX7_likeOf 143 2 := by
  unfold zz_cV zz_cB
  rw [h]
  exact ⟨⟨zz_in 807 rfl rfl, zz_in 45 rfl rfl, zz_in 804 rfl rfl, ⟨by decide, by decide, by decide +kernel⟩, by decide⟩, zz_in 806 rfl rfl, zz_in 29 rfl rfl⟩
set_option maxRecDepth 100000 in
theorem lk_RX7_146 {M : zz_MD} (h : M.1.cls = RX7 := by rfl) : zz_cV M mX7_layBeside 146 0 := by
  unfold zz_cV zz_cB
  rw [h]
  exact ⟨⟨zz_in 803 rfl rfl, zz_in 45 rfl rfl, zz_in 800 rfl rfl, ⟨by decide, by decide, by decide +kernel⟩, by decide⟩, zz_in 802 rfl rfl, zz_in 28 rfl rfl⟩
set_option maxRecDepth 100000 in
theorem lk_RX7_150 {M : zz_MD} (h : M.1.cls = RX7 := by rfl) : zz_cV M mX7_costs 150 2 := by
  unfold zz_cV zz_cB
  rw [h]
  exact ⟨⟨zz_in 813 rfl rfl, zz_in 45 rfl rfl, zz_in 810 rfl rfl, ⟨by decide, by decide, by decide +kernel⟩, by decide⟩, zz_in 812 rfl rfl, zz_in 30 rfl rfl⟩
set_option maxRecDepth 100000 in
theorem lk_RX7_153 {M : zz_MD} (h : M.1.cls = RX7 := by rfl) : zz_cV M mX7_layOrders 153 0 := by
  unfold zz_cV zz_cB
  rw [h]
  exact ⟨⟨zz_in 799 rfl rfl, zz_in 45 rfl rfl, zz_in 796 rfl rfl, ⟨by decide, by decide, by decide +kernel⟩, by decide⟩, zz_in 798 rfl rfl, zz_in 27 rfl rfl⟩
set_option maxRecDepth 100000 in
theorem lk_RX7_156 {M : zz_MD} (h : M.1.cls = RX7 := by rfl) : zz_cV M mX7_layNeeds 156 0 := by
  unfold zz_cV zz_cB
  rw [h]
  exact ⟨⟨zz_in 821 rfl rfl, zz_in 45 rfl rfl, zz_in 818 rfl rfl, ⟨by decide, by decide, by decide +kernel⟩, by decide⟩, zz_in 820 rfl rfl, zz_in 31 rfl rfl⟩
set_option maxRecDepth 100000 in
theorem lk_RX7_159 {M : zz_MD} (h : M.1.cls = RX7 := by rfl) : zz_cS M mX7_bits 159 1 := by
  unfold zz_cS zz_cB
  rw [h]
  exact ⟨⟨zz_in 824 rfl rfl, zz_in 45 rfl rfl, zz_in 822 rfl rfl, ⟨by decide, by decide, by decide +kernel⟩, by decide⟩, zz_in 823 rfl rfl⟩
set_option maxRecDepth 100000 in
theorem lk_RX7_162 {M : zz_MD} (h : M.1.cls = RX7 := by rfl) : zz_cS M mX7_isWord 162 1 := by
  unfold zz_cS zz_cB
  rw [h]
  exact ⟨⟨zz_in 831 rfl rfl, zz_in 45 rfl rfl, zz_in 829 rfl rfl, ⟨by decide, by decide, by decide +kernel⟩, by decide⟩, zz_in 830 rfl rfl⟩
set_option maxRecDepth 100000 in
theorem lk_RX7_165 {M : zz_MD} (h : M.1.cls = RX7 := by rfl) : zz_cV M mX7_inFirst 165 2 := by
  unfold zz_cV zz_cB
  rw [h]
  exact ⟨⟨zz_in 843 rfl rfl, zz_in 45 rfl rfl, zz_in 840 rfl rfl, ⟨by decide, by decide, by decide +kernel⟩, by decide⟩, zz_in 842 rfl rfl, zz_in 33 rfl rfl⟩
set_option maxRecDepth 100000 in
theorem lk_RX7_168 {M : zz_MD} (h : M.1.cls = RX7 := by rfl) : zz_cV M mX7_inSecond 168 2 := by
  unfold zz_cV zz_cB
  rw [h]
  exact ⟨⟨zz_in 847 rfl rfl, zz_in 45 rfl rfl, zz_in 844 rfl rfl, ⟨by decide, by decide, by decide +kernel⟩, by decide⟩, zz_in 846 rfl rfl, zz_in 34 rfl rfl⟩
set_option maxRecDepth 100000 in
theorem lk_RX7_171 {M : zz_MD} (h : M.1.cls = RX7 := by rfl) : zz_cV M mX7_isWrong 171 1 := by
  unfold zz_cV zz_cB
  rw [h]
  exact ⟨⟨zz_in 839 rfl rfl, zz_in 45 rfl rfl, zz_in 836 rfl rfl, ⟨by decide, by decide, by decide +kernel⟩, by decide⟩, zz_in 838 rfl rfl, zz_in 32 rfl rfl⟩
set_option maxRecDepth 100000 in
theorem lk_RX7_184 {M : zz_MD} (h : M.1.cls = RX7 := by rfl) : zz_cV M mX7_layGoes 184 2 := by
  unfold zz_cV zz_cB
  rw [h]
  exact ⟨⟨zz_in 857 rfl rfl, zz_in 45 rfl rfl, zz_in 854 rfl rfl, ⟨by decide, by decide, by decide +kernel⟩, by decide⟩, zz_in 856 rfl rfl, zz_in 35 rfl rfl⟩
set_option maxRecDepth 100000 in
theorem lk_RX7_188 {M : zz_MD} (h : M.1.cls = RX7 := by rfl) : zz_cS M mX7_areAlike 188 5 := by
  unfold zz_cS zz_cB
  rw [h]
  exact ⟨⟨zz_in 872 rfl rfl, zz_in 45 rfl rfl, zz_in 870 rfl rfl, ⟨by decide, by decide, by decide +kernel⟩, by decide⟩, zz_in 871 rfl rfl⟩
set_option maxRecDepth 100000 in
theorem lk_RX7_192 {M : zz_MD} (h : M.1.cls = RX7 := by rfl) : zz_cS M mX7_ofOne 192 1 := by
  unfold zz_cS zz_cB
  rw [h]
  exact ⟨⟨zz_in 895 rfl rfl, zz_in 45 rfl rfl, zz_in 893 rfl rfl, ⟨by decide, by decide, by decide +kernel⟩, by decide⟩, zz_in 894 rfl rfl⟩
set_option maxRecDepth 100000 in
theorem lk_RX7_195 {M : zz_MD} (h : M.1.cls = RX7 := by rfl) : zz_cS M mX7_ofOther 195 1 := by
  unfold zz_cS zz_cB
  rw [h]
  exact ⟨⟨zz_in 898 rfl rfl, zz_in 45 rfl rfl, zz_in 896 rfl rfl, ⟨by decide, by decide, by decide +kernel⟩, by decide⟩, zz_in 897 rfl rfl⟩
set_option maxRecDepth 100000 in
theorem lk_RX7_198 {M : zz_MD} (h : M.1.cls = RX7 := by rfl) : zz_cS M mX7_besides 198 1 := by
  unfold zz_cS zz_cB
  rw [h]
  exact ⟨⟨zz_in 901 rfl rfl, zz_in 45 rfl rfl, zz_in 899 rfl rfl, ⟨by decide, by decide, by decide +kernel⟩, by decide⟩, zz_in 900 rfl rfl⟩
set_option maxRecDepth 100000 in
theorem lk_RX7_201 {M : zz_MD} (h : M.1.cls = RX7 := by rfl) : zz_cV M mX7_stepCosts 201 3 := by
  unfold zz_cV zz_cB
  rw [h]
  exact ⟨⟨zz_in 892 rfl rfl, zz_in 45 rfl rfl, zz_in 889 rfl rfl, ⟨by decide, by decide, by decide +kernel⟩, by decide⟩, zz_in 891 rfl rfl, zz_in 37 rfl rfl⟩
set_option maxRecDepth 100000 in
theorem lk_RX7_204 {M : zz_MD} (h : M.1.cls = RX7 := by rfl) : zz_cV M mX7_layCosts 204 0 := by
  unfold zz_cV zz_cB
  rw [h]
  exact ⟨⟨zz_in 888 rfl rfl, zz_in 45 rfl rfl, zz_in 885 rfl rfl, ⟨by decide, by decide, by decide +kernel⟩, by decide⟩, zz_in 887 rfl rfl, zz_in 36 rfl rfl⟩
end
section
/-! ===== numbers and branches ===== -/
theorem zz_bE_t {a b : Nat} (ha : a < 2 ^ 31) (hb : b < 2 ^ 31) (h : nI a = nI b) : a = b := (nI_eq ha hb).mp h
theorem zz_bE_f {a b : Nat} (_ : a < 2 ^ 31) (_ : b < 2 ^ 31) (h : ¬ nI a = nI b) : ¬ a = b := fun e => h (by rw [e])
theorem zz_bL_t {a b : Nat} (ha : a < 2 ^ 31) (hb : b < 2 ^ 31) (h : nI a < nI b) : a < b := (nI_ltI ha hb).mp h
theorem zz_bL_f {a b : Nat} (ha : a < 2 ^ 31) (hb : b < 2 ^ 31) (h : ¬ nI a < nI b) : a ≥ b := Nat.not_lt.mp (fun q => h ((nI_ltI ha hb).mpr q))
theorem zz_bG_t {a b : Nat} (ha : a < 2 ^ 31) (hb : b < 2 ^ 31) (h : nI b ≤ nI a) : a ≥ b := (nI_leI hb ha).mp h
theorem zz_bG_f {a b : Nat} (ha : a < 2 ^ 31) (hb : b < 2 ^ 31) (h : ¬ nI b ≤ nI a) : a < b := Nat.not_le.mp (fun q => h ((nI_leI hb ha).mpr q))
theorem zz_bL'_t {a b : Nat} (ha : a < 2 ^ 31) (hb : b < 2 ^ 31) (h : nI b < nI a) : a > b := (nI_ltI hb ha).mp h
theorem zz_bL'_f {a b : Nat} (ha : a < 2 ^ 31) (hb : b < 2 ^ 31) (h : ¬ nI b < nI a) : a ≤ b := Nat.not_lt.mp (fun q => h ((nI_ltI hb ha).mpr q))
theorem zz_bG'_t {a b : Nat} (ha : a < 2 ^ 31) (hb : b < 2 ^ 31) (h : nI a ≤ nI b) : a ≤ b := (nI_leI ha hb).mp h
theorem zz_bG'_f {a b : Nat} (ha : a < 2 ^ 31) (hb : b < 2 ^ 31) (h : ¬ nI a ≤ nI b) : a > b := Nat.not_le.mp (fun q => h ((nI_leI ha hb).mpr q))
theorem zz_ni {x : Int32} (h : ¬ x < 0) : x = nI x.toNatClampNeg := by
  obtain ⟨j, hj, rfl⟩ := nI_of h
  rw [nI_clamp hj]
theorem zz_ni_lt {x : Int32} {n : Nat} (h : ¬ x < 0) (hn : n < 2 ^ 31) (h2 : ¬ nI n ≤ x) : x.toNatClampNeg < n := by
  obtain ⟨j, hj, rfl⟩ := nI_of h
  rw [nI_clamp hj]
  exact Nat.not_le.mp (fun q => h2 ((nI_leI hn hj).mpr q))
/-- an answer, and the store as it is then -/
def zz_is (v : Value) (σ : zz_St) : Option Value → zz_St → Prop := fun r s => r = some v ∧ s = σ
def zz_iv (σ : zz_St) : Option Value → zz_St → Prop := fun r s => r = none ∧ s = σ
section ZZ0
variable {sc : Nat × (Nat → Int32)} {d : Nat} {M : zz_MD} {pc : Nat} {L : List (Option Value)} {S : List Value} {σ : zz_St} {Q : Option Value → zz_St → Prop}
theorem Ev.callV0 (M' : zz_MD) {idx n k ci : Nat} (as rest : List Value) {fs : List (Option (Option Nat))} {q : vw_C} (Q1 : Option Value → zz_St → Prop) (hS : S = as.reverse ++ .ref k :: rest)
    (hcv : zz_cV M M' idx n) (hd : decode M.2.1 pc = .ok (.invokevirtual idx, 3)) (hk : σ.1[k]? = some (.inl (ci, fs))) (hci : zz_cl[ci]? = some q) (hq : q.1 = M'.1.cls) (hn : as.length = n) (hst : (rest.map fun v => v.category).sum ≤ 8)
    (hM : EvM sc d 0 0 M' (.ref k :: as) σ Q1) (kk : ∀ (r : Option Value) (σ' : zz_St), Q1 r σ' → Ev sc (d + 1) 0 0 M (pc + 3) L (r.toList ++ rest) σ' Q) : Ev sc (d + 1) 0 0 M pc L S σ Q := by
  subst hS
  exact Ev.callV (mc1 := 0) (ms1 := 0) (mc2 := 0) (ms2 := 0) M' as rest Q1 hcv hd hk hci hq hn hst hM kk
theorem Ev.callS0 (M' : zz_MD) {idx n : Nat} (as rest : List Value) (Q1 : Option Value → zz_St → Prop) (hS : S = as.reverse ++ rest)
    (hcv : zz_cS M M' idx n) (hd : decode M.2.1 pc = .ok (.invokestatic idx, 3)) (hn : as.length = n) (hst : (rest.map fun v => v.category).sum ≤ 8)
    (hM : EvM sc d 0 0 M' as σ Q1) (kk : ∀ (r : Option Value) (σ' : zz_St), Q1 r σ' → Ev sc (d + 1) 0 0 M (pc + 3) L (r.toList ++ rest) σ' Q) : Ev sc (d + 1) 0 0 M pc L S σ Q := by
  subst hS
  exact Ev.callS (mc1 := 0) (ms1 := 0) (mc2 := 0) (ms2 := 0) M' as rest Q1 hcv hd hn hst hM kk
theorem Ev.callSN0 (M' : zz_MD) {idx n : Nat} {host : String} (as rest : List Value) (Q1 : Option Value → zz_St → Prop) (hS : S = as.reverse ++ rest)
    (hw : Cond.methodLinkNest M.1.cls idx M'.1 host ∈ zz_nest) (w1 : Cond.code M'.1 M'.2.1 M'.2.2.1 M'.2.2.2.1 ∈ zz_WG) (w2 : Cond.initialized M'.1.cls ∈ zz_WG) (w4 : M'.1.cls ≠ "java/lang/invoke/MethodHandle" ∧ M'.1.cls ≠ "java/lang/invoke/VarHandle" ∧ (parseMethodDescriptor M'.1.desc).map (fun d => d.parameters.length) = some n) (w5 : M'.2.2.1 ≤ 17) (w6 : Cond.static M'.1 ∈ zz_WG)
    (hd : decode M.2.1 pc = .ok (.invokestatic idx, 3)) (hn : as.length = n) (hst : (rest.map fun v => v.category).sum ≤ 8)
    (hM : EvM sc d 0 0 M' as σ Q1) (kk : ∀ (r : Option Value) (σ' : zz_St), Q1 r σ' → Ev sc (d + 1) 0 0 M (pc + 3) L (r.toList ++ rest) σ' Q) : Ev sc (d + 1) 0 0 M pc L S σ Q := by
  subst hS
  exact Ev.callSN (mc1 := 0) (ms1 := 0) (mc2 := 0) (ms2 := 0) M' as rest Q1 hw w1 w2 w4 w5 w6 hd hn hst hM kk
end ZZ0
/-! ===== Row ===== -/
def zz_row (k n : Nat) : Prop := zz_SH[k]? = some (.inl (4, [some (some (k + 1)), none])) ∧ zz_SH[k + 1]? = some (.inr (0, n, [])) ∧ n < 100
def zz_rat (I : Nat → Nat → Int32) (k n : Nat) (p : Int32) : Int32 := if ¬ p < 0 ∧ ¬ I k 1 ≤ p ∧ ¬ nI n ≤ p then I (k + 1) p.toNatClampNeg else -6
theorem zz_rat_in {I : Nat → Nat → Int32} {k n j s : Nat} (hs : I k 1 = nI s) (hsn : s ≤ n) (hn : n < 100) (hj : j < s) : zz_rat I k n (nI j) = I (k + 1) j := by
  unfold zz_rat
  rw [if_pos, nI_clamp (by omega)]
  refine ⟨nI_pos (by omega), ?_, nI_ge (by omega) (by omega)⟩
  rw [hs]
  exact nI_ge (by omega) (by omega)
theorem zz_rat_out {I : Nat → Nat → Int32} {k n : Nat} {p : Int32} (h : p < 0 ∨ I k 1 ≤ p) : zz_rat I k n p = -6 := by
  unfold zz_rat
  rw [if_neg]
  rintro ⟨h1, h2, -⟩
  rcases h with h | h
  · exact h1 h
  · exact h2 h
theorem zz_rat_outN {I : Nat → Nat → Int32} {k n j s : Nat} (hs : I k 1 = nI s) (hsn : s < 2 ^ 31) (hj : s ≤ j) (hj2 : j < 2 ^ 31) : zz_rat I k n (nI j) = -6 := zz_rat_out (Or.inr (by rw [hs]; exact nI_le hj hj2))

set_option maxRecDepth 100000 in
set_option maxHeartbeats 4000000 in
theorem c_X4_at {sc : Nat × (Nat → Int32)} {d : Nat} (I : Nat → Nat → Int32) (J : Nat → Nat → Int64) (k n : Nat) (p : Int32) (hk : zz_row k n) : EvM sc (d) 0 0 mX4_at [.ref k, .int p] (zz_SH, I, J) (zz_is (.int (zz_rat I k n p)) (zz_SH, I, J)) := by
  have h99 := hk.2.2
  refine EvM.of (by decide) rfl (Nat.le_of_ble_eq_true rfl) ?_
  show Ev _ _ _ _ _ 0 [some (.ref k), some (.int p)] [] (zz_SH, I, J) _
  refine Ev.run [(.iload_n 1, 1)] (pc' := 1) (L' := [some (.ref k), some (.int p)]) (S' := [.int p]) rfl (by decide +kernel) rfl ?_
  refine Ev.if_lt (off := 29) (tgt := 30) (by decide +kernel) (by decide) (fun h1 => ?_) (fun h1 => ?_)
  · refine Ev.run [(.bipush (-6), 2)] (pc' := 32) (L' := [some (.ref k), some (.int p)]) (S' := [.int ((-6))]) rfl (by decide +kernel) rfl ?_
    exact Ev.iret rfl (by decide +kernel) (⟨by rw [zz_rat, if_neg (fun q => q.1 h1)], rfl⟩)
  · refine Ev.run [(.iload_n 1, 1), (.aload_n 0, 1)] (pc' := 6) (L' := [some (.ref k), some (.int p)]) (S' := [.ref k, .int p]) rfl (by decide +kernel) rfl ?_
    refine Ev.getf (idx := 15) (x := none) (v := .int (I k 1)) rfl rfl (by decide +kernel) (hk.1) rfl rfl ?_
    refine Ev.icmp_ge (off := 21) (tgt := 30) (by decide +kernel) (by decide) (fun h9 => ?_) (fun h9 => ?_)
    · refine Ev.run [(.bipush (-6), 2)] (pc' := 32) (L' := [some (.ref k), some (.int p)]) (S' := [.int ((-6))]) rfl (by decide +kernel) rfl ?_
      exact Ev.iret rfl (by decide +kernel) (⟨by rw [zz_rat, if_neg (fun q => q.2.1 h9)], rfl⟩)
    · refine Ev.run [(.iload_n 1, 1), (.aload_n 0, 1)] (pc' := 14) (L' := [some (.ref k), some (.int p)]) (S' := [.ref k, .int p]) rfl (by decide +kernel) rfl ?_
      refine Ev.getf (idx := 9) (x := some (some (k + 1))) (v := .ref (k + 1)) rfl rfl (by decide +kernel) (hk.1) rfl rfl ?_
      refine Ev.alen (v := nI n) (by decide +kernel) (hk.2.1) rfl ?_
      refine Ev.icmp_ge (off := 12) (tgt := 30) (by decide +kernel) (by decide) (fun h18 => ?_) (fun h18 => ?_)
      · refine Ev.run [(.bipush (-6), 2)] (pc' := 32) (L' := [some (.ref k), some (.int p)]) (S' := [.int ((-6))]) rfl (by decide +kernel) rfl ?_
        exact Ev.iret rfl (by decide +kernel) (⟨by rw [zz_rat, if_neg (fun q => q.2.2 h18)], rfl⟩)
      · refine Ev.run [(.aload_n 0, 1)] (pc' := 22) (L' := [some (.ref k), some (.int p)]) (S' := [.ref k]) rfl (by decide +kernel) rfl ?_
        refine Ev.getf (idx := 9) (x := some (some (k + 1))) (v := .ref (k + 1)) rfl rfl (by decide +kernel) (hk.1) rfl rfl ?_
        refine Ev.run [(.iload_n 1, 1)] (pc' := 26) (L' := [some (.ref k), some (.int p)]) (S' := [.int p, .ref (k + 1)]) rfl (by decide +kernel) rfl ?_
        refine Ev.iald p.toNatClampNeg (by decide +kernel) (hk.2.1) (zz_ni h1) (zz_ni_lt h1 (Nat.lt_trans hk.2.2 (by decide)) h18) (by first | decide | omega) ?_
        refine Ev.goto (off := 5) (tgt := 32) (by decide +kernel) (by decide) ?_
        exact Ev.iret rfl (by decide +kernel) (⟨by rw [zz_rat, if_pos ⟨h1, h9, h18⟩], rfl⟩)

set_option maxRecDepth 100000 in
set_option maxHeartbeats 4000000 in
theorem c_X4_add_ok {sc : Nat × (Nat → Int32)} {d : Nat} (I : Nat → Nat → Int32) (J : Nat → Nat → Int64) (k n s : Nat) (v : Int32) (hk : zz_row k n) (hs : I k 1 = nI s) (hsn : s < n) : EvM sc (d) 0 0 mX4_add [.ref k, .int v] (zz_SH, I, J) (zz_is (.int 1) (zz_SH, zz_up (zz_up I (k + 1) s v) k 1 (nI (s + 1)), J)) := by
  have h99 := hk.2.2
  refine EvM.of (by decide) rfl (Nat.le_of_ble_eq_true rfl) ?_
  show Ev _ _ _ _ _ 0 [some (.ref k), some (.int v)] [] (zz_SH, I, J) _
  refine Ev.run [(.aload_n 0, 1)] (pc' := 1) (L' := [some (.ref k), some (.int v)]) (S' := [.ref k]) rfl (by decide +kernel) rfl ?_
  refine Ev.getf (idx := 15) (x := none) (v := .int (I k 1)) rfl rfl (by decide +kernel) (hk.1) rfl rfl ?_
  rw [hs]
  refine Ev.if_lt (off := 15) (tgt := 19) (by decide +kernel) (by decide) (fun h4 => ?_) (fun h4 => ?_)
  · have h4 : s < 0 := zz_bL_t (by omega) (by omega) h4
    exfalso; omega
  · have h4 : s ≥ 0 := zz_bL_f (by omega) (by omega) h4
    refine Ev.run [(.aload_n 0, 1)] (pc' := 8) (L' := [some (.ref k), some (.int v)]) (S' := [.ref k]) rfl (by decide +kernel) rfl ?_
    refine Ev.getf (idx := 15) (x := none) (v := .int (I k 1)) rfl rfl (by decide +kernel) (hk.1) rfl rfl ?_
    rw [hs]
    refine Ev.run [(.aload_n 0, 1)] (pc' := 12) (L' := [some (.ref k), some (.int v)]) (S' := [.ref k, .int (nI s)]) rfl (by decide +kernel) rfl ?_
    refine Ev.getf (idx := 9) (x := some (some (k + 1))) (v := .ref (k + 1)) rfl rfl (by decide +kernel) (hk.1) rfl rfl ?_
    refine Ev.alen (v := nI n) (by decide +kernel) (hk.2.1) rfl ?_
    refine Ev.icmp_lt (off := 5) (tgt := 21) (by decide +kernel) (by decide) (fun h16 => ?_) (fun h16 => ?_)
    · have h16 : s < n := zz_bL_t (by omega) (by omega) h16
      refine Ev.run [(.aload_n 0, 1)] (pc' := 22) (L' := [some (.ref k), some (.int v)]) (S' := [.ref k]) rfl (by decide +kernel) rfl ?_
      refine Ev.getf (idx := 9) (x := some (some (k + 1))) (v := .ref (k + 1)) rfl rfl (by decide +kernel) (hk.1) rfl rfl ?_
      refine Ev.run [(.aload_n 0, 1)] (pc' := 26) (L' := [some (.ref k), some (.int v)]) (S' := [.ref k, .ref (k + 1)]) rfl (by decide +kernel) rfl ?_
      refine Ev.getf (idx := 15) (x := none) (v := .int (I k 1)) rfl rfl (by decide +kernel) (hk.1) rfl rfl ?_
      rw [hs]
      refine Ev.run [(.iload_n 1, 1)] (pc' := 30) (L' := [some (.ref k), some (.int v)]) (S' := [.int v, .int (nI s), .ref (k + 1)]) rfl (by decide +kernel) rfl ?_
      refine Ev.iast s (by decide +kernel) (hk.2.1) (rfl) (by omega) (by first | decide | omega) ?_
      dsimp only
      refine Ev.run [(.aload_n 0, 1), (.dup, 1)] (pc' := 33) (L' := [some (.ref k), some (.int v)]) (S' := [.ref k, .ref k]) rfl (by decide +kernel) rfl ?_
      refine Ev.getf (idx := 15) (x := none) (v := .int ((zz_up I (k + 1) s v) k 1)) rfl rfl (by decide +kernel) (hk.1) rfl rfl ?_
      rw [show zz_up I (k + 1) s v k 1 = nI s from by rw [zz_up_ne (by omega)]; exact hs]
      refine Ev.run [(.iconst 1, 1), (.iadd, 1)] (pc' := 38) (L' := [some (.ref k), some (.int v)]) (S' := [.int (nI s + nI 1), .ref k]) rfl (by decide +kernel) rfl ?_
      rw [nI_add s 1]
      refine Ev.putf (idx := 15) rfl rfl rfl (by decide +kernel) (hk.1) rfl ?_
      dsimp only
      refine Ev.run [(.iconst 1, 1)] (pc' := 42) (L' := [some (.ref k), some (.int v)]) (S' := [.int (nI 1)]) rfl (by decide +kernel) rfl ?_
      exact Ev.zret rfl (by decide +kernel) (Or.inr rfl) (⟨rfl, rfl⟩)
    · have h16 : s ≥ n := zz_bL_f (by omega) (by omega) h16
      exfalso; omega

set_option maxRecDepth 100000 in
set_option maxHeartbeats 4000000 in
theorem c_X4_add_full {sc : Nat × (Nat → Int32)} {d : Nat} (I : Nat → Nat → Int32) (J : Nat → Nat → Int64) (k n s : Nat) (v : Int32) (hk : zz_row k n) (hs : I k 1 = nI s) (hsn : n ≤ s) (hs2 : s < 100) : EvM sc (d) 0 0 mX4_add [.ref k, .int v] (zz_SH, I, J) (zz_is (.int 0) (zz_SH, I, J)) := by
  have h99 := hk.2.2
  refine EvM.of (by decide) rfl (Nat.le_of_ble_eq_true rfl) ?_
  show Ev _ _ _ _ _ 0 [some (.ref k), some (.int v)] [] (zz_SH, I, J) _
  refine Ev.run [(.aload_n 0, 1)] (pc' := 1) (L' := [some (.ref k), some (.int v)]) (S' := [.ref k]) rfl (by decide +kernel) rfl ?_
  refine Ev.getf (idx := 15) (x := none) (v := .int (I k 1)) rfl rfl (by decide +kernel) (hk.1) rfl rfl ?_
  rw [hs]
  refine Ev.if_lt (off := 15) (tgt := 19) (by decide +kernel) (by decide) (fun h4 => ?_) (fun h4 => ?_)
  · have h4 : s < 0 := zz_bL_t (by omega) (by omega) h4
    exfalso; omega
  · have h4 : s ≥ 0 := zz_bL_f (by omega) (by omega) h4
    refine Ev.run [(.aload_n 0, 1)] (pc' := 8) (L' := [some (.ref k), some (.int v)]) (S' := [.ref k]) rfl (by decide +kernel) rfl ?_
    refine Ev.getf (idx := 15) (x := none) (v := .int (I k 1)) rfl rfl (by decide +kernel) (hk.1) rfl rfl ?_
    rw [hs]
    refine Ev.run [(.aload_n 0, 1)] (pc' := 12) (L' := [some (.ref k), some (.int v)]) (S' := [.ref k, .int (nI s)]) rfl (by decide +kernel) rfl ?_
    refine Ev.getf (idx := 9) (x := some (some (k + 1))) (v := .ref (k + 1)) rfl rfl (by decide +kernel) (hk.1) rfl rfl ?_
    refine Ev.alen (v := nI n) (by decide +kernel) (hk.2.1) rfl ?_
    refine Ev.icmp_lt (off := 5) (tgt := 21) (by decide +kernel) (by decide) (fun h16 => ?_) (fun h16 => ?_)
    · have h16 : s < n := zz_bL_t (by omega) (by omega) h16
      exfalso; omega
    · have h16 : s ≥ n := zz_bL_f (by omega) (by omega) h16
      refine Ev.run [(.iconst 0, 1)] (pc' := 20) (L' := [some (.ref k), some (.int v)]) (S' := [.int (nI 0)]) rfl (by decide +kernel) rfl ?_
      exact Ev.zret rfl (by decide +kernel) (Or.inl rfl) (⟨rfl, rfl⟩)

/-- the first place, or none -/
def zz_fp (f : Nat → Int32) (v : Int32) (s : Nat) (x : Int32) : Prop := (x = -6 ∧ ∀ j, j < s → f j ≠ v) ∨ ∃ j, j < s ∧ x = nI j ∧ f j = v ∧ ∀ i, i < j → f i ≠ v

set_option maxRecDepth 100000 in
set_option maxHeartbeats 4000000 in
theorem l_X4_placeOf {sc : Nat × (Nat → Int32)} {d : Nat} (I : Nat → Nat → Int32) (J : Nat → Nat → Int64) (k n s : Nat) (v : Int32) (hk : zz_row k n) (hs : I k 1 = nI s) (hsn : s ≤ n) : ∀ (μ : Nat) (i : Nat), s - i < μ → (i ≤ s) → (∀ j, j < i → I (k + 1) j ≠ v) →  Ev sc (d + 1) 0 0 mX4_placeOf 2 [some (.ref k), some (.int v), some (.int (nI i))] [] (zz_SH, I, J) (fun r σ => σ = (zz_SH, I, J) ∧ ∃ x : Int32, r = some (.int x) ∧ zz_fp (I (k + 1)) v s x) := by
  intro μ
  induction μ with
  | zero => intro i hμ; exact absurd hμ (Nat.not_lt_zero _)
  | succ μ ih =>
    intro i hμ hi hno
    have h99 := hk.2.2
    refine Ev.run [(.iload_n 2, 1), (.aload_n 0, 1)] (pc' := 4) (L' := [some (.ref k), some (.int v), some (.int (nI i))]) (S' := [.ref k, .int (nI i)]) rfl (by decide +kernel) rfl ?_
    refine Ev.getf (idx := 15) (x := none) (v := .int (I k 1)) rfl rfl (by decide +kernel) (hk.1) rfl rfl ?_
    rw [hs]
    refine Ev.icmp_ge (off := 20) (tgt := 27) (by decide +kernel) (by decide) (fun h7 => ?_) (fun h7 => ?_)
    · have h7 : i ≥ s := zz_bG_t (by omega) (by omega) h7
      refine Ev.run [(.bipush (-6), 2)] (pc' := 29) (L' := [some (.ref k), some (.int v), some (.int (nI i))]) (S' := [.int ((-6))]) rfl (by decide +kernel) rfl ?_
      exact Ev.iret rfl (by decide +kernel) (⟨rfl, _, rfl, Or.inl ⟨rfl, fun j hj => hno j (by omega)⟩⟩)
    · have h7 : i < s := zz_bG_f (by omega) (by omega) h7
      refine Ev.run [(.aload_n 0, 1), (.iload_n 2, 1)] (pc' := 12) (L' := [some (.ref k), some (.int v), some (.int (nI i))]) (S' := [.int (nI i), .ref k]) rfl (by decide +kernel) rfl ?_
      refine Ev.callV0 mX4_at [.int (nI i)] [] _ rfl lk_RX4_19 (by decide +kernel) (hk.1) rfl rfl rfl (Nat.le_of_ble_eq_true rfl) (c_X4_at I J k n (nI i) hk) ?_
      rintro _ _ ⟨rfl, rfl⟩
      rw [zz_rat_in hs hsn hk.2.2 (by omega)]
      show Ev _ _ _ _ _ 15 [some (.ref k), some (.int v), some (.int (nI i))] [.int (I (k + 1) i)] (zz_SH, I, J) _
      refine Ev.run [(.iload_n 1, 1)] (pc' := 16) (L' := [some (.ref k), some (.int v), some (.int (nI i))]) (S' := [.int v, .int (I (k + 1) i)]) rfl (by decide +kernel) rfl ?_
      refine Ev.icmp_ne (off := 5) (tgt := 21) (by decide +kernel) (by decide) (fun h16 => ?_) (fun h16 => ?_)
      · refine Ev.run [(.iinc 2 1, 3)] (pc' := 24) (L' := [some (.ref k), some (.int v), some (.int (nI i + 1))]) (S' := []) rfl (by decide +kernel) rfl ?_
        rw [nI_1 i]
        refine Ev.goto (off := (-22)) (tgt := 2) (by decide +kernel) (by decide) ?_
        exact ih (i + 1) (by omega) (by omega) (lt_s hno h16)
      · exact Ev.run [(.iload_n 2, 1)] (pc' := 20) (L' := [some (.ref k), some (.int v), some (.int (nI i))]) (S' := [.int (nI i)]) rfl (by decide +kernel) rfl (Ev.iret rfl (by decide +kernel) ⟨rfl, _, rfl, Or.inr ⟨i, by omega, rfl, h16, hno⟩⟩)

set_option maxRecDepth 100000 in
set_option maxHeartbeats 4000000 in
theorem c_X4_placeOf {sc : Nat × (Nat → Int32)} {d : Nat} (I : Nat → Nat → Int32) (J : Nat → Nat → Int64) (k n s : Nat) (v : Int32) (hk : zz_row k n) (hs : I k 1 = nI s) (hsn : s ≤ n) : EvM sc (d + 1) 0 0 mX4_placeOf [.ref k, .int v] (zz_SH, I, J) (fun r σ => σ = (zz_SH, I, J) ∧ ∃ x : Int32, r = some (.int x) ∧ zz_fp (I (k + 1)) v s x) := by
  refine EvM.of (by decide) rfl (Nat.le_of_ble_eq_true rfl) ?_
  show Ev _ _ _ _ _ 0 [some (.ref k), some (.int v), none] [] (zz_SH, I, J) _
  refine Ev.run [(.iconst 0, 1), (.istore_n 2, 1)] (pc' := 2) (L' := [some (.ref k), some (.int v), some (.int (nI 0))]) (S' := []) rfl (by decide +kernel) rfl ?_
  exact l_X4_placeOf I J k n s v hk hs hsn (s + 1) 0 (by omega) (by omega) (fun j hj => absurd hj (Nat.not_lt_zero j))

/-- how often -/
def zz_ct (f : Nat → Int32) (v : Int32) : Nat → Nat
  | 0 => 0
  | n + 1 => zz_ct f v n + (if f n = v then 1 else 0)
theorem zz_ct_le (f : Nat → Int32) (v : Int32) : ∀ n, zz_ct f v n ≤ n
  | 0 => Nat.le_refl _
  | n + 1 => by
    have := zz_ct_le f v n
    rw [zz_ct]
    split <;> omega

set_option maxRecDepth 100000 in
set_option maxHeartbeats 4000000 in
theorem l_X4_timesOf {sc : Nat × (Nat → Int32)} {d : Nat} (I : Nat → Nat → Int32) (J : Nat → Nat → Int64) (k n s : Nat) (v : Int32) (hk : zz_row k n) (hs : I k 1 = nI s) (hsn : s ≤ n) : ∀ (μ : Nat) (i : Nat), s - i < μ → (i ≤ s) →  Ev sc (d + 1) 0 0 mX4_timesOf 4 [some (.ref k), some (.int v), some (.int (nI (zz_ct (I (k + 1)) v i))), some (.int (nI i))] [] (zz_SH, I, J) (zz_is (.int (nI (zz_ct (I (k + 1)) v s))) (zz_SH, I, J)) := by
  intro μ
  induction μ with
  | zero => intro i hμ; exact absurd hμ (Nat.not_lt_zero _)
  | succ μ ih =>
    intro i hμ hi
    have h99 := hk.2.2
    refine Ev.run [(.iload_n 3, 1), (.aload_n 0, 1)] (pc' := 6) (L' := [some (.ref k), some (.int v), some (.int (nI (zz_ct (I (k + 1)) v i))), some (.int (nI i))]) (S' := [.ref k, .int (nI i)]) rfl (by decide +kernel) rfl ?_
    refine Ev.getf (idx := 15) (x := none) (v := .int (I k 1)) rfl rfl (by decide +kernel) (hk.1) rfl rfl ?_
    rw [hs]
    refine Ev.icmp_ge (off := 21) (tgt := 30) (by decide +kernel) (by decide) (fun h9 => ?_) (fun h9 => ?_)
    · have h9 : i ≥ s := zz_bG_t (by omega) (by omega) h9
      have hie : i = s := by omega
      subst hie
      refine Ev.run [(.iload_n 2, 1)] (pc' := 31) (L' := [some (.ref k), some (.int v), some (.int (nI (zz_ct (I (k + 1)) v i))), some (.int (nI i))]) (S' := [.int (nI (zz_ct (I (k + 1)) v i))]) rfl (by decide +kernel) rfl ?_
      exact Ev.iret rfl (by decide +kernel) (⟨rfl, rfl⟩)
    · have h9 : i < s := zz_bG_f (by omega) (by omega) h9
      refine Ev.run [(.aload_n 0, 1), (.iload_n 3, 1)] (pc' := 14) (L' := [some (.ref k), some (.int v), some (.int (nI (zz_ct (I (k + 1)) v i))), some (.int (nI i))]) (S' := [.int (nI i), .ref k]) rfl (by decide +kernel) rfl ?_
      refine Ev.callV0 mX4_at [.int (nI i)] [] _ rfl lk_RX4_19 (by decide +kernel) (hk.1) rfl rfl rfl (Nat.le_of_ble_eq_true rfl) (c_X4_at I J k n (nI i) hk) ?_
      rintro _ _ ⟨rfl, rfl⟩
      rw [zz_rat_in hs hsn hk.2.2 (by omega)]
      show Ev _ _ _ _ _ 17 [some (.ref k), some (.int v), some (.int (nI (zz_ct (I (k + 1)) v i))), some (.int (nI i))] [.int (I (k + 1) i)] (zz_SH, I, J) _
      refine Ev.run [(.iload_n 1, 1)] (pc' := 18) (L' := [some (.ref k), some (.int v), some (.int (nI (zz_ct (I (k + 1)) v i))), some (.int (nI i))]) (S' := [.int v, .int (I (k + 1) i)]) rfl (by decide +kernel) rfl ?_
      refine Ev.icmp_ne (off := 6) (tgt := 24) (by decide +kernel) (by decide) (fun h18 => ?_) (fun h18 => ?_)
      · have hct : zz_ct (I (k + 1)) v i = zz_ct (I (k + 1)) v (i + 1) := by rw [zz_ct, if_neg h18]; rfl
        rw [hct]
        refine Ev.run [(.iinc 3 1, 3)] (pc' := 27) (L' := [some (.ref k), some (.int v), some (.int (nI (zz_ct (I (k + 1)) v (i + 1)))), some (.int (nI i + 1))]) (S' := []) rfl (by decide +kernel) rfl ?_
        rw [nI_1 i]
        refine Ev.goto (off := (-23)) (tgt := 4) (by decide +kernel) (by decide) ?_
        exact ih (i + 1) (by omega) (by omega)
      · have hct : zz_ct (I (k + 1)) v i + 1 = zz_ct (I (k + 1)) v (i + 1) := by rw [zz_ct, if_pos h18]
        refine Ev.run [(.iinc 2 1, 3)] (pc' := 24) (L' := [some (.ref k), some (.int v), some (.int (nI (zz_ct (I (k + 1)) v i) + 1)), some (.int (nI i))]) (S' := []) rfl (by decide +kernel) rfl ?_
        rw [nI_1 (zz_ct (I (k + 1)) v i)]
        refine Ev.run [(.iinc 3 1, 3)] (pc' := 27) (L' := [some (.ref k), some (.int v), some (.int (nI ((zz_ct (I (k + 1)) v i) + 1))), some (.int (nI i + 1))]) (S' := []) rfl (by decide +kernel) rfl ?_
        rw [nI_1 i]
        refine Ev.goto (off := (-23)) (tgt := 4) (by decide +kernel) (by decide) ?_
        rw [hct]
        exact ih (i + 1) (by omega) (by omega)

set_option maxRecDepth 100000 in
set_option maxHeartbeats 4000000 in
theorem c_X4_timesOf {sc : Nat × (Nat → Int32)} {d : Nat} (I : Nat → Nat → Int32) (J : Nat → Nat → Int64) (k n s : Nat) (v : Int32) (hk : zz_row k n) (hs : I k 1 = nI s) (hsn : s ≤ n) : EvM sc (d + 1) 0 0 mX4_timesOf [.ref k, .int v] (zz_SH, I, J) (zz_is (.int (nI (zz_ct (I (k + 1)) v s))) (zz_SH, I, J)) := by
  refine EvM.of (by decide) rfl (Nat.le_of_ble_eq_true rfl) ?_
  show Ev _ _ _ _ _ 0 [some (.ref k), some (.int v), none, none] [] (zz_SH, I, J) _
  refine Ev.run [(.iconst 0, 1), (.istore_n 2, 1), (.iconst 0, 1), (.istore_n 3, 1)] (pc' := 4) (L' := [some (.ref k), some (.int v), some (.int (nI 0)), some (.int (nI 0))]) (S' := []) rfl (by decide +kernel) rfl ?_
  exact l_X4_timesOf I J k n s v hk hs hsn (s + 1) 0 (by omega) (by omega)

set_option maxRecDepth 100000 in
set_option maxHeartbeats 4000000 in
theorem l_X4_sameAs {sc : Nat × (Nat → Int32)} {d : Nat} (I : Nat → Nat → Int32) (J : Nat → Nat → Int64) (k n s q nq t : Nat) (hk : zz_row k n) (hs : I k 1 = nI s) (hsn : s ≤ n) (hq : zz_row q nq) (ht : I q 1 = nI t) (htn : t ≤ nq) (hst : s = t) : ∀ (μ : Nat) (i : Nat), s - i < μ → (i ≤ s) → (∀ j, j < i → I (k + 1) j = I (q + 1) j) →  Ev sc (d + 1) 0 0 mX4_sameAs 15 [some (.ref k), some (.ref q), some (.int (nI i))] [] (zz_SH, I, J) (fun r σ => σ = (zz_SH, I, J) ∧ ((r = some (.int 1) ∧ s = t ∧ ∀ j, j < s → I (k + 1) j = I (q + 1) j) ∨ (r = some (.int 0) ∧ ¬ (s = t ∧ ∀ j, j < s → I (k + 1) j = I (q + 1) j)))) := by
  intro μ
  induction μ with
  | zero => intro i hμ; exact absurd hμ (Nat.not_lt_zero _)
  | succ μ ih =>
    intro i hμ hi hal
    have h99 := hk.2.2
    have h98 := hq.2.2
    refine Ev.run [(.iload_n 2, 1), (.aload_n 0, 1)] (pc' := 17) (L' := [some (.ref k), some (.ref q), some (.int (nI i))]) (S' := [.ref k, .int (nI i)]) rfl (by decide +kernel) rfl ?_
    refine Ev.getf (idx := 15) (x := none) (v := .int (I k 1)) rfl rfl (by decide +kernel) (hk.1) rfl rfl ?_
    rw [hs]
    refine Ev.icmp_ge (off := 24) (tgt := 44) (by decide +kernel) (by decide) (fun h20 => ?_) (fun h20 => ?_)
    · have h20 : i ≥ s := zz_bG_t (by omega) (by omega) h20
      refine Ev.run [(.iconst 1, 1)] (pc' := 45) (L' := [some (.ref k), some (.ref q), some (.int (nI i))]) (S' := [.int (nI 1)]) rfl (by decide +kernel) rfl ?_
      exact Ev.zret rfl (by decide +kernel) (Or.inr rfl) (⟨rfl, Or.inl ⟨rfl, hst, fun j hj => hal j (by omega)⟩⟩)
    · have h20 : i < s := zz_bG_f (by omega) (by omega) h20
      refine Ev.run [(.aload_n 0, 1), (.iload_n 2, 1)] (pc' := 25) (L' := [some (.ref k), some (.ref q), some (.int (nI i))]) (S' := [.int (nI i), .ref k]) rfl (by decide +kernel) rfl ?_
      refine Ev.callV0 mX4_at [.int (nI i)] [] _ rfl lk_RX4_19 (by decide +kernel) (hk.1) rfl rfl rfl (Nat.le_of_ble_eq_true rfl) (c_X4_at I J k n (nI i) hk) ?_
      rintro _ _ ⟨rfl, rfl⟩
      rw [zz_rat_in hs hsn hk.2.2 (by omega)]
      show Ev _ _ _ _ _ 28 [some (.ref k), some (.ref q), some (.int (nI i))] [.int (I (k + 1) i)] (zz_SH, I, J) _
      refine Ev.run [(.aload_n 1, 1), (.iload_n 2, 1)] (pc' := 30) (L' := [some (.ref k), some (.ref q), some (.int (nI i))]) (S' := [.int (nI i), .ref q, .int (I (k + 1) i)]) rfl (by decide +kernel) rfl ?_
      refine Ev.callV0 mX4_at [.int (nI i)] [.int (I (k + 1) i)] _ rfl lk_RX4_19 (by decide +kernel) (hq.1) rfl rfl rfl (Nat.le_of_ble_eq_true rfl) (c_X4_at I J q nq (nI i) hq) ?_
      rintro _ _ ⟨rfl, rfl⟩
      rw [zz_rat_in ht htn hq.2.2 (by omega)]
      show Ev _ _ _ _ _ 33 [some (.ref k), some (.ref q), some (.int (nI i))] [.int (I (q + 1) i), .int (I (k + 1) i)] (zz_SH, I, J) _
      refine Ev.icmp_eq (off := 5) (tgt := 38) (by decide +kernel) (by decide) (fun h33 => ?_) (fun h33 => ?_)
      · refine Ev.run [(.iinc 2 1, 3)] (pc' := 41) (L' := [some (.ref k), some (.ref q), some (.int (nI i + 1))]) (S' := []) rfl (by decide +kernel) rfl ?_
        rw [nI_1 i]
        refine Ev.goto (off := (-26)) (tgt := 15) (by decide +kernel) (by decide) ?_
        exact ih (i + 1) (by omega) (by omega) (lt_s hal h33)
      · refine Ev.run [(.iconst 0, 1)] (pc' := 37) (L' := [some (.ref k), some (.ref q), some (.int (nI i))]) (S' := [.int (nI 0)]) rfl (by decide +kernel) rfl ?_
        exact Ev.zret rfl (by decide +kernel) (Or.inl rfl) (⟨rfl, Or.inr ⟨rfl, fun hh => h33 (hh.2 i (by omega))⟩⟩)

set_option maxRecDepth 100000 in
set_option maxHeartbeats 4000000 in
theorem c_X4_sameAs {sc : Nat × (Nat → Int32)} {d : Nat} (I : Nat → Nat → Int32) (J : Nat → Nat → Int64) (k n s q nq t : Nat) (hk : zz_row k n) (hs : I k 1 = nI s) (hsn : s ≤ n) (hq : zz_row q nq) (ht : I q 1 = nI t) (htn : t ≤ nq) : EvM sc (d + 1) 0 0 mX4_sameAs [.ref k, .ref q] (zz_SH, I, J) (fun r σ => σ = (zz_SH, I, J) ∧ ((r = some (.int 1) ∧ s = t ∧ ∀ j, j < s → I (k + 1) j = I (q + 1) j) ∨ (r = some (.int 0) ∧ ¬ (s = t ∧ ∀ j, j < s → I (k + 1) j = I (q + 1) j)))) := by
  have h99 := hk.2.2
  have h98 := hq.2.2
  refine EvM.of (by decide) rfl (Nat.le_of_ble_eq_true rfl) ?_
  show Ev _ _ _ _ _ 0 [some (.ref k), some (.ref q), none] [] (zz_SH, I, J) _
  refine Ev.run [(.aload_n 0, 1)] (pc' := 1) (L' := [some (.ref k), some (.ref q), none]) (S' := [.ref k]) rfl (by decide +kernel) rfl ?_
  refine Ev.getf (idx := 15) (x := none) (v := .int (I k 1)) rfl rfl (by decide +kernel) (hk.1) rfl rfl ?_
  rw [hs]
  refine Ev.run [(.aload_n 1, 1)] (pc' := 5) (L' := [some (.ref k), some (.ref q), none]) (S' := [.ref q, .int (nI s)]) rfl (by decide +kernel) rfl ?_
  refine Ev.getf (idx := 15) (x := none) (v := .int (I q 1)) rfl rfl (by decide +kernel) (hq.1) rfl rfl ?_
  rw [ht]
  refine Ev.icmp_eq (off := 5) (tgt := 13) (by decide +kernel) (by decide) (fun h8 => ?_) (fun h8 => ?_)
  · have h8 : s = t := zz_bE_t (by omega) (by omega) h8
    refine Ev.run [(.iconst 0, 1), (.istore_n 2, 1)] (pc' := 15) (L' := [some (.ref k), some (.ref q), some (.int (nI 0))]) (S' := []) rfl (by decide +kernel) rfl ?_
    exact l_X4_sameAs I J k n s q nq t hk hs hsn hq ht htn h8 (s + 1) 0 (by omega) (by omega) (fun j hj => absurd hj (Nat.not_lt_zero j))
  · have h8 : ¬ s = t := zz_bE_f (by omega) (by omega) h8
    refine Ev.run [(.iconst 0, 1)] (pc' := 12) (L' := [some (.ref k), some (.ref q), none]) (S' := [.int (nI 0)]) rfl (by decide +kernel) rfl ?_
    exact Ev.zret rfl (by decide +kernel) (Or.inl rfl) (⟨rfl, Or.inr ⟨rfl, fun hh => h8 hh.1⟩⟩)

/-- the store with the row k set to f, of size s -/
def zz_sr (I : Nat → Nat → Int32) (k : Nat) (f : Nat → Int32) (s : Nat) : Nat → Nat → Int32 := fun c => if c = k + 1 then f else if c = k then upd (I k) 1 (nI s) else I c
def zz_mix (g f : Nat → Int32) (i : Nat) : Nat → Int32 := fun j => if j < i then g j else f j
theorem zz_sr_o {I : Nat → Nat → Int32} {k s c : Nat} {f : Nat → Int32} (h1 : c ≠ k) (h2 : c ≠ k + 1) : zz_sr I k f s c = I c := by rw [zz_sr, if_neg h2, if_neg h1]
theorem zz_sr_f (I : Nat → Nat → Int32) (k s : Nat) (f : Nat → Int32) : zz_sr I k f s (k + 1) = f := if_pos rfl
theorem zz_sr_s (I : Nat → Nat → Int32) (k s : Nat) (f : Nat → Int32) : zz_sr I k f s k 1 = nI s := by
  rw [zz_sr, if_neg (by omega), if_pos rfl]; simp [upd]
theorem zz_mix0 (g f : Nat → Int32) : zz_mix g f 0 = f := funext fun j => if_neg (Nat.not_lt_zero j)
theorem zz_mix1 (g f : Nat → Int32) (i : Nat) : upd (zz_mix g f i) i (g i) = zz_mix g f (i + 1) := by
  funext j
  by_cases h : j = i
  · subst h
    simp [upd, zz_mix]
  · by_cases h2 : j < i
    · simp [upd, zz_mix, h, h2, Nat.lt_succ_of_lt h2]
    · simp [upd, zz_mix, h, h2, show ¬ j < i + 1 by omega]
theorem zz_mix_in {g f : Nat → Int32} {i j : Nat} (h : j < i) : zz_mix g f i j = g j := if_pos h
theorem zz_sr0 (I : Nat → Nat → Int32) (k : Nat) : zz_up I k 1 (nI 0) = zz_sr I k (I (k + 1)) 0 := by
  funext c
  by_cases h : c = k
  · subst h
    rw [zz_up_eq, zz_sr, if_neg (by omega), if_pos rfl]
  · rw [zz_up_ne h, zz_sr]
    by_cases h2 : c = k + 1
    · rw [if_pos h2, h2]
    · rw [if_neg h2, if_neg h]
theorem zz_sr1 (I : Nat → Nat → Int32) (k i : Nat) (f : Nat → Int32) (v : Int32) : zz_up (zz_up (zz_sr I k f i) (k + 1) i v) k 1 (nI (i + 1)) = zz_sr I k (upd f i v) (i + 1) := by
  funext c
  by_cases h : c = k
  · subst h
    rw [zz_up_eq, zz_up_ne (by omega), zz_sr, if_neg (by omega), if_pos rfl, zz_sr, if_neg (by omega), if_pos rfl]
    funext j
    by_cases hj : j = 1 <;> simp [upd, hj]
  · rw [zz_up_ne h]
    by_cases h2 : c = k + 1
    · subst h2
      rw [zz_up_eq, zz_sr_f, zz_sr_f]
    · rw [zz_up_ne h2, zz_sr_o h h2, zz_sr_o h h2]

set_option maxRecDepth 100000 in
set_option maxHeartbeats 4000000 in
theorem l_X4_takePart {sc : Nat × (Nat → Int32)} {d : Nat} (I : Nat → Nat → Int32) (J : Nat → Nat → Int64) (k n q nq t a b : Nat) (hk : zz_row k n) (hq : zz_row q nq) (ht : I q 1 = nI t) (htn : t ≤ nq) (hne : q ≠ k ∧ q ≠ k + 1 ∧ q + 1 ≠ k) (hab : a ≤ b) (hbt : b ≤ t) (hbn : b - a ≤ n) : ∀ (μ : Nat) (i : Nat), b - (a + i) < μ → (a + i ≤ b) →  Ev sc (d + 1) 0 0 mX4_takePart 8 [some (.ref k), some (.ref q), some (.int (nI a)), some (.int (nI b)), some (.int (nI (a + i)))] [] (zz_SH, zz_sr I k (zz_mix (fun j => I (q + 1) (a + j)) (I (k + 1)) i) i, J) (zz_iv (zz_SH, zz_sr I k (zz_mix (fun j => I (q + 1) (a + j)) (I (k + 1)) (b - a)) (b - a), J)) := by
  intro μ
  induction μ with
  | zero => intro i hμ; exact absurd hμ (Nat.not_lt_zero _)
  | succ μ ih =>
    intro i hμ hi
    have h99 := hk.2.2
    have h98 := hq.2.2
    refine Ev.run [(.iload 4, 2), (.iload_n 3, 1)] (pc' := 11) (L' := [some (.ref k), some (.ref q), some (.int (nI a)), some (.int (nI b)), some (.int (nI (a + i)))]) (S' := [.int (nI b), .int (nI (a + i))]) rfl (by decide +kernel) rfl ?_
    refine Ev.icmp_ge (off := 20) (tgt := 31) (by decide +kernel) (by decide) (fun h11 => ?_) (fun h11 => ?_)
    · have h11 : (a + i) ≥ b := zz_bG_t (by omega) (by omega) h11
      have hie : i = b - a := by omega
      subst hie
      exact Ev.vret rfl (by decide +kernel) (⟨rfl, rfl⟩)
    · have h11 : (a + i) < b := zz_bG_f (by omega) (by omega) h11
      refine Ev.run [(.aload_n 0, 1), (.aload_n 1, 1), (.iload 4, 2)] (pc' := 18) (L' := [some (.ref k), some (.ref q), some (.int (nI a)), some (.int (nI b)), some (.int (nI (a + i)))]) (S' := [.int (nI (a + i)), .ref q, .ref k]) rfl (by decide +kernel) rfl ?_
      refine Ev.callV0 mX4_at [.int (nI (a + i))] [.ref k] _ rfl lk_RX4_19 (by decide +kernel) (hq.1) rfl rfl rfl (Nat.le_of_ble_eq_true rfl) (c_X4_at (zz_sr I k (zz_mix (fun j => I (q + 1) (a + j)) (I (k + 1)) i) i) J q nq (nI (a + i)) hq) ?_
      rintro _ _ ⟨rfl, rfl⟩
      rw [zz_rat_in (s := t) (by rw [zz_sr_o hne.1 hne.2.1]; exact ht) htn hq.2.2 (by omega), zz_sr_o hne.2.2 (by omega)]
      show Ev _ _ _ _ _ 21 [some (.ref k), some (.ref q), some (.int (nI a)), some (.int (nI b)), some (.int (nI (a + i)))] [.int (I (q + 1) (a + i)), .ref k] (zz_SH, zz_sr I k (zz_mix (fun j => I (q + 1) (a + j)) (I (k + 1)) i) i, J) _
      refine Ev.callV0 mX4_add [.int (I (q + 1) (a + i))] [] _ rfl lk_RX4_23 (by decide +kernel) (hk.1) rfl rfl rfl (Nat.le_of_ble_eq_true rfl) (c_X4_add_ok (zz_sr I k (zz_mix (fun j => I (q + 1) (a + j)) (I (k + 1)) i) i) J k n i (I (q + 1) (a + i)) hk (zz_sr_s I k i _) (by omega)) ?_
      rintro _ _ ⟨rfl, rfl⟩
      rw [zz_sr1, show upd (zz_mix (fun j => I (q + 1) (a + j)) (I (k + 1)) i) i (I (q + 1) (a + i)) = zz_mix (fun j => I (q + 1) (a + j)) (I (k + 1)) (i + 1) from zz_mix1 (fun j => I (q + 1) (a + j)) _ i]
      show Ev _ _ _ _ _ 24 [some (.ref k), some (.ref q), some (.int (nI a)), some (.int (nI b)), some (.int (nI (a + i)))] [.int 1] (zz_SH, zz_sr I k (zz_mix (fun j => I (q + 1) (a + j)) (I (k + 1)) (i + 1)) (i + 1), J) _
      refine Ev.run [(.pop, 1), (.iinc 4 1, 3)] (pc' := 28) (L' := [some (.ref k), some (.ref q), some (.int (nI a)), some (.int (nI b)), some (.int (nI (a + i) + 1))]) (S' := []) rfl (by decide +kernel) rfl ?_
      rw [nI_1 (a + i)]
      refine Ev.goto (off := (-20)) (tgt := 8) (by decide +kernel) (by decide) ?_
      rw [show a + i + 1 = a + (i + 1) by omega]
      exact ih (i + 1) (by omega) (by omega)

set_option maxRecDepth 100000 in
set_option maxHeartbeats 4000000 in
theorem c_X4_takePart {sc : Nat × (Nat → Int32)} {d : Nat} (I : Nat → Nat → Int32) (J : Nat → Nat → Int64) (k n q nq t a b : Nat) (hk : zz_row k n) (hq : zz_row q nq) (ht : I q 1 = nI t) (htn : t ≤ nq) (hne : q ≠ k ∧ q ≠ k + 1 ∧ q + 1 ≠ k) (hab : a ≤ b) (hbt : b ≤ t) (hbn : b - a ≤ n) : EvM sc (d + 1) 0 0 mX4_takePart [.ref k, .ref q, .int (nI a), .int (nI b)] (zz_SH, I, J) (zz_iv (zz_SH, zz_sr I k (zz_mix (fun j => I (q + 1) (a + j)) (I (k + 1)) (b - a)) (b - a), J)) := by
  refine EvM.of (by decide) rfl (Nat.le_of_ble_eq_true rfl) ?_
  show Ev _ _ _ _ _ 0 [some (.ref k), some (.ref q), some (.int (nI a)), some (.int (nI b)), none] [] (zz_SH, I, J) _
  refine Ev.run [(.aload_n 0, 1), (.iconst 0, 1)] (pc' := 2) (L' := [some (.ref k), some (.ref q), some (.int (nI a)), some (.int (nI b)), none]) (S' := [.int (nI 0), .ref k]) rfl (by decide +kernel) rfl ?_
  refine Ev.putf (idx := 15) rfl rfl rfl (by decide +kernel) (hk.1) rfl ?_
  dsimp only
  rw [zz_sr0]
  refine Ev.run [(.iload_n 2, 1), (.istore 4, 2)] (pc' := 8) (L' := [some (.ref k), some (.ref q), some (.int (nI a)), some (.int (nI b)), some (.int (nI a))]) (S' := []) rfl (by decide +kernel) rfl ?_
  have h0 := l_X4_takePart I J k n q nq t a b hk hq ht htn hne hab hbt hbn (b + 1) 0 (by omega) (by omega) (sc := sc) (d := d)
  rw [zz_mix0] at h0
  exact h0

set_option maxRecDepth 100000 in
set_option maxHeartbeats 4000000 in
theorem c_X4_take {sc : Nat × (Nat → Int32)} {d : Nat} (I : Nat → Nat → Int32) (J : Nat → Nat → Int64) (k n q nq t : Nat) (hk : zz_row k n) (hq : zz_row q nq) (ht : I q 1 = nI t) (htn : t ≤ nq) (hne : q ≠ k ∧ q ≠ k + 1 ∧ q + 1 ≠ k) (hbn : t ≤ n) : EvM sc (d + 2) 0 0 mX4_take [.ref k, .ref q] (zz_SH, I, J) (zz_iv (zz_SH, zz_sr I k (zz_mix (I (q + 1)) (I (k + 1)) t) t, J)) := by
  refine EvM.of (by decide) rfl (Nat.le_of_ble_eq_true rfl) ?_
  show Ev _ _ _ _ _ 0 [some (.ref k), some (.ref q)] [] (zz_SH, I, J) _
  refine Ev.run [(.aload_n 0, 1), (.aload_n 1, 1), (.iconst 0, 1), (.aload_n 1, 1)] (pc' := 4) (L' := [some (.ref k), some (.ref q)]) (S' := [.ref q, .int (nI 0), .ref q, .ref k]) rfl (by decide +kernel) rfl ?_
  refine Ev.getf (idx := 15) (x := none) (v := .int (I q 1)) rfl rfl (by decide +kernel) (hq.1) rfl rfl ?_
  rw [ht]
  refine Ev.callV0 mX4_takePart [.ref q, .int (nI 0), .int (nI t)] [] _ rfl lk_RX4_27 (by decide +kernel) (hk.1) rfl rfl rfl (Nat.le_of_ble_eq_true rfl) (c_X4_takePart I J k n q nq t 0 t hk hq ht htn hne (Nat.zero_le _) (Nat.le_refl _) hbn) ?_
  rintro _ _ ⟨rfl, rfl⟩
  rw [show (fun j => I (q + 1) (0 + j)) = I (q + 1) from funext fun j => by rw [Nat.zero_add], Nat.sub_zero]
  show Ev _ _ _ _ _ 10 [some (.ref k), some (.ref q)] [] (zz_SH, zz_sr I k (zz_mix (I (q + 1)) (I (k + 1)) t) t, J) _
  exact Ev.vret rfl (by decide +kernel) (⟨rfl, rfl⟩)

set_option maxRecDepth 100000 in
set_option maxHeartbeats 4000000 in
theorem c_X4_put {sc : Nat × (Nat → Int32)} {d : Nat} (I : Nat → Nat → Int32) (J : Nat → Nat → Int64) (k n s p : Nat) (v : Int32) (hk : zz_row k n) (hs : I k 1 = nI s) (hsn : s ≤ n) (hps : p < s) : EvM sc (d) 0 0 mX4_put [.ref k, .int (nI p), .int v] (zz_SH, I, J) (zz_iv (zz_SH, zz_up I (k + 1) p v, J)) := by
  have h99 := hk.2.2
  refine EvM.of (by decide) rfl (Nat.le_of_ble_eq_true rfl) ?_
  show Ev _ _ _ _ _ 0 [some (.ref k), some (.int (nI p)), some (.int v)] [] (zz_SH, I, J) _
  refine Ev.run [(.iload_n 1, 1)] (pc' := 1) (L' := [some (.ref k), some (.int (nI p)), some (.int v)]) (S' := [.int (nI p)]) rfl (by decide +kernel) rfl ?_
  refine Ev.if_lt (off := 27) (tgt := 28) (by decide +kernel) (by decide) (fun h1 => ?_) (fun h1 => ?_)
  · have h1 : p < 0 := zz_bL_t (by omega) (by omega) h1
    exfalso; omega
  · have h1 : p ≥ 0 := zz_bL_f (by omega) (by omega) h1
    refine Ev.run [(.iload_n 1, 1), (.aload_n 0, 1)] (pc' := 6) (L' := [some (.ref k), some (.int (nI p)), some (.int v)]) (S' := [.ref k, .int (nI p)]) rfl (by decide +kernel) rfl ?_
    refine Ev.getf (idx := 15) (x := none) (v := .int (I k 1)) rfl rfl (by decide +kernel) (hk.1) rfl rfl ?_
    rw [hs]
    refine Ev.icmp_ge (off := 19) (tgt := 28) (by decide +kernel) (by decide) (fun h9 => ?_) (fun h9 => ?_)
    · have h9 : p ≥ s := zz_bG_t (by omega) (by omega) h9
      exfalso; omega
    · have h9 : p < s := zz_bG_f (by omega) (by omega) h9
      refine Ev.run [(.iload_n 1, 1), (.aload_n 0, 1)] (pc' := 14) (L' := [some (.ref k), some (.int (nI p)), some (.int v)]) (S' := [.ref k, .int (nI p)]) rfl (by decide +kernel) rfl ?_
      refine Ev.getf (idx := 9) (x := some (some (k + 1))) (v := .ref (k + 1)) rfl rfl (by decide +kernel) (hk.1) rfl rfl ?_
      refine Ev.alen (v := nI n) (by decide +kernel) (hk.2.1) rfl ?_
      refine Ev.icmp_ge (off := 10) (tgt := 28) (by decide +kernel) (by decide) (fun h18 => ?_) (fun h18 => ?_)
      · have h18 : p ≥ n := zz_bG_t (by omega) (by omega) h18
        exfalso; omega
      · have h18 : p < n := zz_bG_f (by omega) (by omega) h18
        refine Ev.run [(.aload_n 0, 1)] (pc' := 22) (L' := [some (.ref k), some (.int (nI p)), some (.int v)]) (S' := [.ref k]) rfl (by decide +kernel) rfl ?_
        refine Ev.getf (idx := 9) (x := some (some (k + 1))) (v := .ref (k + 1)) rfl rfl (by decide +kernel) (hk.1) rfl rfl ?_
        refine Ev.run [(.iload_n 1, 1), (.iload_n 2, 1)] (pc' := 27) (L' := [some (.ref k), some (.int (nI p)), some (.int v)]) (S' := [.int v, .int (nI p), .ref (k + 1)]) rfl (by decide +kernel) rfl ?_
        refine Ev.iast p (by decide +kernel) (hk.2.1) (rfl) (by omega) (by first | decide | omega) ?_
        dsimp only
        exact Ev.vret rfl (by decide +kernel) (⟨rfl, rfl⟩)
end
section
/-! ===== the abstract state of a memory ===== -/
abbrev zA : Type := (Nat × Nat × Nat × Nat) × ((Nat → Nat) × (Nat → Nat) × (Nat → Nat)) × ((Nat → Nat → Nat) × (Nat → Nat → Nat) × (Nat → Nat → Nat)) × (Nat → Option Nat) × (Nat → Nat) × (Nat → Option Nat) × (Nat → Nat) × (Nat → Nat)
abbrev aN (A : zA) : Nat := A.1.1
abbrev aM (A : zA) : Nat := A.1.2.1
abbrev aa (A : zA) : Nat := A.1.2.2.1
abbrev ab (A : zA) : Nat := A.1.2.2.2
abbrev fz (A : zA) : Nat → Nat := A.2.1.1
abbrev gz (A : zA) : Nat → Nat := A.2.1.2.1
abbrev tz (A : zA) : Nat → Nat := A.2.1.2.2
abbrev ff (A : zA) : Nat → Nat → Nat := A.2.2.1.1
abbrev gg (A : zA) : Nat → Nat → Nat := A.2.2.1.2.1
abbrev tt (A : zA) : Nat → Nat → Nat := A.2.2.1.2.2
abbrev aB (A : zA) : Nat → Option Nat := A.2.2.2.1
abbrev rt (A : zA) : Nat → Nat := A.2.2.2.2.1
abbrev mu (A : zA) : Nat → Option Nat := A.2.2.2.2.2.1
abbrev la (A : zA) : Nat → Nat := A.2.2.2.2.2.2.1
abbrev lb (A : zA) : Nat → Nat := A.2.2.2.2.2.2.2
def ob (x : Option Nat) : Int32 := match x with
  | none => -6
  | some q => nI q
def MV (V : Nat → Nat → Int32) (A : zA) : Prop :=
  (V 0 0 = nI (aN A) ∧ V 0 1 = nI (aM A) ∧ V 0 2 = nI (aa A) ∧ V 0 3 = nI (ab A)) ∧
  (∀ p, p < aN A → V 1 p = ob (aB A p) ∧ V 2 p = nI (fz A p) ∧ V 3 p = nI (gz A p) ∧ (∀ j, j < fz A p → V 4 (12 * p + j) = nI (ff A p j)) ∧ ∀ j, j < gz A p → V 5 (12 * p + j) = nI (gg A p j)) ∧
  (∀ s, s < aM A → V 6 s = nI (tz A s) ∧ ∀ j, j < tz A s → V 7 (12 * s + j) = nI (tt A s j)) ∧
  (∀ r, r < 5 → V 8 r = nI (rt A r)) ∧ (∀ w, w < 16 → V 9 w = ob (mu A w)) ∧
  (∀ j, j < aa A → V 10 j = nI (la A j)) ∧ ∀ j, j < ab A → V 10 (12 + j) = nI (lb A j)
def WF (A : zA) : Prop :=
  (aN A ≤ 12 ∧ aM A ≤ 10 ∧ aa A ≤ 12 ∧ ab A ≤ 12) ∧
  (∀ p, p < aN A → (1 ≤ fz A p ∧ fz A p ≤ 12 ∧ 1 ≤ gz A p ∧ gz A p ≤ 12) ∧ (∀ j, j < fz A p → 33 ≤ ff A p j ∧ ff A p j ≤ 126) ∧ (∀ j, j < gz A p → 33 ≤ gg A p j ∧ gg A p j ≤ 126) ∧ ∀ q, aB A p = some q → q < p) ∧
  (∀ s, s < aM A → (1 ≤ tz A s ∧ tz A s ≤ 12) ∧ ∀ j, j < tz A s → 33 ≤ tt A s j ∧ tt A s j ≤ 126) ∧
  (∀ r, r < 5 → rt A r ≤ 99) ∧ (∀ w, w < 16 → ∀ x, mu A w = some x → x < 16) ∧
  (∀ j, j < aa A → 1 ≤ la A j ∧ la A j ≤ 99) ∧ ∀ j, j < ab A → 1 ≤ lb A j ∧ lb A j ≤ 99
def zVm (I : Nat → Nat → Int32) : Nat → Nat → Int32 := fun c => match c with
  | 0 => fun j => match j with
    | 0 => I 359 2
    | 1 => I 359 8
    | 2 => I 370 0
    | _ => I 370 1
  | 1 => I 361
  | 2 => I 362
  | 3 => I 363
  | 4 => I 364
  | 5 => I 365
  | 6 => I 366
  | 7 => I 367
  | 8 => I 368
  | 9 => I 369
  | _ => I 371
/-! a cell replaced; a boolean answer; an index in range -/
def zz_cs (I : Nat → Nat → Int32) (c : Nat) (h : Nat → Int32) : Nat → Nat → Int32 := fun x => if x = c then h else I x
theorem zz_cs_eq (I : Nat → Nat → Int32) (c : Nat) (h : Nat → Int32) : zz_cs I c h c = h := if_pos rfl
theorem zz_cs_ne {I : Nat → Nat → Int32} {c x : Nat} {h : Nat → Int32} (hx : x ≠ c) : zz_cs I c h x = I x := if_neg hx
theorem zz_cs_up (I : Nat → Nat → Int32) (c j : Nat) (h : Nat → Int32) (v : Int32) : zz_up (zz_cs I c h) c j v = zz_cs I c (upd h j v) := by
  funext x
  by_cases hx : x = c
  · subst hx; rw [zz_up_eq, zz_cs_eq, zz_cs_eq]
  · rw [zz_up_ne hx, zz_cs_ne hx, zz_cs_ne hx]
theorem zz_up_cs (I : Nat → Nat → Int32) (c j : Nat) (v : Int32) : zz_up I c j v = zz_cs I c (upd (I c) j v) := by
  funext x
  by_cases hx : x = c
  · subst hx; rw [zz_up_eq, zz_cs_eq]
  · rw [zz_up_ne hx, zz_cs_ne hx]
theorem zz_cs_id (I : Nat → Nat → Int32) (c : Nat) : zz_cs I c (I c) = I := by
  funext x
  by_cases hx : x = c
  · subst hx; rw [zz_cs_eq]
  · rw [zz_cs_ne hx]
theorem zz_cs_cs (I : Nat → Nat → Int32) (c : Nat) (h g : Nat → Int32) : zz_cs (zz_cs I c h) c g = zz_cs I c g := by
  funext x
  by_cases hx : x = c
  · subst hx; rw [zz_cs_eq, zz_cs_eq]
  · rw [zz_cs_ne hx, zz_cs_ne hx, zz_cs_ne hx]
theorem zz_cs_sw (I : Nat → Nat → Int32) {c e : Nat} (h g : Nat → Int32) (hce : c ≠ e) : zz_cs (zz_cs I c h) e g = zz_cs (zz_cs I e g) c h := by
  funext x
  by_cases hx : x = c
  · subst hx; rw [zz_cs_ne hce, zz_cs_eq, zz_cs_eq]
  · by_cases hy : x = e
    · subst hy; rw [zz_cs_eq, zz_cs_ne hx, zz_cs_eq]
    · rw [zz_cs_ne hy, zz_cs_ne hx, zz_cs_ne hx, zz_cs_ne hy]
theorem zz_ups {f : Nat → Int32} {k : Nat} {x : Int32} : upd f k x k = x := by simp [upd]
theorem zz_upn {f : Nat → Int32} {k j : Nat} {x : Int32} (h : j ≠ k) : upd f k x j = f j := by simp [upd, h]
def zz_tf (P : Prop) (σ0 : zz_St) : Option Value → zz_St → Prop := fun r σ => σ = σ0 ∧ ((r = some (.int (nI 1)) ∧ P) ∨ (r = some (.int (nI 0)) ∧ ¬ P))
def zz_ix (p : Int32) (N : Nat) : Prop := ∃ j, j < N ∧ p = nI j
theorem zz_ix_iff {p : Int32} {N : Nat} (hN : N < 2 ^ 31) : (nI 0 ≤ p ∧ p ≤ nI N - nI 1) ↔ zz_ix p N := by
  have e0 : (nI 0).toInt = 0 := nI_toInt (by decide)
  have e1 : (nI N - nI 1).toInt = (N : Int) - 1 := by
    rw [Int32.toInt_sub, nI_toInt hN, nI_toInt (by decide)]
    rw [Int.bmod_def]
    omega
  constructor
  · rintro ⟨h1, h2⟩
    rw [Int32.le_iff_toInt_le, e0] at h1
    rw [Int32.le_iff_toInt_le, e1] at h2
    have hn : ¬ p < 0 := by
      rw [Int32.lt_iff_toInt_lt, Int32.toInt_zero]; omega
    obtain ⟨j, hj, rfl⟩ := nI_of hn
    rw [nI_toInt hj] at h2
    exact ⟨j, by omega, rfl⟩
  · rintro ⟨j, hj, rfl⟩
    rw [Int32.le_iff_toInt_le, e0, Int32.le_iff_toInt_le, e1, nI_toInt (by omega)]
    omega
/-! ===== likeness ===== -/
def isnum (x : Nat) : Prop := 48 ≤ x ∧ x ≤ 57
def chg (x y : Nat) : Nat := if x = y then 0 else if 48 ≤ x ∧ x ≤ 57 ∧ 48 ≤ y ∧ y ≤ 57 then 1 else 4
def DD (f g : Nat → Nat) : Nat → Nat → Nat
  | 0, j => 4 * j
  | i + 1, 0 => 4 * (i + 1)
  | i + 1, j + 1 => min (DD f g i j + chg (f i) (g j)) (min (DD f g i (j + 1) + 4) (DD f g (i + 1) j + 4))
theorem chg_le (x y : Nat) : chg x y ≤ 4 := by
  unfold chg; split
  · omega
  · split <;> omega
theorem DD_0 (f g : Nat → Nat) (j : Nat) : DD f g 0 j = 4 * j := by rw [DD]
theorem DD_z (f g : Nat → Nat) (i : Nat) : DD f g i 0 = 4 * i := by cases i <;> rw [DD]
theorem DD_le (f g : Nat → Nat) : ∀ i j, DD f g i j ≤ 4 * max i j
  | 0, j => by rw [DD_0]; omega
  | i + 1, 0 => by rw [DD_z]; omega
  | i + 1, j + 1 => by
    have h1 := DD_le f g i j
    have h2 := chg_le (f i) (g j)
    rw [DD]
    omega
theorem DD_zero (f g : Nat → Nat) : ∀ i j, DD f g i j = 0 ↔ (i = j ∧ ∀ k, k < i → f k = g k)
  | 0, j => by
    rw [DD_0]
    constructor
    · intro h; exact ⟨by omega, fun k hk => absurd hk (Nat.not_lt_zero k)⟩
    · rintro ⟨h, -⟩; omega
  | i + 1, 0 => by
    rw [DD_z]
    constructor
    · intro h; omega
    · rintro ⟨h, -⟩; omega
  | i + 1, j + 1 => by
    have h1 := DD_zero f g i j
    rw [DD]
    constructor
    · intro h
      have h2 : DD f g i j = 0 := by omega
      have h3 : chg (f i) (g j) = 0 := by omega
      obtain ⟨e, h4⟩ := h1.mp h2
      subst e
      refine ⟨rfl, fun k hk => ?_⟩
      by_cases hki : k = i
      · subst hki
        unfold chg at h3
        split at h3
        · assumption
        · split at h3 <;> omega
      · exact h4 k (by omega)
    · rintro ⟨e, h⟩
      have e : i = j := by omega
      subst e
      have h2 := h1.mpr ⟨rfl, fun k hk => h k (by omega)⟩
      have h3 : chg (f i) (g i) = 0 := by rw [chg, if_pos (h i (by omega))]
      omega
/-- LIKE -/
def lik (f : Nat → Nat) (n : Nat) (g : Nat → Nat) (m : Nat) : Nat := 100 - 25 * DD f g n m / max n m
theorem lik_le (f : Nat → Nat) (n : Nat) (g : Nat → Nat) (m : Nat) : lik f n g m ≤ 100 := Nat.sub_le _ _
theorem lik_q (f : Nat → Nat) {n : Nat} (g : Nat → Nat) {m : Nat} (hn : 1 ≤ n) : 25 * DD f g n m / max n m ≤ 100 := by
  have h := DD_le f g n m
  have h2 : 0 < max n m := by omega
  exact Nat.le_of_lt_succ ((Nat.div_lt_iff_lt_mul h2).mpr (by omega))
theorem lik_100 (f : Nat → Nat) {n : Nat} (g : Nat → Nat) {m : Nat} (hn : 1 ≤ n) (hn2 : n ≤ 12) (hm2 : m ≤ 12) : lik f n g m = 100 ↔ (n = m ∧ ∀ k, k < n → f k = g k) := by
  have h2 : 0 < max n m := by omega
  rw [← DD_zero, lik]
  constructor
  · intro h
    have h3 : 25 * DD f g n m / max n m = 0 := by
      have := lik_q f (n := n) g (m := m) hn
      omega
    have h4 := (Nat.div_eq_zero_iff).mp h3
    omega
  · intro h
    rw [h]
    simp
def lkT (A : zA) (s t : Nat) : Nat := lik (tt A s) (tz A s) (tt A t) (tz A t)
def lkP (A : zA) (s p : Nat) : Nat := lik (tt A s) (tz A s) (ff A p) (fz A p)
/-- MATCH -/
def mtc (A : zA) (s p : Nat) : Nat := if lkP A s p = 100 then match aB A p, s with
    | some q, s' + 1 => if lkP A s' q = 100 then 101 else 100
    | _, _ => 100
  else lkP A s p
theorem mtc_le (A : zA) (s p : Nat) : mtc A s p ≤ 101 := by
  unfold mtc
  have := lik_le (tt A s) (tz A s) (ff A p) (fz A p)
  split
  · split
    · split <;> omega
    · omega
  · exact Nat.le_trans this (by decide)
/-- FOUND: the last with the greatest match, of the first n pairs; its match -/
def fnd (A : zA) (s : Nat) : Nat → Option (Nat × Nat)
  | 0 => none
  | n + 1 => match fnd A s n with
    | none => some (n, mtc A s n)
    | some (p, v) => if v ≤ mtc A s n then some (n, mtc A s n) else some (p, v)
def bnd (m : Nat) : Nat := if 100 < m then 0 else if m = 100 then 1 else if 85 ≤ m then 2 else if 60 ≤ m then 3 else 4
end
section
/-! ===== the model: small methods ===== -/

set_option maxRecDepth 100000 in
set_option maxHeartbeats 4000000 in
theorem c_X7_in {sc : Nat × (Nat → Int32)} {d : Nat} (I : Nat → Nat → Int32) (J : Nat → Nat → Int64) (v lo hi : Int32) : EvM sc (d) 0 0 mX7_in [.int v, .int lo, .int hi] (zz_SH, I, J) (zz_tf (lo ≤ v ∧ v ≤ hi) (zz_SH, I, J)) := by
  refine EvM.of (by decide) rfl (Nat.le_of_ble_eq_true rfl) ?_
  show Ev _ _ _ _ _ 0 [some (.int v), some (.int lo), some (.int hi)] [] (zz_SH, I, J) _
  refine Ev.run [(.iload_n 0, 1), (.iload_n 1, 1)] (pc' := 2) (L' := [some (.int v), some (.int lo), some (.int hi)]) (S' := [.int lo, .int v]) rfl (by decide +kernel) rfl ?_
  refine Ev.icmp_lt (off := 12) (tgt := 14) (by decide +kernel) (by decide) (fun h2 => ?_) (fun h2 => ?_)
  · refine Ev.run [(.iconst 0, 1)] (pc' := 15) (L' := [some (.int v), some (.int lo), some (.int hi)]) (S' := [.int (nI 0)]) rfl (by decide +kernel) rfl ?_
    exact Ev.zret rfl (by decide +kernel) (Or.inl rfl) (⟨rfl, Or.inr ⟨rfl, fun hh => absurd h2 (Int32.not_lt.mpr hh.1)⟩⟩)
  · refine Ev.run [(.iload_n 0, 1), (.iload_n 2, 1)] (pc' := 7) (L' := [some (.int v), some (.int lo), some (.int hi)]) (S' := [.int hi, .int v]) rfl (by decide +kernel) rfl ?_
    refine Ev.icmp_gt (off := 7) (tgt := 14) (by decide +kernel) (by decide) (fun h7 => ?_) (fun h7 => ?_)
    · refine Ev.run [(.iconst 0, 1)] (pc' := 15) (L' := [some (.int v), some (.int lo), some (.int hi)]) (S' := [.int (nI 0)]) rfl (by decide +kernel) rfl ?_
      exact Ev.zret rfl (by decide +kernel) (Or.inl rfl) (⟨rfl, Or.inr ⟨rfl, fun hh => absurd h7 (Int32.not_lt.mpr hh.2)⟩⟩)
    · refine Ev.run [(.iconst 1, 1)] (pc' := 11) (L' := [some (.int v), some (.int lo), some (.int hi)]) (S' := [.int (nI 1)]) rfl (by decide +kernel) rfl ?_
      refine Ev.goto (off := 4) (tgt := 15) (by decide +kernel) (by decide) ?_
      exact Ev.zret rfl (by decide +kernel) (Or.inr rfl) (⟨rfl, Or.inl ⟨rfl, Int32.not_lt.mp h2, Int32.not_lt.mp h7⟩⟩)

set_option maxRecDepth 100000 in
set_option maxHeartbeats 4000000 in
theorem c_X7_isPair {sc : Nat × (Nat → Int32)} {d : Nat} (I : Nat → Nat → Int32) (J : Nat → Nat → Int64) (N : Nat) (p : Int32) (hN : I 359 2 = nI N) (hN2 : N < 100) : EvM sc (d + 1) 0 0 mX7_isPair [.ref 359, .int p] (zz_SH, I, J) (zz_tf (zz_ix p N) (zz_SH, I, J)) := by
  refine EvM.of (by decide) rfl (Nat.le_of_ble_eq_true rfl) ?_
  show Ev _ _ _ _ _ 0 [some (.ref 359), some (.int p)] [] (zz_SH, I, J) _
  refine Ev.run [(.iload_n 1, 1), (.iconst 0, 1), (.aload_n 0, 1), (.getfield 75, 3)] (pc' := 6) (L' := [some (.ref 359), some (.int p)]) (S' := [.int (I 359 2), .int (nI 0), .int p]) rfl (by decide +kernel) rfl ?_
  rw [hN]
  refine Ev.run [(.iconst 1, 1), (.isub, 1)] (pc' := 8) (L' := [some (.ref 359), some (.int p)]) (S' := [.int (nI N - nI 1), .int (nI 0), .int p]) rfl (by decide +kernel) rfl ?_
  refine Ev.callS0 mX7_in [.int p, .int (nI 0), .int (nI N - nI 1)] [] _ rfl lk_RX7_79 (by decide +kernel) rfl (Nat.le_of_ble_eq_true rfl) (c_X7_in I J p (nI 0) (nI N - nI 1)) ?_
  rintro _ _ ⟨rfl, ⟨rfl, h8⟩ | ⟨rfl, h8⟩⟩
  · show Ev _ _ _ _ _ 11 [some (.ref 359), some (.int p)] [.int (nI 1)] (zz_SH, I, J) _
    rw [zz_ix_iff (by omega)] at h8
    exact Ev.zret rfl (by decide +kernel) (Or.inr rfl) (⟨rfl, Or.inl ⟨rfl, h8⟩⟩)
  · show Ev _ _ _ _ _ 11 [some (.ref 359), some (.int p)] [.int (nI 0)] (zz_SH, I, J) _
    rw [zz_ix_iff (by omega)] at h8
    exact Ev.zret rfl (by decide +kernel) (Or.inl rfl) (⟨rfl, Or.inr ⟨rfl, h8⟩⟩)

set_option maxRecDepth 100000 in
set_option maxHeartbeats 4000000 in
theorem c_X7_isSentence {sc : Nat × (Nat → Int32)} {d : Nat} (I : Nat → Nat → Int32) (J : Nat → Nat → Int64) (M : Nat) (p : Int32) (hN : I 359 8 = nI M) (hN2 : M < 100) : EvM sc (d + 1) 0 0 mX7_isSentence [.ref 359, .int p] (zz_SH, I, J) (zz_tf (zz_ix p M) (zz_SH, I, J)) := by
  refine EvM.of (by decide) rfl (Nat.le_of_ble_eq_true rfl) ?_
  show Ev _ _ _ _ _ 0 [some (.ref 359), some (.int p)] [] (zz_SH, I, J) _
  refine Ev.run [(.iload_n 1, 1), (.iconst 0, 1), (.aload_n 0, 1), (.getfield 83, 3)] (pc' := 6) (L' := [some (.ref 359), some (.int p)]) (S' := [.int (I 359 8), .int (nI 0), .int p]) rfl (by decide +kernel) rfl ?_
  rw [hN]
  refine Ev.run [(.iconst 1, 1), (.isub, 1)] (pc' := 8) (L' := [some (.ref 359), some (.int p)]) (S' := [.int (nI M - nI 1), .int (nI 0), .int p]) rfl (by decide +kernel) rfl ?_
  refine Ev.callS0 mX7_in [.int p, .int (nI 0), .int (nI M - nI 1)] [] _ rfl lk_RX7_79 (by decide +kernel) rfl (Nat.le_of_ble_eq_true rfl) (c_X7_in I J p (nI 0) (nI M - nI 1)) ?_
  rintro _ _ ⟨rfl, ⟨rfl, h8⟩ | ⟨rfl, h8⟩⟩
  · show Ev _ _ _ _ _ 11 [some (.ref 359), some (.int p)] [.int (nI 1)] (zz_SH, I, J) _
    rw [zz_ix_iff (by omega)] at h8
    exact Ev.zret rfl (by decide +kernel) (Or.inr rfl) (⟨rfl, Or.inl ⟨rfl, h8⟩⟩)
  · show Ev _ _ _ _ _ 11 [some (.ref 359), some (.int p)] [.int (nI 0)] (zz_SH, I, J) _
    rw [zz_ix_iff (by omega)] at h8
    exact Ev.zret rfl (by decide +kernel) (Or.inl rfl) (⟨rfl, Or.inr ⟨rfl, h8⟩⟩)

set_option maxRecDepth 100000 in
set_option maxHeartbeats 4000000 in
theorem c_X7_isWord {sc : Nat × (Nat → Int32)} {d : Nat} (I : Nat → Nat → Int32) (J : Nat → Nat → Int64) (p : Int32) : EvM sc (d + 1) 0 0 mX7_isWord [.int p] (zz_SH, I, J) (zz_tf (zz_ix p 16) (zz_SH, I, J)) := by
  refine EvM.of (by decide) rfl (Nat.le_of_ble_eq_true rfl) ?_
  show Ev _ _ _ _ _ 0 [some (.int p)] [] (zz_SH, I, J) _
  refine Ev.run [(.iload_n 0, 1), (.iconst 0, 1), (.bipush 15, 2)] (pc' := 4) (L' := [some (.int p)]) (S' := [.int (nI 15), .int (nI 0), .int p]) rfl (by decide +kernel) rfl ?_
  refine Ev.callS0 mX7_in [.int p, .int (nI 0), .int (nI 15)] [] _ rfl lk_RX7_79 (by decide +kernel) rfl (Nat.le_of_ble_eq_true rfl) (c_X7_in I J p (nI 0) (nI 15)) ?_
  rintro _ _ ⟨rfl, ⟨rfl, h4⟩ | ⟨rfl, h4⟩⟩
  · show Ev _ _ _ _ _ 7 [some (.int p)] [.int (nI 1)] (zz_SH, I, J) _
    rw [show (nI 15 : Int32) = nI 16 - nI 1 by decide, zz_ix_iff (by omega)] at h4
    exact Ev.zret rfl (by decide +kernel) (Or.inr rfl) (⟨rfl, Or.inl ⟨rfl, h4⟩⟩)
  · show Ev _ _ _ _ _ 7 [some (.int p)] [.int (nI 0)] (zz_SH, I, J) _
    rw [show (nI 15 : Int32) = nI 16 - nI 1 by decide, zz_ix_iff (by omega)] at h4
    exact Ev.zret rfl (by decide +kernel) (Or.inl rfl) (⟨rfl, Or.inr ⟨rfl, h4⟩⟩)

set_option maxRecDepth 100000 in
set_option maxHeartbeats 4000000 in
theorem c_X7_isNumber {sc : Nat × (Nat → Int32)} {d : Nat} (I : Nat → Nat → Int32) (J : Nat → Nat → Int64) (p : Int32) : EvM sc (d + 1) 0 0 mX7_isNumber [.int p] (zz_SH, I, J) (zz_tf (nI 48 ≤ p ∧ p ≤ nI 57) (zz_SH, I, J)) := by
  refine EvM.of (by decide) rfl (Nat.le_of_ble_eq_true rfl) ?_
  show Ev _ _ _ _ _ 0 [some (.int p)] [] (zz_SH, I, J) _
  refine Ev.run [(.iload_n 0, 1), (.bipush 48, 2), (.bipush 57, 2)] (pc' := 5) (L' := [some (.int p)]) (S' := [.int (nI 57), .int (nI 48), .int p]) rfl (by decide +kernel) rfl ?_
  refine Ev.callS0 mX7_in [.int p, .int (nI 48), .int (nI 57)] [] _ rfl lk_RX7_79 (by decide +kernel) rfl (Nat.le_of_ble_eq_true rfl) (c_X7_in I J p (nI 48) (nI 57)) ?_
  rintro _ _ ⟨rfl, ⟨rfl, h5⟩ | ⟨rfl, h5⟩⟩
  · show Ev _ _ _ _ _ 8 [some (.int p)] [.int (nI 1)] (zz_SH, I, J) _
    have h5 := h5
    exact Ev.zret rfl (by decide +kernel) (Or.inr rfl) (⟨rfl, Or.inl ⟨rfl, h5⟩⟩)
  · show Ev _ _ _ _ _ 8 [some (.int p)] [.int (nI 0)] (zz_SH, I, J) _
    have h5 := h5
    exact Ev.zret rfl (by decide +kernel) (Or.inl rfl) (⟨rfl, Or.inr ⟨rfl, h5⟩⟩)
end
section
/-! ===== the model: likeness ===== -/
theorem zz_sub {a b c : Nat} (h : a = c + b) : nI a - nI b = nI c := by
  subst h
  rw [pk_sub (Nat.le_add_left _ _), Nat.add_sub_cancel]
def zz_wk : List (Option Value) → List (Option Value) → Prop
  | [], [] => True
  | none :: r, _ :: s => zz_wk r s
  | some v :: r, some w :: s => v = w ∧ zz_wk r s
  | _, _ => False
theorem zz_wk_spec : ∀ {A B : List (Option Value)}, zz_wk A B → A.length = B.length ∧ ∀ (i : Nat) (v : Value), A[i]? = some (some v) → B[i]? = some (some v)
  | [], [], _ => ⟨rfl, fun i v h => by simp at h⟩
  | none :: r, w :: s, h => by
    obtain ⟨h1, h2⟩ := zz_wk_spec (A := r) (B := s) (by cases w <;> exact h)
    refine ⟨by simp [h1], fun i v hi => ?_⟩
    cases i with
    | zero => simp at hi
    | succ i => exact h2 i v hi
  | some v :: r, some w :: s, h => by
    obtain ⟨e, h⟩ := h
    subst e
    obtain ⟨h1, h2⟩ := zz_wk_spec h
    refine ⟨by simp [h1], fun i v hi => ?_⟩
    cases i with
    | zero => exact hi
    | succ i => exact h2 i v hi
  | some v :: r, none :: s, h => by cases h
  | [], w :: s, h => by cases h
  | some v :: r, [], h => by cases h
  | none :: r, [], h => by cases h
theorem Ev.weakL {sc : Nat × (Nat → Int32)} {d mc ms : Nat} {M : zz_MD} {pc : Nat} {L L' : List (Option Value)} {S : List Value} {σ : zz_St} {Q : Option Value → zz_St → Prop} (h : zz_wk L' L) (k : Ev sc d mc ms M pc L' S σ Q) : Ev sc d mc ms M pc L S σ Q := by
  intro p l e R s m args below meth c D cA b ex H locs cells slots Qt ls hC hR hL hf hlo hce hsl hret
  obtain ⟨h1, h2⟩ := zz_wk_spec h
  exact k p l e R s m args below meth c D cA b ex H locs cells slots Qt ls hC hR ⟨hL.1, hL.2.1, h1.trans hL.2.2.1, fun i v hi => hL.2.2.2 i v (h2 i v hi)⟩ hf hlo hce hsl hret
theorem zz_num {x : Nat} (hx : x < 1000) : (nI 48 ≤ nI x ∧ nI x ≤ nI 57) ↔ (48 ≤ x ∧ x ≤ 57) := by
  rw [nI_leI (by decide) (by omega), nI_leI (by omega) (by decide)]

set_option maxRecDepth 100000 in
set_option maxHeartbeats 4000000 in
theorem c_X7_changes {sc : Nat × (Nat → Int32)} {d : Nat} (I : Nat → Nat → Int32) (J : Nat → Nat → Int64) (x y : Nat) (hx : x < 1000) (hy : y < 1000) : EvM sc (d + 2) 0 0 mX7_changes [.int (nI x), .int (nI y)] (zz_SH, I, J) (zz_is (.int (nI (chg x y))) (zz_SH, I, J)) := by
  refine EvM.of (by decide) rfl (Nat.le_of_ble_eq_true rfl) ?_
  show Ev _ _ _ _ _ 0 [some (.int (nI x)), some (.int (nI y))] [] (zz_SH, I, J) _
  refine Ev.run [(.iload_n 0, 1), (.iload_n 1, 1)] (pc' := 2) (L' := [some (.int (nI x)), some (.int (nI y))]) (S' := [.int (nI y), .int (nI x)]) rfl (by decide +kernel) rfl ?_
  refine Ev.icmp_ne (off := 7) (tgt := 9) (by decide +kernel) (by decide) (fun h2 => ?_) (fun h2 => ?_)
  · have h2 : ¬ x = y := zz_bE_f (by omega) (by omega) h2
    refine Ev.run [(.iload_n 0, 1)] (pc' := 10) (L' := [some (.int (nI x)), some (.int (nI y))]) (S' := [.int (nI x)]) rfl (by decide +kernel) rfl ?_
    refine Ev.callS0 mX7_isNumber [.int (nI x)] [] _ rfl lk_RX7_92 (by decide +kernel) rfl (Nat.le_of_ble_eq_true rfl) (c_X7_isNumber I J (nI x)) ?_
    rintro _ _ ⟨rfl, ⟨rfl, h10⟩ | ⟨rfl, h10⟩⟩
    · show Ev _ _ _ _ _ 13 [some (.int (nI x)), some (.int (nI y))] [.int (nI 1)] (zz_SH, I, J) _
      rw [zz_num hx] at h10
      refine Ev.if_eq (off := 14) (tgt := 27) (by decide +kernel) (by decide) (fun h13 => absurd h13 (by decide)) (fun h13 => ?_)
      refine Ev.run [(.iload_n 1, 1)] (pc' := 17) (L' := [some (.int (nI x)), some (.int (nI y))]) (S' := [.int (nI y)]) rfl (by decide +kernel) rfl ?_
      refine Ev.callS0 mX7_isNumber [.int (nI y)] [] _ rfl lk_RX7_92 (by decide +kernel) rfl (Nat.le_of_ble_eq_true rfl) (c_X7_isNumber I J (nI y)) ?_
      rintro _ _ ⟨rfl, ⟨rfl, h17⟩ | ⟨rfl, h17⟩⟩
      · show Ev _ _ _ _ _ 20 [some (.int (nI x)), some (.int (nI y))] [.int (nI 1)] (zz_SH, I, J) _
        rw [zz_num hy] at h17
        refine Ev.if_eq (off := 7) (tgt := 27) (by decide +kernel) (by decide) (fun h20 => absurd h20 (by decide)) (fun h20 => ?_)
        refine Ev.run [(.iconst 1, 1)] (pc' := 24) (L' := [some (.int (nI x)), some (.int (nI y))]) (S' := [.int (nI 1)]) rfl (by decide +kernel) rfl ?_
        refine Ev.goto (off := 4) (tgt := 28) (by decide +kernel) (by decide) ?_
        exact Ev.iret rfl (by decide +kernel) (⟨by rw [chg, if_neg h2, if_pos ⟨h10.1, h10.2, h17⟩], rfl⟩)
      · show Ev _ _ _ _ _ 20 [some (.int (nI x)), some (.int (nI y))] [.int (nI 0)] (zz_SH, I, J) _
        rw [zz_num hy] at h17
        refine Ev.if_eq (off := 7) (tgt := 27) (by decide +kernel) (by decide) (fun h20 => ?_) (fun h20 => absurd h20 (by decide))
        refine Ev.run [(.iconst 4, 1)] (pc' := 28) (L' := [some (.int (nI x)), some (.int (nI y))]) (S' := [.int (nI 4)]) rfl (by decide +kernel) rfl ?_
        exact Ev.iret rfl (by decide +kernel) (⟨by rw [chg, if_neg h2, if_neg (fun q => h17 q.2.2)], rfl⟩)
    · show Ev _ _ _ _ _ 13 [some (.int (nI x)), some (.int (nI y))] [.int (nI 0)] (zz_SH, I, J) _
      rw [zz_num hx] at h10
      refine Ev.if_eq (off := 14) (tgt := 27) (by decide +kernel) (by decide) (fun h13 => ?_) (fun h13 => absurd h13 (by decide))
      refine Ev.run [(.iconst 4, 1)] (pc' := 28) (L' := [some (.int (nI x)), some (.int (nI y))]) (S' := [.int (nI 4)]) rfl (by decide +kernel) rfl ?_
      exact Ev.iret rfl (by decide +kernel) (⟨by rw [chg, if_neg h2, if_neg (fun q => h10 ⟨q.1, q.2.1⟩)], rfl⟩)
  · have h2 : x = y := zz_bE_t (by omega) (by omega) h2
    refine Ev.run [(.iconst 0, 1)] (pc' := 6) (L' := [some (.int (nI x)), some (.int (nI y))]) (S' := [.int (nI 0)]) rfl (by decide +kernel) rfl ?_
    refine Ev.goto (off := 22) (tgt := 28) (by decide +kernel) (by decide) ?_
    exact Ev.iret rfl (by decide +kernel) (⟨by rw [chg, if_pos h2], rfl⟩)

set_option maxRecDepth 100000 in
set_option maxHeartbeats 4000000 in
theorem l_X7_far3 {sc : Nat × (Nat → Int32)} {d : Nat} (I : Nat → Nat → Int32) (J : Nat → Nat → Int64) (q1 q2 n1 n2 a n o m : Nat) (f g : Nat → Nat) (hq1 : zz_SH[q1]? = some (.inr (0, n1, []))) (hq2 : zz_SH[q2]? = some (.inr (0, n2, []))) (hn1 : n1 < 1000) (hn2 : n2 < 1000) (han : a + n ≤ n1) (hom : o + m ≤ n2) (hn : n ≤ 12) (hm : m ≤ 12) (hf : ∀ i, i < n → I q1 (a + i) = nI (f i)) (hg : ∀ j, j < m → I q2 (o + j) = nI (g j)) (hfr : ∀ i, i < n → f i < 1000) (hgr : ∀ j, j < m → g j < 1000) (e1 : q1 ≠ 372) (e2 : q2 ≠ 372) (i : Nat) (hi : i < n) (hout : ∀ h : Nat → Int32, (∀ t, t ≤ m → h t = nI (DD f g (i + 1) t)) → Ev sc (d + 3) 0 0 mX7_farOf 172 [some (.ref 359), some (.ref q1), some (.int (nI a)), some (.int (nI n)), some (.ref q2), some (.int (nI o)), some (.int (nI m)), some (.int (nI (i + 1))), none, none, none, none] [] (zz_SH, zz_cs I 372 h, J) (fun r σ => r = some (.int (nI (DD f g n m))) ∧ ∃ h, σ = (zz_SH, zz_cs I 372 h, J))) : ∀ (μ : Nat) (j : Nat) (h : Nat → Int32), m - j < μ → (j ≤ m) → (∀ t, t ≤ j → h t = nI (DD f g (i + 1) t)) → (∀ t, j < t → t ≤ m → h t = nI (DD f g i t)) →  Ev sc (d + 3) 0 0 mX7_farOf 57 [some (.ref 359), some (.ref q1), some (.int (nI a)), some (.int (nI n)), some (.ref q2), some (.int (nI o)), some (.int (nI m)), some (.int (nI (i + 1))), some (.int (nI (DD f g i j))), some (.int (nI (j + 1))), none, none] [] (zz_SH, zz_cs I 372 h, J) (fun r σ => r = some (.int (nI (DD f g n m))) ∧ ∃ h, σ = (zz_SH, zz_cs I 372 h, J)) := by
  intro μ
  induction μ with
  | zero => intro j h hμ; exact absurd hμ (Nat.not_lt_zero _)
  | succ μ ih =>
    intro j h hμ hj h1 h2
    have b1 := DD_le f g i j
    have b2 := DD_le f g i (j + 1)
    have b3 := DD_le f g (i + 1) j
    have b4 := chg_le (f i) (g j)
    refine Ev.run [(.iload 9, 2), (.iload 6, 2)] (pc' := 61) (L' := [some (.ref 359), some (.ref q1), some (.int (nI a)), some (.int (nI n)), some (.ref q2), some (.int (nI o)), some (.int (nI m)), some (.int (nI (i + 1))), some (.int (nI (DD f g i j))), some (.int (nI (j + 1))), none, none]) (S' := [.int (nI m), .int (nI (j + 1))]) rfl (by decide +kernel) rfl ?_
    refine Ev.icmp_gt (off := 111) (tgt := 172) (by decide +kernel) (by decide) (fun h61 => ?_) (fun h61 => ?_)
    · have h61 : (j + 1) > m := zz_bL'_t (by omega) (by omega) h61
      refine Ev.weakL (L' := [some (.ref 359), some (.ref q1), some (.int (nI a)), some (.int (nI n)), some (.ref q2), some (.int (nI o)), some (.int (nI m)), some (.int (nI (i + 1))), none, none, none, none]) ⟨rfl, rfl, rfl, rfl, rfl, rfl, rfl, rfl, trivial⟩ ?_
      exact hout h (fun t ht => h1 t (by omega))
    · have h61 : (j + 1) ≤ m := zz_bL'_f (by omega) (by omega) h61
      refine Ev.run [(.aload_n 0, 1), (.getfield 46, 3), (.iload 9, 2)] (pc' := 70) (L' := [some (.ref 359), some (.ref q1), some (.int (nI a)), some (.int (nI n)), some (.ref q2), some (.int (nI o)), some (.int (nI m)), some (.int (nI (i + 1))), some (.int (nI (DD f g i j))), some (.int (nI (j + 1))), none, none]) (S' := [.int (nI (j + 1)), .ref 372]) rfl (by decide +kernel) rfl ?_
      refine Ev.iald (j + 1) (by decide +kernel) (rfl) (rfl) (by omega) (by first | decide | omega) ?_
      dsimp only
      rw [show (zz_cs I 372 h) 372 (j + 1) = nI (DD f g i (j + 1)) from by rw [zz_cs_eq]; exact h2 (j + 1) (by omega) (by omega)]
      refine Ev.run [(.istore 10, 2), (.iload 8, 2), (.aload_n 1, 1), (.iload_n 2, 1), (.iload 7, 2), (.iadd, 1)] (pc' := 80) (L' := [some (.ref 359), some (.ref q1), some (.int (nI a)), some (.int (nI n)), some (.ref q2), some (.int (nI o)), some (.int (nI m)), some (.int (nI (i + 1))), some (.int (nI (DD f g i j))), some (.int (nI (j + 1))), some (.int (nI (DD f g i (j + 1)))), none]) (S' := [.int (nI a + nI (i + 1)), .ref q1, .int (nI (DD f g i j))]) rfl (by decide +kernel) rfl ?_
      rw [nI_add a (i + 1)]
      refine Ev.run [(.iconst 1, 1), (.isub, 1)] (pc' := 82) (L' := [some (.ref 359), some (.ref q1), some (.int (nI a)), some (.int (nI n)), some (.ref q2), some (.int (nI o)), some (.int (nI m)), some (.int (nI (i + 1))), some (.int (nI (DD f g i j))), some (.int (nI (j + 1))), some (.int (nI (DD f g i (j + 1)))), none]) (S' := [.int (nI (a + (i + 1)) - nI 1), .ref q1, .int (nI (DD f g i j))]) rfl (by decide +kernel) rfl ?_
      rw [show nI (a + (i + 1)) - nI 1 = nI (a + i) from zz_sub (by omega)]
      refine Ev.iald (a + i) (by decide +kernel) (hq1) (rfl) (by omega) (by first | decide | omega) ?_
      dsimp only
      rw [show (zz_cs I 372 h) q1 (a + i) = nI (f i) from by rw [zz_cs_ne e1]; exact hf i (by omega)]
      refine Ev.run [(.aload 4, 2), (.iload 5, 2), (.iload 9, 2), (.iadd, 1)] (pc' := 90) (L' := [some (.ref 359), some (.ref q1), some (.int (nI a)), some (.int (nI n)), some (.ref q2), some (.int (nI o)), some (.int (nI m)), some (.int (nI (i + 1))), some (.int (nI (DD f g i j))), some (.int (nI (j + 1))), some (.int (nI (DD f g i (j + 1)))), none]) (S' := [.int (nI o + nI (j + 1)), .ref q2, .int (nI (f i)), .int (nI (DD f g i j))]) rfl (by decide +kernel) rfl ?_
      rw [nI_add o (j + 1)]
      refine Ev.run [(.iconst 1, 1), (.isub, 1)] (pc' := 92) (L' := [some (.ref 359), some (.ref q1), some (.int (nI a)), some (.int (nI n)), some (.ref q2), some (.int (nI o)), some (.int (nI m)), some (.int (nI (i + 1))), some (.int (nI (DD f g i j))), some (.int (nI (j + 1))), some (.int (nI (DD f g i (j + 1)))), none]) (S' := [.int (nI (o + (j + 1)) - nI 1), .ref q2, .int (nI (f i)), .int (nI (DD f g i j))]) rfl (by decide +kernel) rfl ?_
      rw [show nI (o + (j + 1)) - nI 1 = nI (o + j) from zz_sub (by omega)]
      refine Ev.iald (o + j) (by decide +kernel) (hq2) (rfl) (by omega) (by first | decide | omega) ?_
      dsimp only
      rw [show (zz_cs I 372 h) q2 (o + j) = nI (g j) from by rw [zz_cs_ne e2]; exact hg j (by omega)]
      refine Ev.callS0 mX7_changes [.int (nI (f i)), .int (nI (g j))] [.int (nI (DD f g i j))] _ rfl lk_RX7_103 (by decide +kernel) rfl (Nat.le_of_ble_eq_true rfl) (c_X7_changes (zz_cs I 372 h) J (f i) (g j) (hfr i (by omega)) (hgr j (by omega))) ?_
      rintro _ _ ⟨rfl, rfl⟩
      show Ev _ _ _ _ _ 96 [some (.ref 359), some (.ref q1), some (.int (nI a)), some (.int (nI n)), some (.ref q2), some (.int (nI o)), some (.int (nI m)), some (.int (nI (i + 1))), some (.int (nI (DD f g i j))), some (.int (nI (j + 1))), some (.int (nI (DD f g i (j + 1)))), none] [.int (nI (chg (f i) (g j))), .int (nI (DD f g i j))] (zz_SH, zz_cs I 372 h, J) _
      refine Ev.run [(.iadd, 1)] (pc' := 97) (L' := [some (.ref 359), some (.ref q1), some (.int (nI a)), some (.int (nI n)), some (.ref q2), some (.int (nI o)), some (.int (nI m)), some (.int (nI (i + 1))), some (.int (nI (DD f g i j))), some (.int (nI (j + 1))), some (.int (nI (DD f g i (j + 1)))), none]) (S' := [.int (nI (DD f g i j) + nI (chg (f i) (g j)))]) rfl (by decide +kernel) rfl ?_
      rw [nI_add (DD f g i j) (chg (f i) (g j))]
      refine Ev.run [(.istore 11, 2), (.iload 10, 2), (.iconst 4, 1), (.iadd, 1)] (pc' := 103) (L' := [some (.ref 359), some (.ref q1), some (.int (nI a)), some (.int (nI n)), some (.ref q2), some (.int (nI o)), some (.int (nI m)), some (.int (nI (i + 1))), some (.int (nI (DD f g i j))), some (.int (nI (j + 1))), some (.int (nI (DD f g i (j + 1)))), some (.int (nI ((DD f g i j) + (chg (f i) (g j)))))]) (S' := [.int (nI (DD f g i (j + 1)) + nI 4)]) rfl (by decide +kernel) rfl ?_
      rw [nI_add (DD f g i (j + 1)) 4]
      refine Ev.run [(.iload 11, 2)] (pc' := 105) (L' := [some (.ref 359), some (.ref q1), some (.int (nI a)), some (.int (nI n)), some (.ref q2), some (.int (nI o)), some (.int (nI m)), some (.int (nI (i + 1))), some (.int (nI (DD f g i j))), some (.int (nI (j + 1))), some (.int (nI (DD f g i (j + 1)))), some (.int (nI ((DD f g i j) + (chg (f i) (g j)))))]) (S' := [.int (nI ((DD f g i j) + (chg (f i) (g j)))), .int (nI ((DD f g i (j + 1)) + 4))]) rfl (by decide +kernel) rfl ?_
      refine Ev.icmp_ge (off := 10) (tgt := 115) (by decide +kernel) (by decide) (fun h105 => ?_) (fun h105 => ?_)
      · have h105 : ((DD f g i (j + 1)) + 4) ≥ ((DD f g i j) + (chg (f i) (g j))) := zz_bG_t (by omega) (by omega) h105
        refine Ev.run [(.iload 11, 2), (.istore 11, 2), (.aload_n 0, 1), (.getfield 46, 3), (.iload 9, 2), (.iconst 1, 1), (.isub, 1)] (pc' := 127) (L' := [some (.ref 359), some (.ref q1), some (.int (nI a)), some (.int (nI n)), some (.ref q2), some (.int (nI o)), some (.int (nI m)), some (.int (nI (i + 1))), some (.int (nI (DD f g i j))), some (.int (nI (j + 1))), some (.int (nI (DD f g i (j + 1)))), some (.int (nI ((DD f g i j) + (chg (f i) (g j)))))]) (S' := [.int (nI (j + 1) - nI 1), .ref 372]) rfl (by decide +kernel) rfl ?_
        rw [show nI (j + 1) - nI 1 = nI j from zz_sub (by omega)]
        refine Ev.iald j (by decide +kernel) (rfl) (rfl) (by omega) (by first | decide | omega) ?_
        dsimp only
        rw [show (zz_cs I 372 h) 372 j = nI (DD f g (i + 1) j) from by rw [zz_cs_eq]; exact h1 j (by omega)]
        refine Ev.run [(.iconst 4, 1), (.iadd, 1)] (pc' := 130) (L' := [some (.ref 359), some (.ref q1), some (.int (nI a)), some (.int (nI n)), some (.ref q2), some (.int (nI o)), some (.int (nI m)), some (.int (nI (i + 1))), some (.int (nI (DD f g i j))), some (.int (nI (j + 1))), some (.int (nI (DD f g i (j + 1)))), some (.int (nI ((DD f g i j) + (chg (f i) (g j)))))]) (S' := [.int (nI (DD f g (i + 1) j) + nI 4)]) rfl (by decide +kernel) rfl ?_
        rw [nI_add (DD f g (i + 1) j) 4]
        refine Ev.run [(.iload 11, 2)] (pc' := 132) (L' := [some (.ref 359), some (.ref q1), some (.int (nI a)), some (.int (nI n)), some (.ref q2), some (.int (nI o)), some (.int (nI m)), some (.int (nI (i + 1))), some (.int (nI (DD f g i j))), some (.int (nI (j + 1))), some (.int (nI (DD f g i (j + 1)))), some (.int (nI ((DD f g i j) + (chg (f i) (g j)))))]) (S' := [.int (nI ((DD f g i j) + (chg (f i) (g j)))), .int (nI ((DD f g (i + 1) j) + 4))]) rfl (by decide +kernel) rfl ?_
        refine Ev.icmp_ge (off := 17) (tgt := 149) (by decide +kernel) (by decide) (fun h132 => ?_) (fun h132 => ?_)
        · have h132 : ((DD f g (i + 1) j) + 4) ≥ ((DD f g i j) + (chg (f i) (g j))) := zz_bG_t (by omega) (by omega) h132
          refine Ev.run [(.iload 11, 2), (.istore 11, 2)] (pc' := 153) (L' := [some (.ref 359), some (.ref q1), some (.int (nI a)), some (.int (nI n)), some (.ref q2), some (.int (nI o)), some (.int (nI m)), some (.int (nI (i + 1))), some (.int (nI (DD f g i j))), some (.int (nI (j + 1))), some (.int (nI (DD f g i (j + 1)))), some (.int (nI ((DD f g i j) + (chg (f i) (g j)))))]) (S' := []) rfl (by decide +kernel) rfl ?_
          have hv : (DD f g i j) + (chg (f i) (g j)) = DD f g (i + 1) (j + 1) := by rw [DD]; omega
          rw [hv]
          clear hv
          refine Ev.run [(.aload_n 0, 1), (.getfield 46, 3), (.iload 9, 2), (.iload 11, 2)] (pc' := 161) (L' := [some (.ref 359), some (.ref q1), some (.int (nI a)), some (.int (nI n)), some (.ref q2), some (.int (nI o)), some (.int (nI m)), some (.int (nI (i + 1))), some (.int (nI (DD f g i j))), some (.int (nI (j + 1))), some (.int (nI (DD f g i (j + 1)))), some (.int (nI (DD f g (i + 1) (j + 1))))]) (S' := [.int (nI (DD f g (i + 1) (j + 1))), .int (nI (j + 1)), .ref 372]) rfl (by decide +kernel) rfl ?_
          refine Ev.iast (j + 1) (by decide +kernel) (rfl) (rfl) (by omega) (by first | decide | omega) ?_
          dsimp only
          refine Ev.run [(.iload 10, 2), (.istore 8, 2), (.iinc 9 1, 3)] (pc' := 169) (L' := [some (.ref 359), some (.ref q1), some (.int (nI a)), some (.int (nI n)), some (.ref q2), some (.int (nI o)), some (.int (nI m)), some (.int (nI (i + 1))), some (.int (nI (DD f g i (j + 1)))), some (.int (nI (j + 1) + 1)), some (.int (nI (DD f g i (j + 1)))), some (.int (nI (DD f g (i + 1) (j + 1))))]) (S' := []) rfl (by decide +kernel) rfl ?_
          rw [nI_1 (j + 1)]
          refine Ev.goto (off := (-112)) (tgt := 57) (by decide +kernel) (by decide) ?_
          refine Ev.weakL (L' := [some (.ref 359), some (.ref q1), some (.int (nI a)), some (.int (nI n)), some (.ref q2), some (.int (nI o)), some (.int (nI m)), some (.int (nI (i + 1))), some (.int (nI (DD f g i (j + 1)))), some (.int (nI (j + 1 + 1))), none, none]) ⟨rfl, rfl, rfl, rfl, rfl, rfl, rfl, rfl, rfl, rfl, trivial⟩ ?_
          rw [zz_cs_up]
          refine ih (j + 1) (upd h (j + 1) (nI (DD f g (i + 1) (j + 1)))) (by omega) (by omega) (fun t ht => ?_) (fun t ht1 ht2 => ?_)
          · by_cases e : t = j + 1
            · subst e; rw [zz_ups]
            · rw [zz_upn e]; exact h1 t (by omega)
          · rw [zz_upn (by omega)]; exact h2 t (by omega) ht2
        · have h132 : ((DD f g (i + 1) j) + 4) < ((DD f g i j) + (chg (f i) (g j))) := zz_bG_f (by omega) (by omega) h132
          refine Ev.run [(.aload_n 0, 1), (.getfield 46, 3), (.iload 9, 2), (.iconst 1, 1), (.isub, 1)] (pc' := 143) (L' := [some (.ref 359), some (.ref q1), some (.int (nI a)), some (.int (nI n)), some (.ref q2), some (.int (nI o)), some (.int (nI m)), some (.int (nI (i + 1))), some (.int (nI (DD f g i j))), some (.int (nI (j + 1))), some (.int (nI (DD f g i (j + 1)))), some (.int (nI ((DD f g i j) + (chg (f i) (g j)))))]) (S' := [.int (nI (j + 1) - nI 1), .ref 372]) rfl (by decide +kernel) rfl ?_
          rw [show nI (j + 1) - nI 1 = nI j from zz_sub (by omega)]
          refine Ev.iald j (by decide +kernel) (rfl) (rfl) (by omega) (by first | decide | omega) ?_
          dsimp only
          rw [show (zz_cs I 372 h) 372 j = nI (DD f g (i + 1) j) from by rw [zz_cs_eq]; exact h1 j (by omega)]
          refine Ev.run [(.iconst 4, 1), (.iadd, 1)] (pc' := 146) (L' := [some (.ref 359), some (.ref q1), some (.int (nI a)), some (.int (nI n)), some (.ref q2), some (.int (nI o)), some (.int (nI m)), some (.int (nI (i + 1))), some (.int (nI (DD f g i j))), some (.int (nI (j + 1))), some (.int (nI (DD f g i (j + 1)))), some (.int (nI ((DD f g i j) + (chg (f i) (g j)))))]) (S' := [.int (nI (DD f g (i + 1) j) + nI 4)]) rfl (by decide +kernel) rfl ?_
          rw [nI_add (DD f g (i + 1) j) 4]
          refine Ev.goto (off := 5) (tgt := 151) (by decide +kernel) (by decide) ?_
          refine Ev.run [(.istore 11, 2)] (pc' := 153) (L' := [some (.ref 359), some (.ref q1), some (.int (nI a)), some (.int (nI n)), some (.ref q2), some (.int (nI o)), some (.int (nI m)), some (.int (nI (i + 1))), some (.int (nI (DD f g i j))), some (.int (nI (j + 1))), some (.int (nI (DD f g i (j + 1)))), some (.int (nI ((DD f g (i + 1) j) + 4)))]) (S' := []) rfl (by decide +kernel) rfl ?_
          have hv : (DD f g (i + 1) j) + 4 = DD f g (i + 1) (j + 1) := by rw [DD]; omega
          rw [hv]
          clear hv
          refine Ev.run [(.aload_n 0, 1), (.getfield 46, 3), (.iload 9, 2), (.iload 11, 2)] (pc' := 161) (L' := [some (.ref 359), some (.ref q1), some (.int (nI a)), some (.int (nI n)), some (.ref q2), some (.int (nI o)), some (.int (nI m)), some (.int (nI (i + 1))), some (.int (nI (DD f g i j))), some (.int (nI (j + 1))), some (.int (nI (DD f g i (j + 1)))), some (.int (nI (DD f g (i + 1) (j + 1))))]) (S' := [.int (nI (DD f g (i + 1) (j + 1))), .int (nI (j + 1)), .ref 372]) rfl (by decide +kernel) rfl ?_
          refine Ev.iast (j + 1) (by decide +kernel) (rfl) (rfl) (by omega) (by first | decide | omega) ?_
          dsimp only
          refine Ev.run [(.iload 10, 2), (.istore 8, 2), (.iinc 9 1, 3)] (pc' := 169) (L' := [some (.ref 359), some (.ref q1), some (.int (nI a)), some (.int (nI n)), some (.ref q2), some (.int (nI o)), some (.int (nI m)), some (.int (nI (i + 1))), some (.int (nI (DD f g i (j + 1)))), some (.int (nI (j + 1) + 1)), some (.int (nI (DD f g i (j + 1)))), some (.int (nI (DD f g (i + 1) (j + 1))))]) (S' := []) rfl (by decide +kernel) rfl ?_
          rw [nI_1 (j + 1)]
          refine Ev.goto (off := (-112)) (tgt := 57) (by decide +kernel) (by decide) ?_
          refine Ev.weakL (L' := [some (.ref 359), some (.ref q1), some (.int (nI a)), some (.int (nI n)), some (.ref q2), some (.int (nI o)), some (.int (nI m)), some (.int (nI (i + 1))), some (.int (nI (DD f g i (j + 1)))), some (.int (nI (j + 1 + 1))), none, none]) ⟨rfl, rfl, rfl, rfl, rfl, rfl, rfl, rfl, rfl, rfl, trivial⟩ ?_
          rw [zz_cs_up]
          refine ih (j + 1) (upd h (j + 1) (nI (DD f g (i + 1) (j + 1)))) (by omega) (by omega) (fun t ht => ?_) (fun t ht1 ht2 => ?_)
          · by_cases e : t = j + 1
            · subst e; rw [zz_ups]
            · rw [zz_upn e]; exact h1 t (by omega)
          · rw [zz_upn (by omega)]; exact h2 t (by omega) ht2
      · have h105 : ((DD f g i (j + 1)) + 4) < ((DD f g i j) + (chg (f i) (g j))) := zz_bG_f (by omega) (by omega) h105
        refine Ev.run [(.iload 10, 2), (.iconst 4, 1), (.iadd, 1)] (pc' := 112) (L' := [some (.ref 359), some (.ref q1), some (.int (nI a)), some (.int (nI n)), some (.ref q2), some (.int (nI o)), some (.int (nI m)), some (.int (nI (i + 1))), some (.int (nI (DD f g i j))), some (.int (nI (j + 1))), some (.int (nI (DD f g i (j + 1)))), some (.int (nI ((DD f g i j) + (chg (f i) (g j)))))]) (S' := [.int (nI (DD f g i (j + 1)) + nI 4)]) rfl (by decide +kernel) rfl ?_
        rw [nI_add (DD f g i (j + 1)) 4]
        refine Ev.goto (off := 5) (tgt := 117) (by decide +kernel) (by decide) ?_
        refine Ev.run [(.istore 11, 2), (.aload_n 0, 1), (.getfield 46, 3), (.iload 9, 2), (.iconst 1, 1), (.isub, 1)] (pc' := 127) (L' := [some (.ref 359), some (.ref q1), some (.int (nI a)), some (.int (nI n)), some (.ref q2), some (.int (nI o)), some (.int (nI m)), some (.int (nI (i + 1))), some (.int (nI (DD f g i j))), some (.int (nI (j + 1))), some (.int (nI (DD f g i (j + 1)))), some (.int (nI ((DD f g i (j + 1)) + 4)))]) (S' := [.int (nI (j + 1) - nI 1), .ref 372]) rfl (by decide +kernel) rfl ?_
        rw [show nI (j + 1) - nI 1 = nI j from zz_sub (by omega)]
        refine Ev.iald j (by decide +kernel) (rfl) (rfl) (by omega) (by first | decide | omega) ?_
        dsimp only
        rw [show (zz_cs I 372 h) 372 j = nI (DD f g (i + 1) j) from by rw [zz_cs_eq]; exact h1 j (by omega)]
        refine Ev.run [(.iconst 4, 1), (.iadd, 1)] (pc' := 130) (L' := [some (.ref 359), some (.ref q1), some (.int (nI a)), some (.int (nI n)), some (.ref q2), some (.int (nI o)), some (.int (nI m)), some (.int (nI (i + 1))), some (.int (nI (DD f g i j))), some (.int (nI (j + 1))), some (.int (nI (DD f g i (j + 1)))), some (.int (nI ((DD f g i (j + 1)) + 4)))]) (S' := [.int (nI (DD f g (i + 1) j) + nI 4)]) rfl (by decide +kernel) rfl ?_
        rw [nI_add (DD f g (i + 1) j) 4]
        refine Ev.run [(.iload 11, 2)] (pc' := 132) (L' := [some (.ref 359), some (.ref q1), some (.int (nI a)), some (.int (nI n)), some (.ref q2), some (.int (nI o)), some (.int (nI m)), some (.int (nI (i + 1))), some (.int (nI (DD f g i j))), some (.int (nI (j + 1))), some (.int (nI (DD f g i (j + 1)))), some (.int (nI ((DD f g i (j + 1)) + 4)))]) (S' := [.int (nI ((DD f g i (j + 1)) + 4)), .int (nI ((DD f g (i + 1) j) + 4))]) rfl (by decide +kernel) rfl ?_
        refine Ev.icmp_ge (off := 17) (tgt := 149) (by decide +kernel) (by decide) (fun h132 => ?_) (fun h132 => ?_)
        · have h132 : ((DD f g (i + 1) j) + 4) ≥ ((DD f g i (j + 1)) + 4) := zz_bG_t (by omega) (by omega) h132
          refine Ev.run [(.iload 11, 2), (.istore 11, 2)] (pc' := 153) (L' := [some (.ref 359), some (.ref q1), some (.int (nI a)), some (.int (nI n)), some (.ref q2), some (.int (nI o)), some (.int (nI m)), some (.int (nI (i + 1))), some (.int (nI (DD f g i j))), some (.int (nI (j + 1))), some (.int (nI (DD f g i (j + 1)))), some (.int (nI ((DD f g i (j + 1)) + 4)))]) (S' := []) rfl (by decide +kernel) rfl ?_
          have hv : (DD f g i (j + 1)) + 4 = DD f g (i + 1) (j + 1) := by rw [DD]; omega
          rw [hv]
          clear hv
          refine Ev.run [(.aload_n 0, 1), (.getfield 46, 3), (.iload 9, 2), (.iload 11, 2)] (pc' := 161) (L' := [some (.ref 359), some (.ref q1), some (.int (nI a)), some (.int (nI n)), some (.ref q2), some (.int (nI o)), some (.int (nI m)), some (.int (nI (i + 1))), some (.int (nI (DD f g i j))), some (.int (nI (j + 1))), some (.int (nI (DD f g i (j + 1)))), some (.int (nI (DD f g (i + 1) (j + 1))))]) (S' := [.int (nI (DD f g (i + 1) (j + 1))), .int (nI (j + 1)), .ref 372]) rfl (by decide +kernel) rfl ?_
          refine Ev.iast (j + 1) (by decide +kernel) (rfl) (rfl) (by omega) (by first | decide | omega) ?_
          dsimp only
          refine Ev.run [(.iload 10, 2), (.istore 8, 2), (.iinc 9 1, 3)] (pc' := 169) (L' := [some (.ref 359), some (.ref q1), some (.int (nI a)), some (.int (nI n)), some (.ref q2), some (.int (nI o)), some (.int (nI m)), some (.int (nI (i + 1))), some (.int (nI (DD f g i (j + 1)))), some (.int (nI (j + 1) + 1)), some (.int (nI (DD f g i (j + 1)))), some (.int (nI (DD f g (i + 1) (j + 1))))]) (S' := []) rfl (by decide +kernel) rfl ?_
          rw [nI_1 (j + 1)]
          refine Ev.goto (off := (-112)) (tgt := 57) (by decide +kernel) (by decide) ?_
          refine Ev.weakL (L' := [some (.ref 359), some (.ref q1), some (.int (nI a)), some (.int (nI n)), some (.ref q2), some (.int (nI o)), some (.int (nI m)), some (.int (nI (i + 1))), some (.int (nI (DD f g i (j + 1)))), some (.int (nI (j + 1 + 1))), none, none]) ⟨rfl, rfl, rfl, rfl, rfl, rfl, rfl, rfl, rfl, rfl, trivial⟩ ?_
          rw [zz_cs_up]
          refine ih (j + 1) (upd h (j + 1) (nI (DD f g (i + 1) (j + 1)))) (by omega) (by omega) (fun t ht => ?_) (fun t ht1 ht2 => ?_)
          · by_cases e : t = j + 1
            · subst e; rw [zz_ups]
            · rw [zz_upn e]; exact h1 t (by omega)
          · rw [zz_upn (by omega)]; exact h2 t (by omega) ht2
        · have h132 : ((DD f g (i + 1) j) + 4) < ((DD f g i (j + 1)) + 4) := zz_bG_f (by omega) (by omega) h132
          refine Ev.run [(.aload_n 0, 1), (.getfield 46, 3), (.iload 9, 2), (.iconst 1, 1), (.isub, 1)] (pc' := 143) (L' := [some (.ref 359), some (.ref q1), some (.int (nI a)), some (.int (nI n)), some (.ref q2), some (.int (nI o)), some (.int (nI m)), some (.int (nI (i + 1))), some (.int (nI (DD f g i j))), some (.int (nI (j + 1))), some (.int (nI (DD f g i (j + 1)))), some (.int (nI ((DD f g i (j + 1)) + 4)))]) (S' := [.int (nI (j + 1) - nI 1), .ref 372]) rfl (by decide +kernel) rfl ?_
          rw [show nI (j + 1) - nI 1 = nI j from zz_sub (by omega)]
          refine Ev.iald j (by decide +kernel) (rfl) (rfl) (by omega) (by first | decide | omega) ?_
          dsimp only
          rw [show (zz_cs I 372 h) 372 j = nI (DD f g (i + 1) j) from by rw [zz_cs_eq]; exact h1 j (by omega)]
          refine Ev.run [(.iconst 4, 1), (.iadd, 1)] (pc' := 146) (L' := [some (.ref 359), some (.ref q1), some (.int (nI a)), some (.int (nI n)), some (.ref q2), some (.int (nI o)), some (.int (nI m)), some (.int (nI (i + 1))), some (.int (nI (DD f g i j))), some (.int (nI (j + 1))), some (.int (nI (DD f g i (j + 1)))), some (.int (nI ((DD f g i (j + 1)) + 4)))]) (S' := [.int (nI (DD f g (i + 1) j) + nI 4)]) rfl (by decide +kernel) rfl ?_
          rw [nI_add (DD f g (i + 1) j) 4]
          refine Ev.goto (off := 5) (tgt := 151) (by decide +kernel) (by decide) ?_
          refine Ev.run [(.istore 11, 2)] (pc' := 153) (L' := [some (.ref 359), some (.ref q1), some (.int (nI a)), some (.int (nI n)), some (.ref q2), some (.int (nI o)), some (.int (nI m)), some (.int (nI (i + 1))), some (.int (nI (DD f g i j))), some (.int (nI (j + 1))), some (.int (nI (DD f g i (j + 1)))), some (.int (nI ((DD f g (i + 1) j) + 4)))]) (S' := []) rfl (by decide +kernel) rfl ?_
          have hv : (DD f g (i + 1) j) + 4 = DD f g (i + 1) (j + 1) := by rw [DD]; omega
          rw [hv]
          clear hv
          refine Ev.run [(.aload_n 0, 1), (.getfield 46, 3), (.iload 9, 2), (.iload 11, 2)] (pc' := 161) (L' := [some (.ref 359), some (.ref q1), some (.int (nI a)), some (.int (nI n)), some (.ref q2), some (.int (nI o)), some (.int (nI m)), some (.int (nI (i + 1))), some (.int (nI (DD f g i j))), some (.int (nI (j + 1))), some (.int (nI (DD f g i (j + 1)))), some (.int (nI (DD f g (i + 1) (j + 1))))]) (S' := [.int (nI (DD f g (i + 1) (j + 1))), .int (nI (j + 1)), .ref 372]) rfl (by decide +kernel) rfl ?_
          refine Ev.iast (j + 1) (by decide +kernel) (rfl) (rfl) (by omega) (by first | decide | omega) ?_
          dsimp only
          refine Ev.run [(.iload 10, 2), (.istore 8, 2), (.iinc 9 1, 3)] (pc' := 169) (L' := [some (.ref 359), some (.ref q1), some (.int (nI a)), some (.int (nI n)), some (.ref q2), some (.int (nI o)), some (.int (nI m)), some (.int (nI (i + 1))), some (.int (nI (DD f g i (j + 1)))), some (.int (nI (j + 1) + 1)), some (.int (nI (DD f g i (j + 1)))), some (.int (nI (DD f g (i + 1) (j + 1))))]) (S' := []) rfl (by decide +kernel) rfl ?_
          rw [nI_1 (j + 1)]
          refine Ev.goto (off := (-112)) (tgt := 57) (by decide +kernel) (by decide) ?_
          refine Ev.weakL (L' := [some (.ref 359), some (.ref q1), some (.int (nI a)), some (.int (nI n)), some (.ref q2), some (.int (nI o)), some (.int (nI m)), some (.int (nI (i + 1))), some (.int (nI (DD f g i (j + 1)))), some (.int (nI (j + 1 + 1))), none, none]) ⟨rfl, rfl, rfl, rfl, rfl, rfl, rfl, rfl, rfl, rfl, trivial⟩ ?_
          rw [zz_cs_up]
          refine ih (j + 1) (upd h (j + 1) (nI (DD f g (i + 1) (j + 1)))) (by omega) (by omega) (fun t ht => ?_) (fun t ht1 ht2 => ?_)
          · by_cases e : t = j + 1
            · subst e; rw [zz_ups]
            · rw [zz_upn e]; exact h1 t (by omega)
          · rw [zz_upn (by omega)]; exact h2 t (by omega) ht2

set_option maxRecDepth 100000 in
set_option maxHeartbeats 4000000 in
theorem l_X7_far2 {sc : Nat × (Nat → Int32)} {d : Nat} (I : Nat → Nat → Int32) (J : Nat → Nat → Int64) (q1 q2 n1 n2 a n o m : Nat) (f g : Nat → Nat) (hq1 : zz_SH[q1]? = some (.inr (0, n1, []))) (hq2 : zz_SH[q2]? = some (.inr (0, n2, []))) (hn1 : n1 < 1000) (hn2 : n2 < 1000) (han : a + n ≤ n1) (hom : o + m ≤ n2) (hn : n ≤ 12) (hm : m ≤ 12) (hf : ∀ i, i < n → I q1 (a + i) = nI (f i)) (hg : ∀ j, j < m → I q2 (o + j) = nI (g j)) (hfr : ∀ i, i < n → f i < 1000) (hgr : ∀ j, j < m → g j < 1000) (e1 : q1 ≠ 372) (e2 : q2 ≠ 372) : ∀ (μ : Nat) (i : Nat) (h : Nat → Int32), n - i < μ → (i ≤ n) → (∀ t, t ≤ m → h t = nI (DD f g i t)) →  Ev sc (d + 3) 0 0 mX7_farOf 30 [some (.ref 359), some (.ref q1), some (.int (nI a)), some (.int (nI n)), some (.ref q2), some (.int (nI o)), some (.int (nI m)), some (.int (nI (i + 1))), none, none, none, none] [] (zz_SH, zz_cs I 372 h, J) (fun r σ => r = some (.int (nI (DD f g n m))) ∧ ∃ h, σ = (zz_SH, zz_cs I 372 h, J)) := by
  intro μ
  induction μ with
  | zero => intro i h hμ; exact absurd hμ (Nat.not_lt_zero _)
  | succ μ ih =>
    intro i h hμ hi h1
    refine Ev.run [(.iload 7, 2), (.iload_n 3, 1)] (pc' := 33) (L' := [some (.ref 359), some (.ref q1), some (.int (nI a)), some (.int (nI n)), some (.ref q2), some (.int (nI o)), some (.int (nI m)), some (.int (nI (i + 1))), none, none, none, none]) (S' := [.int (nI n), .int (nI (i + 1))]) rfl (by decide +kernel) rfl ?_
    refine Ev.icmp_gt (off := 145) (tgt := 178) (by decide +kernel) (by decide) (fun h33 => ?_) (fun h33 => ?_)
    · have h33 : (i + 1) > n := zz_bL'_t (by omega) (by omega) h33
      have hin : n = i := by omega
      refine Ev.run [(.aload_n 0, 1), (.getfield 46, 3), (.iload 6, 2)] (pc' := 184) (L' := [some (.ref 359), some (.ref q1), some (.int (nI a)), some (.int (nI n)), some (.ref q2), some (.int (nI o)), some (.int (nI m)), some (.int (nI (i + 1))), none, none, none, none]) (S' := [.int (nI m), .ref 372]) rfl (by decide +kernel) rfl ?_
      refine Ev.iald m (by decide +kernel) (rfl) (rfl) (by omega) (by first | decide | omega) ?_
      dsimp only
      rw [show (zz_cs I 372 h) 372 m = nI (DD f g i m) from by rw [zz_cs_eq]; exact h1 m (Nat.le_refl m)]
      exact Ev.iret rfl (by decide +kernel) (⟨by rw [hin], h, rfl⟩)
    · have h33 : (i + 1) ≤ n := zz_bL'_f (by omega) (by omega) h33
      refine Ev.run [(.aload_n 0, 1), (.getfield 46, 3), (.iconst 0, 1)] (pc' := 41) (L' := [some (.ref 359), some (.ref q1), some (.int (nI a)), some (.int (nI n)), some (.ref q2), some (.int (nI o)), some (.int (nI m)), some (.int (nI (i + 1))), none, none, none, none]) (S' := [.int (nI 0), .ref 372]) rfl (by decide +kernel) rfl ?_
      refine Ev.iald 0 (by decide +kernel) (rfl) (rfl) (by omega) (by first | decide | omega) ?_
      dsimp only
      rw [show (zz_cs I 372 h) 372 0 = nI (DD f g i 0) from by rw [zz_cs_eq]; exact h1 0 (by omega)]
      refine Ev.run [(.istore 8, 2), (.aload_n 0, 1), (.getfield 46, 3), (.iconst 0, 1), (.iconst 4, 1), (.iload 7, 2), (.imul, 1)] (pc' := 53) (L' := [some (.ref 359), some (.ref q1), some (.int (nI a)), some (.int (nI n)), some (.ref q2), some (.int (nI o)), some (.int (nI m)), some (.int (nI (i + 1))), some (.int (nI (DD f g i 0))), none, none, none]) (S' := [.int (nI 4 * nI (i + 1)), .int (nI 0), .ref 372]) rfl (by decide +kernel) rfl ?_
      rw [pk_mul 4 (i + 1)]
      refine Ev.iast 0 (by decide +kernel) (rfl) (rfl) (by omega) (by first | decide | omega) ?_
      dsimp only
      refine Ev.run [(.iconst 1, 1), (.istore 9, 2)] (pc' := 57) (L' := [some (.ref 359), some (.ref q1), some (.int (nI a)), some (.int (nI n)), some (.ref q2), some (.int (nI o)), some (.int (nI m)), some (.int (nI (i + 1))), some (.int (nI (DD f g i 0))), some (.int (nI 1)), none, none]) (S' := []) rfl (by decide +kernel) rfl ?_
      rw [zz_cs_up]
      refine l_X7_far3 I J q1 q2 n1 n2 a n o m f g hq1 hq2 hn1 hn2 han hom hn hm hf hg hfr hgr e1 e2 i (by omega) ?_ (m + 1) 0 _ (by omega) (by omega) (fun t ht => ?_) (fun t ht1 ht2 => ?_)
      rotate_left
      · rw [show t = 0 by omega, zz_ups, DD_z]
      · rw [zz_upn (by omega)]; exact h1 t ht2
      intro h hh
      show Ev _ _ _ _ _ 172 [some (.ref 359), some (.ref q1), some (.int (nI a)), some (.int (nI n)), some (.ref q2), some (.int (nI o)), some (.int (nI m)), some (.int (nI (i + 1))), none, none, none, none] [] (zz_SH, zz_cs I 372 h, J) _
      refine Ev.run [(.iinc 7 1, 3)] (pc' := 175) (L' := [some (.ref 359), some (.ref q1), some (.int (nI a)), some (.int (nI n)), some (.ref q2), some (.int (nI o)), some (.int (nI m)), some (.int (nI (i + 1) + 1)), none, none, none, none]) (S' := []) rfl (by decide +kernel) rfl ?_
      rw [nI_1 (i + 1)]
      refine Ev.goto (off := (-145)) (tgt := 30) (by decide +kernel) (by decide) ?_
      exact ih (i + 1) h (by omega) (by omega) hh

set_option maxRecDepth 100000 in
set_option maxHeartbeats 4000000 in
theorem l_X7_far1 {sc : Nat × (Nat → Int32)} {d : Nat} (I : Nat → Nat → Int32) (J : Nat → Nat → Int64) (q1 q2 n1 n2 a n o m : Nat) (f g : Nat → Nat) (hq1 : zz_SH[q1]? = some (.inr (0, n1, []))) (hq2 : zz_SH[q2]? = some (.inr (0, n2, []))) (hn1 : n1 < 1000) (hn2 : n2 < 1000) (han : a + n ≤ n1) (hom : o + m ≤ n2) (hn : n ≤ 12) (hm : m ≤ 12) (hf : ∀ i, i < n → I q1 (a + i) = nI (f i)) (hg : ∀ j, j < m → I q2 (o + j) = nI (g j)) (hfr : ∀ i, i < n → f i < 1000) (hgr : ∀ j, j < m → g j < 1000) (e1 : q1 ≠ 372) (e2 : q2 ≠ 372) : ∀ (μ : Nat) (j : Nat) (h : Nat → Int32), m + 1 - j < μ → (j ≤ m + 1) → (∀ t, t < j → h t = nI (4 * t)) →  Ev sc (d + 3) 0 0 mX7_farOf 3 [some (.ref 359), some (.ref q1), some (.int (nI a)), some (.int (nI n)), some (.ref q2), some (.int (nI o)), some (.int (nI m)), some (.int (nI j)), none, none, none, none] [] (zz_SH, zz_cs I 372 h, J) (fun r σ => r = some (.int (nI (DD f g n m))) ∧ ∃ h, σ = (zz_SH, zz_cs I 372 h, J)) := by
  intro μ
  induction μ with
  | zero => intro j h hμ; exact absurd hμ (Nat.not_lt_zero _)
  | succ μ ih =>
    intro j h hμ hj h1
    refine Ev.run [(.iload 7, 2), (.iload 6, 2)] (pc' := 7) (L' := [some (.ref 359), some (.ref q1), some (.int (nI a)), some (.int (nI n)), some (.ref q2), some (.int (nI o)), some (.int (nI m)), some (.int (nI j)), none, none, none, none]) (S' := [.int (nI m), .int (nI j)]) rfl (by decide +kernel) rfl ?_
    refine Ev.icmp_gt (off := 20) (tgt := 27) (by decide +kernel) (by decide) (fun h7 => ?_) (fun h7 => ?_)
    · have h7 : j > m := zz_bL'_t (by omega) (by omega) h7
      refine Ev.run [(.iconst 1, 1), (.istore 7, 2)] (pc' := 30) (L' := [some (.ref 359), some (.ref q1), some (.int (nI a)), some (.int (nI n)), some (.ref q2), some (.int (nI o)), some (.int (nI m)), some (.int (nI 1)), none, none, none, none]) (S' := []) rfl (by decide +kernel) rfl ?_
      exact l_X7_far2 I J q1 q2 n1 n2 a n o m f g hq1 hq2 hn1 hn2 han hom hn hm hf hg hfr hgr e1 e2 (n + 1) 0 h (by omega) (by omega) (fun t ht => by rw [DD_0]; exact h1 t (by omega))
    · have h7 : j ≤ m := zz_bL'_f (by omega) (by omega) h7
      refine Ev.run [(.aload_n 0, 1), (.getfield 46, 3), (.iload 7, 2), (.iconst 4, 1), (.iload 7, 2), (.imul, 1)] (pc' := 20) (L' := [some (.ref 359), some (.ref q1), some (.int (nI a)), some (.int (nI n)), some (.ref q2), some (.int (nI o)), some (.int (nI m)), some (.int (nI j)), none, none, none, none]) (S' := [.int (nI 4 * nI j), .int (nI j), .ref 372]) rfl (by decide +kernel) rfl ?_
      rw [pk_mul 4 j]
      refine Ev.iast j (by decide +kernel) (rfl) (rfl) (by omega) (by first | decide | omega) ?_
      dsimp only
      refine Ev.run [(.iinc 7 1, 3)] (pc' := 24) (L' := [some (.ref 359), some (.ref q1), some (.int (nI a)), some (.int (nI n)), some (.ref q2), some (.int (nI o)), some (.int (nI m)), some (.int (nI j + 1)), none, none, none, none]) (S' := []) rfl (by decide +kernel) rfl ?_
      rw [nI_1 j]
      refine Ev.goto (off := (-21)) (tgt := 3) (by decide +kernel) (by decide) ?_
      rw [zz_cs_up]
      refine ih (j + 1) _ (by omega) (by omega) (fun t ht => ?_)
      by_cases e : t = j
      · subst e; rw [zz_ups]
      · rw [zz_upn e]; exact h1 t (by omega)

set_option maxRecDepth 100000 in
set_option maxHeartbeats 4000000 in
theorem c_X7_farOf {sc : Nat × (Nat → Int32)} {d : Nat} (I : Nat → Nat → Int32) (J : Nat → Nat → Int64) (q1 q2 n1 n2 a n o m : Nat) (f g : Nat → Nat) (hq1 : zz_SH[q1]? = some (.inr (0, n1, []))) (hq2 : zz_SH[q2]? = some (.inr (0, n2, []))) (hn1 : n1 < 1000) (hn2 : n2 < 1000) (han : a + n ≤ n1) (hom : o + m ≤ n2) (hn : n ≤ 12) (hm : m ≤ 12) (hf : ∀ i, i < n → I q1 (a + i) = nI (f i)) (hg : ∀ j, j < m → I q2 (o + j) = nI (g j)) (hfr : ∀ i, i < n → f i < 1000) (hgr : ∀ j, j < m → g j < 1000) (e1 : q1 ≠ 372) (e2 : q2 ≠ 372) : EvM sc (d + 3) 0 0 mX7_farOf [.ref 359, .ref q1, .int (nI a), .int (nI n), .ref q2, .int (nI o), .int (nI m)] (zz_SH, I, J) (fun r σ => r = some (.int (nI (DD f g n m))) ∧ ∃ h, σ = (zz_SH, zz_cs I 372 h, J)) := by
  refine EvM.of (by decide) rfl (Nat.le_of_ble_eq_true rfl) ?_
  show Ev _ _ _ _ _ 0 [some (.ref 359), some (.ref q1), some (.int (nI a)), some (.int (nI n)), some (.ref q2), some (.int (nI o)), some (.int (nI m)), none, none, none, none, none] [] (zz_SH, I, J) _
  refine Ev.run [(.iconst 0, 1), (.istore 7, 2)] (pc' := 3) (L' := [some (.ref 359), some (.ref q1), some (.int (nI a)), some (.int (nI n)), some (.ref q2), some (.int (nI o)), some (.int (nI m)), some (.int (nI 0)), none, none, none, none]) (S' := []) rfl (by decide +kernel) rfl ?_
  have h0 := l_X7_far1 (sc := sc) (d := d) I J q1 q2 n1 n2 a n o m f g hq1 hq2 hn1 hn2 han hom hn hm hf hg hfr hgr e1 e2 (m + 2) 0 (I 372) (by omega) (by omega) (fun t ht => absurd ht (Nat.not_lt_zero t))
  rw [zz_cs_id] at h0
  exact h0
end
section
/-! ===== the model: what a query may change ===== -/
def zSc (I I' : Nat → Nat → Int32) : Prop := (∀ c, c < 359 → I' c = I c) ∧ I' 360 = I 360 ∧ (∀ c, 361 ≤ c → c ≤ 371 → I' c = I c) ∧ I' 379 = I 379 ∧ I' 380 = I 380 ∧ I' 359 0 = I 359 0 ∧ I' 359 2 = I 359 2 ∧ I' 359 8 = I 359 8
theorem zSc.rf (I : Nat → Nat → Int32) : zSc I I := ⟨fun _ _ => rfl, rfl, fun _ _ _ => rfl, rfl, rfl, rfl, rfl, rfl⟩
theorem zSc.tr {I I' I'' : Nat → Nat → Int32} (h : zSc I I') (h' : zSc I' I'') : zSc I I'' := ⟨fun c hc => (h'.1 c hc).trans (h.1 c hc), h'.2.1.trans h.2.1, fun c h1 h2 => (h'.2.2.1 c h1 h2).trans (h.2.2.1 c h1 h2), h'.2.2.2.1.trans h.2.2.2.1, h'.2.2.2.2.1.trans h.2.2.2.2.1, h'.2.2.2.2.2.1.trans h.2.2.2.2.2.1, h'.2.2.2.2.2.2.1.trans h.2.2.2.2.2.2.1, h'.2.2.2.2.2.2.2.trans h.2.2.2.2.2.2.2⟩
theorem zSc.cs (I : Nat → Nat → Int32) (c : Nat) (h : Nat → Int32) (hc : 372 ≤ c ∧ c ≤ 378) : zSc I (zz_cs I c h) := ⟨fun x hx => zz_cs_ne (by omega), zz_cs_ne (by omega), fun x h1 h2 => zz_cs_ne (by omega), zz_cs_ne (by omega), zz_cs_ne (by omega), by rw [zz_cs_ne (by omega)], by rw [zz_cs_ne (by omega)], by rw [zz_cs_ne (by omega)]⟩
theorem zSc.fl (I : Nat → Nat → Int32) (j : Nat) (v : Int32) (hj : j ≠ 0 ∧ j ≠ 2 ∧ j ≠ 8) : zSc I (zz_up I 359 j v) := ⟨fun x hx => zz_up_ne (by omega), zz_up_ne (by omega), fun x h1 h2 => zz_up_ne (by omega), zz_up_ne (by omega), zz_up_ne (by omega), by rw [zz_up_eq, zz_upn (by omega)], by rw [zz_up_eq, zz_upn (by omega)], by rw [zz_up_eq, zz_upn (by omega)]⟩
theorem zSc.up (I : Nat → Nat → Int32) (c j : Nat) (v : Int32) (hc : 372 ≤ c ∧ c ≤ 378) : zSc I (zz_up I c j v) := by rw [zz_up_cs]; exact zSc.cs I c _ hc
theorem zSc.vm {I I' : Nat → Nat → Int32} (h : zSc I I') : zVm I' = zVm I := by
  funext c
  match c with
  | 0 =>
    funext j
    match j with
    | 0 => exact h.2.2.2.2.2.2.1
    | 1 => exact h.2.2.2.2.2.2.2
    | 2 => exact congrFun (h.2.2.1 370 (by decide) (by decide)) 0
    | _ + 3 => exact congrFun (h.2.2.1 370 (by decide) (by decide)) 1
  | 1 => exact h.2.2.1 361 (by decide) (by decide)
  | 2 => exact h.2.2.1 362 (by decide) (by decide)
  | 3 => exact h.2.2.1 363 (by decide) (by decide)
  | 4 => exact h.2.2.1 364 (by decide) (by decide)
  | 5 => exact h.2.2.1 365 (by decide) (by decide)
  | 6 => exact h.2.2.1 366 (by decide) (by decide)
  | 7 => exact h.2.2.1 367 (by decide) (by decide)
  | 8 => exact h.2.2.1 368 (by decide) (by decide)
  | 9 => exact h.2.2.1 369 (by decide) (by decide)
  | _ + 10 => exact h.2.2.1 371 (by decide) (by decide)
def zS1 (I I' : Nat → Nat → Int32) : Prop := ∀ c, c ≠ 372 → I' c = I c
theorem zS1.rf (I : Nat → Nat → Int32) : zS1 I I := fun _ _ => rfl
theorem zS1.tr {I I' I'' : Nat → Nat → Int32} (h : zS1 I I') (h' : zS1 I' I'') : zS1 I I'' := fun c hc => (h' c hc).trans (h c hc)
theorem zS1.cs (I : Nat → Nat → Int32) (h : Nat → Int32) : zS1 I (zz_cs I 372 h) := fun c hc => zz_cs_ne hc
theorem zS1.sc {I I' : Nat → Nat → Int32} (h : zS1 I I') : zSc I I' := ⟨fun c hc => h c (by omega), h 360 (by decide), fun c h1 h2 => h c (by omega), h 379 (by decide), h 380 (by decide), by rw [h 359 (by decide)], by rw [h 359 (by decide)], by rw [h 359 (by decide)]⟩
theorem zSc.mv {I I' : Nat → Nat → Int32} {A : zA} (h : zSc I I') (hV : MV (zVm I) A) : MV (zVm I') A := by rw [h.vm]; exact hV
theorem zS1.mv {I I' : Nat → Nat → Int32} {A : zA} (h : zS1 I I') (hV : MV (zVm I) A) : MV (zVm I') A := h.sc.mv hV

theorem zz_q {F n m : Nat} (hn : 1 ≤ n) (hF : F ≤ 4 * max n m) : 25 * F / max n m ≤ 100 := by
  have h2 : 0 < max n m := by omega
  exact Nat.le_of_lt_succ ((Nat.div_lt_iff_lt_mul h2).mpr (by omega))

set_option maxRecDepth 100000 in
set_option maxHeartbeats 4000000 in
theorem c_X7_like {sc : Nat × (Nat → Int32)} {d : Nat} (I : Nat → Nat → Int32) (J : Nat → Nat → Int64) (F n m : Nat) (hn : 1 ≤ n) (hn2 : n ≤ 12) (hm2 : m ≤ 12) (hF : F ≤ 4 * max n m) : EvM sc (d) 0 0 mX7_like [.int (nI F), .int (nI n), .int (nI m)] (zz_SH, I, J) (zz_is (.int (nI (100 - 25 * F / max n m))) (zz_SH, I, J)) := by
  refine EvM.of (by decide) rfl (Nat.le_of_ble_eq_true rfl) ?_
  show Ev _ _ _ _ _ 0 [some (.int (nI F)), some (.int (nI n)), some (.int (nI m))] [] (zz_SH, I, J) _
  refine Ev.run [(.bipush 100, 2), (.bipush 25, 2), (.iload_n 0, 1), (.imul, 1)] (pc' := 6) (L' := [some (.int (nI F)), some (.int (nI n)), some (.int (nI m))]) (S' := [.int (nI 25 * nI F), .int (nI 100)]) rfl (by decide +kernel) rfl ?_
  rw [pk_mul 25 F]
  refine Ev.run [(.iload_n 1, 1), (.iload_n 2, 1)] (pc' := 8) (L' := [some (.int (nI F)), some (.int (nI n)), some (.int (nI m))]) (S' := [.int (nI m), .int (nI n), .int (nI (25 * F)), .int (nI 100)]) rfl (by decide +kernel) rfl ?_
  refine Ev.icmp_le (off := 7) (tgt := 15) (by decide +kernel) (by decide) (fun h8 => ?_) (fun h8 => ?_)
  · have h8 : n ≤ m := zz_bG'_t (by omega) (by omega) h8
    refine Ev.run [(.iload_n 2, 1)] (pc' := 16) (L' := [some (.int (nI F)), some (.int (nI n)), some (.int (nI m))]) (S' := [.int (nI m), .int (nI (25 * F)), .int (nI 100)]) rfl (by decide +kernel) rfl ?_
    refine Ev.idiv (by decide +kernel) (nI_ne0 (by omega) (by omega)) ?_
    rw [show nI (25 * F) / nI m = nI (25 * F / m) from pk_div (by omega) (by omega) (by omega)]
    refine Ev.run [(.isub, 1)] (pc' := 18) (L' := [some (.int (nI F)), some (.int (nI n)), some (.int (nI m))]) (S' := [.int (nI 100 - nI (25 * F / m))]) rfl (by decide +kernel) rfl ?_
    rw [show nI 100 - nI (25 * F / m) = nI (100 - 25 * F / max n m) from by rw [show max n m = m by omega]; exact zz_sub (by have := zz_q (F := F) (n := n) (m := m) hn hF; rw [show max n m = m by omega] at this; omega)]
    exact Ev.iret rfl (by decide +kernel) (⟨rfl, rfl⟩)
  · have h8 : n > m := zz_bG'_f (by omega) (by omega) h8
    refine Ev.run [(.iload_n 1, 1)] (pc' := 12) (L' := [some (.int (nI F)), some (.int (nI n)), some (.int (nI m))]) (S' := [.int (nI n), .int (nI (25 * F)), .int (nI 100)]) rfl (by decide +kernel) rfl ?_
    refine Ev.goto (off := 4) (tgt := 16) (by decide +kernel) (by decide) ?_
    refine Ev.idiv (by decide +kernel) (nI_ne0 (by omega) (by omega)) ?_
    rw [show nI (25 * F) / nI n = nI (25 * F / n) from pk_div (by omega) (by omega) (by omega)]
    refine Ev.run [(.isub, 1)] (pc' := 18) (L' := [some (.int (nI F)), some (.int (nI n)), some (.int (nI m))]) (S' := [.int (nI 100 - nI (25 * F / n))]) rfl (by decide +kernel) rfl ?_
    rw [show nI 100 - nI (25 * F / n) = nI (100 - 25 * F / max n m) from by rw [show max n m = n by omega]; exact zz_sub (by have := zz_q (F := F) (n := n) (m := m) hn hF; rw [show max n m = n by omega] at this; omega)]
    exact Ev.iret rfl (by decide +kernel) (⟨rfl, rfl⟩)

set_option maxRecDepth 100000 in
set_option maxHeartbeats 4000000 in
theorem c_X7_far_in {sc : Nat × (Nat → Int32)} {d : Nat} (I : Nat → Nat → Int32) (J : Nat → Nat → Int64) (A : zA) (hV : MV (zVm I) A) (hW : WF A) (k o : Nat) (hk : k < aM A) (ho : o < aM A) : EvM sc (d + 4) 0 0 mX7_far [.ref 359, .int (nI k), .int (nI o)] (zz_SH, I, J) (fun r σ => r = some (.int (nI (DD (tt A k) (tt A o) (tz A k) (tz A o)))) ∧ ∃ I' : Nat → Nat → Int32, zS1 I I' ∧ σ = (zz_SH, I', J)) := by
  have w1 := hW.1.1
  have w2 := hW.1.2.1
  refine EvM.of (by decide) rfl (Nat.le_of_ble_eq_true rfl) ?_
  show Ev _ _ _ _ _ 0 [some (.ref 359), some (.int (nI k)), some (.int (nI o))] [] (zz_SH, I, J) _
  refine Ev.run [(.aload_n 0, 1), (.iload_n 1, 1)] (pc' := 2) (L' := [some (.ref 359), some (.int (nI k)), some (.int (nI o))]) (S' := [.int (nI k), .ref 359]) rfl (by decide +kernel) rfl ?_
  refine Ev.callV0 mX7_isSentence [.int (nI k)] [] _ rfl lk_RX7_107 (by decide +kernel) (rfl) rfl rfl rfl (Nat.le_of_ble_eq_true rfl) (c_X7_isSentence I J (aM A) (nI k) hV.1.2.1 (by omega)) ?_
  rintro _ _ ⟨rfl, ⟨rfl, h2⟩ | ⟨rfl, h2⟩⟩
  · show Ev _ _ _ _ _ 5 [some (.ref 359), some (.int (nI k)), some (.int (nI o))] [.int (nI 1)] (zz_SH, I, J) _
    refine Ev.if_eq (off := 11) (tgt := 16) (by decide +kernel) (by decide) (fun h5 => absurd h5 (by decide)) (fun h5 => ?_)
    refine Ev.run [(.aload_n 0, 1), (.iload_n 2, 1)] (pc' := 10) (L' := [some (.ref 359), some (.int (nI k)), some (.int (nI o))]) (S' := [.int (nI o), .ref 359]) rfl (by decide +kernel) rfl ?_
    refine Ev.callV0 mX7_isSentence [.int (nI o)] [] _ rfl lk_RX7_107 (by decide +kernel) (rfl) rfl rfl rfl (Nat.le_of_ble_eq_true rfl) (c_X7_isSentence I J (aM A) (nI o) hV.1.2.1 (by omega)) ?_
    rintro _ _ ⟨rfl, ⟨rfl, h10⟩ | ⟨rfl, h10⟩⟩
    · show Ev _ _ _ _ _ 13 [some (.ref 359), some (.int (nI k)), some (.int (nI o))] [.int (nI 1)] (zz_SH, I, J) _
      refine Ev.if_ne (off := 5) (tgt := 18) (by decide +kernel) (by decide) (fun h13 => ?_) (fun h13 => absurd h13 (by decide))
      refine Ev.run [(.aload_n 0, 1), (.aload_n 0, 1), (.getfield 31, 3), (.bipush 12, 2), (.iload_n 1, 1), (.imul, 1)] (pc' := 27) (L' := [some (.ref 359), some (.int (nI k)), some (.int (nI o))]) (S' := [.int (nI 12 * nI k), .ref 367, .ref 359]) rfl (by decide +kernel) rfl ?_
      rw [pk_mul 12 k]
      refine Ev.run [(.aload_n 0, 1), (.getfield 28, 3), (.iload_n 1, 1)] (pc' := 32) (L' := [some (.ref 359), some (.int (nI k)), some (.int (nI o))]) (S' := [.int (nI k), .ref 366, .int (nI (12 * k)), .ref 367, .ref 359]) rfl (by decide +kernel) rfl ?_
      refine Ev.iald k (by decide +kernel) (rfl) (rfl) (by omega) (by first | decide | omega) ?_
      dsimp only
      rw [show I 366 k = nI (tz A k) from (hV.2.2.1 k hk).1]
      refine Ev.run [(.aload_n 0, 1), (.getfield 31, 3), (.bipush 12, 2), (.iload_n 2, 1), (.imul, 1)] (pc' := 41) (L' := [some (.ref 359), some (.int (nI k)), some (.int (nI o))]) (S' := [.int (nI 12 * nI o), .ref 367, .int (nI (tz A k)), .int (nI (12 * k)), .ref 367, .ref 359]) rfl (by decide +kernel) rfl ?_
      rw [pk_mul 12 o]
      refine Ev.run [(.aload_n 0, 1), (.getfield 28, 3), (.iload_n 2, 1)] (pc' := 46) (L' := [some (.ref 359), some (.int (nI k)), some (.int (nI o))]) (S' := [.int (nI o), .ref 366, .int (nI (12 * o)), .ref 367, .int (nI (tz A k)), .int (nI (12 * k)), .ref 367, .ref 359]) rfl (by decide +kernel) rfl ?_
      refine Ev.iald o (by decide +kernel) (rfl) (rfl) (by omega) (by first | decide | omega) ?_
      dsimp only
      rw [show I 366 o = nI (tz A o) from (hV.2.2.1 o ho).1]
      refine Ev.callV0 mX7_farOf [.ref 367, .int (nI (12 * k)), .int (nI (tz A k)), .ref 367, .int (nI (12 * o)), .int (nI (tz A o))] [] _ rfl lk_RX7_110 (by decide +kernel) (rfl) rfl rfl rfl (Nat.le_of_ble_eq_true rfl) (c_X7_farOf I J 367 367 120 120 (12 * k) (tz A k) (12 * o) (tz A o) (tt A k) (tt A o) rfl rfl (by decide) (by decide) (by have := (hW.2.2.1 k hk).1; omega) (by have := (hW.2.2.1 o ho).1; omega) (hW.2.2.1 k hk).1.2 (hW.2.2.1 o ho).1.2 (hV.2.2.1 k hk).2 (hV.2.2.1 o ho).2 (fun i hi => by have := ((hW.2.2.1 k hk).2 i hi).2; omega) (fun i hi => by have := ((hW.2.2.1 o ho).2 i hi).2; omega) (by decide) (by decide)) ?_
      rintro _ _ ⟨rfl, hh, rfl⟩
      show Ev _ _ _ _ _ 50 [some (.ref 359), some (.int (nI k)), some (.int (nI o))] [.int (nI (DD (tt A k) (tt A o) (tz A k) (tz A o)))] (zz_SH, zz_cs I 372 hh, J) _
      exact Ev.iret rfl (by decide +kernel) (⟨rfl, _, zS1.cs I hh, rfl⟩)
    · exact absurd ⟨o, ho, rfl⟩ h10
  · exact absurd ⟨k, hk, rfl⟩ h2

set_option maxRecDepth 100000 in
set_option maxHeartbeats 4000000 in
theorem c_X7_far_out {sc : Nat × (Nat → Int32)} {d : Nat} (I : Nat → Nat → Int32) (J : Nat → Nat → Int64) (A : zA) (hV : MV (zVm I) A) (hW : WF A) (x y : Int32) (hxy : ¬ (zz_ix x (aM A) ∧ zz_ix y (aM A))) : EvM sc (d + 4) 0 0 mX7_far [.ref 359, .int x, .int y] (zz_SH, I, J) (zz_is (.int (-1)) (zz_SH, I, J)) := by
  have w1 := hW.1.1
  have w2 := hW.1.2.1
  refine EvM.of (by decide) rfl (Nat.le_of_ble_eq_true rfl) ?_
  show Ev _ _ _ _ _ 0 [some (.ref 359), some (.int x), some (.int y)] [] (zz_SH, I, J) _
  refine Ev.run [(.aload_n 0, 1), (.iload_n 1, 1)] (pc' := 2) (L' := [some (.ref 359), some (.int x), some (.int y)]) (S' := [.int x, .ref 359]) rfl (by decide +kernel) rfl ?_
  refine Ev.callV0 mX7_isSentence [.int x] [] _ rfl lk_RX7_107 (by decide +kernel) (rfl) rfl rfl rfl (Nat.le_of_ble_eq_true rfl) (c_X7_isSentence I J (aM A) x hV.1.2.1 (by omega)) ?_
  rintro _ _ ⟨rfl, ⟨rfl, h2⟩ | ⟨rfl, h2⟩⟩
  · show Ev _ _ _ _ _ 5 [some (.ref 359), some (.int x), some (.int y)] [.int (nI 1)] (zz_SH, I, J) _
    refine Ev.if_eq (off := 11) (tgt := 16) (by decide +kernel) (by decide) (fun h5 => absurd h5 (by decide)) (fun h5 => ?_)
    refine Ev.run [(.aload_n 0, 1), (.iload_n 2, 1)] (pc' := 10) (L' := [some (.ref 359), some (.int x), some (.int y)]) (S' := [.int y, .ref 359]) rfl (by decide +kernel) rfl ?_
    refine Ev.callV0 mX7_isSentence [.int y] [] _ rfl lk_RX7_107 (by decide +kernel) (rfl) rfl rfl rfl (Nat.le_of_ble_eq_true rfl) (c_X7_isSentence I J (aM A) y hV.1.2.1 (by omega)) ?_
    rintro _ _ ⟨rfl, ⟨rfl, h10⟩ | ⟨rfl, h10⟩⟩
    · exact absurd ⟨h2, h10⟩ hxy
    · show Ev _ _ _ _ _ 13 [some (.ref 359), some (.int x), some (.int y)] [.int (nI 0)] (zz_SH, I, J) _
      refine Ev.if_ne (off := 5) (tgt := 18) (by decide +kernel) (by decide) (fun h13 => absurd h13 (by decide)) (fun h13 => ?_)
      refine Ev.run [(.iconst (-1), 1)] (pc' := 17) (L' := [some (.ref 359), some (.int x), some (.int y)]) (S' := [.int ((-1))]) rfl (by decide +kernel) rfl ?_
      exact Ev.iret rfl (by decide +kernel) (⟨rfl, rfl⟩)
  · show Ev _ _ _ _ _ 5 [some (.ref 359), some (.int x), some (.int y)] [.int (nI 0)] (zz_SH, I, J) _
    refine Ev.if_eq (off := 11) (tgt := 16) (by decide +kernel) (by decide) (fun h5 => ?_) (fun h5 => absurd h5 (by decide))
    refine Ev.run [(.iconst (-1), 1)] (pc' := 17) (L' := [some (.ref 359), some (.int x), some (.int y)]) (S' := [.int ((-1))]) rfl (by decide +kernel) rfl ?_
    exact Ev.iret rfl (by decide +kernel) (⟨rfl, rfl⟩)

set_option maxRecDepth 100000 in
set_option maxHeartbeats 4000000 in
theorem c_X7_likeOf {sc : Nat × (Nat → Int32)} {d : Nat} (I : Nat → Nat → Int32) (J : Nat → Nat → Int64) (A : zA) (hV : MV (zVm I) A) (hW : WF A) (k o : Nat) (hk : k < aM A) (ho : o < aM A) : EvM sc (d + 5) 0 0 mX7_likeOf [.ref 359, .int (nI k), .int (nI o)] (zz_SH, I, J) (fun r σ => r = some (.int (nI (lkT A k o))) ∧ ∃ I' : Nat → Nat → Int32, zS1 I I' ∧ σ = (zz_SH, I', J)) := by
  have w1 := hW.1.1
  have w2 := hW.1.2.1
  refine EvM.of (by decide) rfl (Nat.le_of_ble_eq_true rfl) ?_
  show Ev _ _ _ _ _ 0 [some (.ref 359), some (.int (nI k)), some (.int (nI o))] [] (zz_SH, I, J) _
  refine Ev.run [(.aload_n 0, 1), (.iload_n 1, 1), (.iload_n 2, 1)] (pc' := 3) (L' := [some (.ref 359), some (.int (nI k)), some (.int (nI o))]) (S' := [.int (nI o), .int (nI k), .ref 359]) rfl (by decide +kernel) rfl ?_
  refine Ev.callV0 mX7_far [.int (nI k), .int (nI o)] [] _ rfl lk_RX7_114 (by decide +kernel) (rfl) rfl rfl rfl (Nat.le_of_ble_eq_true rfl) (c_X7_far_in I J A hV hW k o hk ho) ?_
  rintro _ _ ⟨rfl, I1, hs_I1, rfl⟩
  have hV1 := hs_I1.mv hV
  show Ev _ _ _ _ _ 6 [some (.ref 359), some (.int (nI k)), some (.int (nI o))] [.int (nI (DD (tt A k) (tt A o) (tz A k) (tz A o)))] (zz_SH, I1, J) _
  refine Ev.run [(.aload_n 0, 1), (.getfield 28, 3), (.iload_n 1, 1)] (pc' := 11) (L' := [some (.ref 359), some (.int (nI k)), some (.int (nI o))]) (S' := [.int (nI k), .ref 366, .int (nI (DD (tt A k) (tt A o) (tz A k) (tz A o)))]) rfl (by decide +kernel) rfl ?_
  refine Ev.iald k (by decide +kernel) (rfl) (rfl) (by omega) (by first | decide | omega) ?_
  dsimp only
  rw [show I1 366 k = nI (tz A k) from (hV1.2.2.1 k hk).1]
  refine Ev.run [(.aload_n 0, 1), (.getfield 28, 3), (.iload_n 2, 1)] (pc' := 17) (L' := [some (.ref 359), some (.int (nI k)), some (.int (nI o))]) (S' := [.int (nI o), .ref 366, .int (nI (tz A k)), .int (nI (DD (tt A k) (tt A o) (tz A k) (tz A o)))]) rfl (by decide +kernel) rfl ?_
  refine Ev.iald o (by decide +kernel) (rfl) (rfl) (by omega) (by first | decide | omega) ?_
  dsimp only
  rw [show I1 366 o = nI (tz A o) from (hV1.2.2.1 o ho).1]
  refine Ev.callS0 mX7_like [.int (nI (DD (tt A k) (tt A o) (tz A k) (tz A o))), .int (nI (tz A k)), .int (nI (tz A o))] [] _ rfl lk_RX7_117 (by decide +kernel) rfl (Nat.le_of_ble_eq_true rfl) (c_X7_like I1 J (DD (tt A k) (tt A o) (tz A k) (tz A o)) (tz A k) (tz A o) (hW.2.2.1 k hk).1.1 (hW.2.2.1 k hk).1.2 (hW.2.2.1 o ho).1.2 (DD_le _ _ _ _)) ?_
  rintro _ _ ⟨rfl, rfl⟩
  show Ev _ _ _ _ _ 21 [some (.ref 359), some (.int (nI k)), some (.int (nI o))] [.int (nI (100 - 25 * DD (tt A k) (tt A o) (tz A k) (tz A o) / max (tz A k) (tz A o)))] (zz_SH, I1, J) _
  exact Ev.iret rfl (by decide +kernel) (⟨rfl, I1, hs_I1, rfl⟩)

set_option maxRecDepth 100000 in
set_option maxHeartbeats 4000000 in
theorem c_X7_likePair {sc : Nat × (Nat → Int32)} {d : Nat} (I : Nat → Nat → Int32) (J : Nat → Nat → Int64) (A : zA) (hV : MV (zVm I) A) (hW : WF A) (k p : Nat) (hk : k < aM A) (hp : p < aN A) : EvM sc (d + 4) 0 0 mX7_likePair [.ref 359, .int (nI k), .int (nI p)] (zz_SH, I, J) (fun r σ => r = some (.int (nI (lkP A k p))) ∧ ∃ I' : Nat → Nat → Int32, zS1 I I' ∧ σ = (zz_SH, I', J)) := by
  have w1 := hW.1.1
  have w2 := hW.1.2.1
  refine EvM.of (by decide) rfl (Nat.le_of_ble_eq_true rfl) ?_
  show Ev _ _ _ _ _ 0 [some (.ref 359), some (.int (nI k)), some (.int (nI p))] [] (zz_SH, I, J) _
  refine Ev.run [(.aload_n 0, 1), (.aload_n 0, 1), (.getfield 31, 3), (.bipush 12, 2), (.iload_n 1, 1), (.imul, 1)] (pc' := 9) (L' := [some (.ref 359), some (.int (nI k)), some (.int (nI p))]) (S' := [.int (nI 12 * nI k), .ref 367, .ref 359]) rfl (by decide +kernel) rfl ?_
  rw [pk_mul 12 k]
  refine Ev.run [(.aload_n 0, 1), (.getfield 28, 3), (.iload_n 1, 1)] (pc' := 14) (L' := [some (.ref 359), some (.int (nI k)), some (.int (nI p))]) (S' := [.int (nI k), .ref 366, .int (nI (12 * k)), .ref 367, .ref 359]) rfl (by decide +kernel) rfl ?_
  refine Ev.iald k (by decide +kernel) (rfl) (rfl) (by omega) (by first | decide | omega) ?_
  dsimp only
  rw [show I 366 k = nI (tz A k) from (hV.2.2.1 k hk).1]
  refine Ev.run [(.aload_n 0, 1), (.getfield 22, 3), (.bipush 12, 2), (.iload_n 2, 1), (.imul, 1)] (pc' := 23) (L' := [some (.ref 359), some (.int (nI k)), some (.int (nI p))]) (S' := [.int (nI 12 * nI p), .ref 364, .int (nI (tz A k)), .int (nI (12 * k)), .ref 367, .ref 359]) rfl (by decide +kernel) rfl ?_
  rw [pk_mul 12 p]
  refine Ev.run [(.aload_n 0, 1), (.getfield 16, 3), (.iload_n 2, 1)] (pc' := 28) (L' := [some (.ref 359), some (.int (nI k)), some (.int (nI p))]) (S' := [.int (nI p), .ref 362, .int (nI (12 * p)), .ref 364, .int (nI (tz A k)), .int (nI (12 * k)), .ref 367, .ref 359]) rfl (by decide +kernel) rfl ?_
  refine Ev.iald p (by decide +kernel) (rfl) (rfl) (by omega) (by first | decide | omega) ?_
  dsimp only
  rw [show I 362 p = nI (fz A p) from (hV.2.1 p hp).2.1]
  refine Ev.callV0 mX7_farOf [.ref 367, .int (nI (12 * k)), .int (nI (tz A k)), .ref 364, .int (nI (12 * p)), .int (nI (fz A p))] [] _ rfl lk_RX7_110 (by decide +kernel) (rfl) rfl rfl rfl (Nat.le_of_ble_eq_true rfl) (c_X7_farOf I J 367 364 120 144 (12 * k) (tz A k) (12 * p) (fz A p) (tt A k) (ff A p) rfl rfl (by decide) (by decide) (by have := (hW.2.2.1 k hk).1; omega) (by have := (hW.2.1 p hp).1; omega) (hW.2.2.1 k hk).1.2 (hW.2.1 p hp).1.2.1 (hV.2.2.1 k hk).2 (hV.2.1 p hp).2.2.2.1 (fun i hi => by have := ((hW.2.2.1 k hk).2 i hi).2; omega) (fun i hi => by have := ((hW.2.1 p hp).2.1 i hi).2; omega) (by decide) (by decide)) ?_
  rintro _ _ ⟨rfl, hh, rfl⟩
  have hs_1 := zS1.cs I hh
  have hV1 := hs_1.mv hV
  show Ev _ _ _ _ _ 32 [some (.ref 359), some (.int (nI k)), some (.int (nI p))] [.int (nI (DD (tt A k) (ff A p) (tz A k) (fz A p)))] (zz_SH, zz_cs I 372 hh, J) _
  refine Ev.run [(.aload_n 0, 1), (.getfield 28, 3), (.iload_n 1, 1)] (pc' := 37) (L' := [some (.ref 359), some (.int (nI k)), some (.int (nI p))]) (S' := [.int (nI k), .ref 366, .int (nI (DD (tt A k) (ff A p) (tz A k) (fz A p)))]) rfl (by decide +kernel) rfl ?_
  refine Ev.iald k (by decide +kernel) (rfl) (rfl) (by omega) (by first | decide | omega) ?_
  dsimp only
  rw [show (zz_cs I 372 hh) 366 k = nI (tz A k) from (hV1.2.2.1 k hk).1]
  refine Ev.run [(.aload_n 0, 1), (.getfield 16, 3), (.iload_n 2, 1)] (pc' := 43) (L' := [some (.ref 359), some (.int (nI k)), some (.int (nI p))]) (S' := [.int (nI p), .ref 362, .int (nI (tz A k)), .int (nI (DD (tt A k) (ff A p) (tz A k) (fz A p)))]) rfl (by decide +kernel) rfl ?_
  refine Ev.iald p (by decide +kernel) (rfl) (rfl) (by omega) (by first | decide | omega) ?_
  dsimp only
  rw [show (zz_cs I 372 hh) 362 p = nI (fz A p) from (hV1.2.1 p hp).2.1]
  refine Ev.callS0 mX7_like [.int (nI (DD (tt A k) (ff A p) (tz A k) (fz A p))), .int (nI (tz A k)), .int (nI (fz A p))] [] _ rfl lk_RX7_117 (by decide +kernel) rfl (Nat.le_of_ble_eq_true rfl) (c_X7_like (zz_cs I 372 hh) J (DD (tt A k) (ff A p) (tz A k) (fz A p)) (tz A k) (fz A p) (hW.2.2.1 k hk).1.1 (hW.2.2.1 k hk).1.2 (hW.2.1 p hp).1.2.1 (DD_le _ _ _ _)) ?_
  rintro _ _ ⟨rfl, rfl⟩
  show Ev _ _ _ _ _ 47 [some (.ref 359), some (.int (nI k)), some (.int (nI p))] [.int (nI (100 - 25 * DD (tt A k) (ff A p) (tz A k) (fz A p) / max (tz A k) (fz A p)))] (zz_SH, zz_cs I 372 hh, J) _
  exact Ev.iret rfl (by decide +kernel) (⟨rfl, _, hs_1, rfl⟩)
end
section
/-! ===== the model: matches ===== -/
theorem mtc_ne {A : zA} {k p : Nat} (h : ¬ lkP A k p = 100) : mtc A k p = lkP A k p := by
  unfold mtc
  exact if_neg h
theorem mtc_no {A : zA} {k p : Nat} (h : lkP A k p = 100) (hb : aB A p = none) : mtc A k p = lkP A k p := by
  unfold mtc
  rw [if_pos h, h]
  simp only [hb]
theorem mtc_0 {A : zA} {k p : Nat} (h : lkP A k p = 100) (hk : k ≤ 0) : mtc A k p = lkP A k p := by
  have e : k = 0 := by omega
  subst e
  unfold mtc
  rw [if_pos h, h]
  cases aB A p <;> rfl
theorem mtc_y {A : zA} {k p q : Nat} (h : lkP A k p = 100) (hb : aB A p = some q) (hk : 0 < k) (h2 : lkP A (k - 1) q = 100) : mtc A k p = 101 := by
  obtain ⟨j, rfl⟩ : ∃ j, k = j + 1 := ⟨k - 1, by omega⟩
  unfold mtc
  rw [if_pos h]
  simp only [hb]
  exact if_pos h2
theorem mtc_n {A : zA} {k p q : Nat} (h : lkP A k p = 100) (hb : aB A p = some q) (hk : 0 < k) (h2 : ¬ lkP A (k - 1) q = 100) : mtc A k p = lkP A k p := by
  obtain ⟨j, rfl⟩ : ∃ j, k = j + 1 := ⟨k - 1, by omega⟩
  unfold mtc
  rw [if_pos h, h]
  simp only [hb]
  exact if_neg h2

set_option maxRecDepth 100000 in
set_option maxHeartbeats 4000000 in
theorem c_X7_matchOf_n {sc : Nat × (Nat → Int32)} {d : Nat} (I : Nat → Nat → Int32) (J : Nat → Nat → Int64) (A : zA) (hV : MV (zVm I) A) (hW : WF A) (k p : Nat) (hk : k < aM A) (hp : p < aN A) (hb : aB A p = none) : EvM sc (d + 5) 0 0 mX7_matchOf [.ref 359, .int (nI k), .int (nI p)] (zz_SH, I, J) (fun r σ => r = some (.int (nI (mtc A k p))) ∧ ∃ I' : Nat → Nat → Int32, zS1 I I' ∧ σ = (zz_SH, I', J)) := by
  have w1 := hW.1.1
  have w2 := hW.1.2.1
  refine EvM.of (by decide) rfl (Nat.le_of_ble_eq_true rfl) ?_
  show Ev _ _ _ _ _ 0 [some (.ref 359), some (.int (nI k)), some (.int (nI p)), none, none] [] (zz_SH, I, J) _
  refine Ev.run [(.aload_n 0, 1), (.iload_n 1, 1), (.iload_n 2, 1)] (pc' := 3) (L' := [some (.ref 359), some (.int (nI k)), some (.int (nI p)), none, none]) (S' := [.int (nI p), .int (nI k), .ref 359]) rfl (by decide +kernel) rfl ?_
  refine Ev.callV0 mX7_likePair [.int (nI k), .int (nI p)] [] _ rfl lk_RX7_121 (by decide +kernel) (rfl) rfl rfl rfl (Nat.le_of_ble_eq_true rfl) (c_X7_likePair I J A hV hW k p hk hp) ?_
  rintro _ _ ⟨rfl, I1, hs_I1, rfl⟩
  have hV1 := hs_I1.mv hV
  have b1 := lik_le (tt A k) (tz A k) (ff A p) (fz A p)
  have b1 : lkP A k p ≤ 100 := b1
  show Ev _ _ _ _ _ 6 [some (.ref 359), some (.int (nI k)), some (.int (nI p)), none, none] [.int (nI (lkP A k p))] (zz_SH, I1, J) _
  refine Ev.run [(.istore_n 3, 1), (.iload_n 3, 1), (.bipush 100, 2)] (pc' := 10) (L' := [some (.ref 359), some (.int (nI k)), some (.int (nI p)), some (.int (nI (lkP A k p))), none]) (S' := [.int (nI 100), .int (nI (lkP A k p))]) rfl (by decide +kernel) rfl ?_
  refine Ev.icmp_ne (off := 38) (tgt := 48) (by decide +kernel) (by decide) (fun h10 => ?_) (fun h10 => ?_)
  · have h10 : ¬ (lkP A k p) = 100 := zz_bE_f (by omega) (by omega) h10
    refine Ev.run [(.iconst 0, 1), (.istore 4, 2), (.iload 4, 2)] (pc' := 53) (L' := [some (.ref 359), some (.int (nI k)), some (.int (nI p)), some (.int (nI (lkP A k p))), some (.int (nI 0))]) (S' := [.int (nI 0)]) rfl (by decide +kernel) rfl ?_
    refine Ev.if_eq (off := 8) (tgt := 61) (by decide +kernel) (by decide) (fun h53 => ?_) (fun h53 => absurd h53 (by decide))
    refine Ev.run [(.iload_n 3, 1)] (pc' := 62) (L' := [some (.ref 359), some (.int (nI k)), some (.int (nI p)), some (.int (nI (lkP A k p))), some (.int (nI 0))]) (S' := [.int (nI (lkP A k p))]) rfl (by decide +kernel) rfl ?_
    exact Ev.iret rfl (by decide +kernel) (⟨by rw [mtc_ne h10], I1, hs_I1, rfl⟩)
  · have h10 : (lkP A k p) = 100 := zz_bE_t (by omega) (by omega) h10
    refine Ev.run [(.aload_n 0, 1), (.getfield 13, 3), (.iload_n 2, 1)] (pc' := 18) (L' := [some (.ref 359), some (.int (nI k)), some (.int (nI p)), some (.int (nI (lkP A k p))), none]) (S' := [.int (nI p), .ref 361]) rfl (by decide +kernel) rfl ?_
    refine Ev.iald p (by decide +kernel) (rfl) (rfl) (by omega) (by first | decide | omega) ?_
    dsimp only
    rw [show I1 361 p = (-6) from by rw [show I1 361 p = ob (aB A p) from (hV1.2.1 p hp).1, hb]; rfl]
    refine Ev.if_lt (off := 29) (tgt := 48) (by decide +kernel) (by decide) (fun h19 => ?_) (fun h19 => absurd h19 (by decide))
    refine Ev.run [(.iconst 0, 1), (.istore 4, 2), (.iload 4, 2)] (pc' := 53) (L' := [some (.ref 359), some (.int (nI k)), some (.int (nI p)), some (.int (nI (lkP A k p))), some (.int (nI 0))]) (S' := [.int (nI 0)]) rfl (by decide +kernel) rfl ?_
    refine Ev.if_eq (off := 8) (tgt := 61) (by decide +kernel) (by decide) (fun h53 => ?_) (fun h53 => absurd h53 (by decide))
    refine Ev.run [(.iload_n 3, 1)] (pc' := 62) (L' := [some (.ref 359), some (.int (nI k)), some (.int (nI p)), some (.int (nI (lkP A k p))), some (.int (nI 0))]) (S' := [.int (nI (lkP A k p))]) rfl (by decide +kernel) rfl ?_
    exact Ev.iret rfl (by decide +kernel) (⟨by rw [mtc_no h10 hb], I1, hs_I1, rfl⟩)

set_option maxRecDepth 100000 in
set_option maxHeartbeats 4000000 in
theorem c_X7_matchOf_s {sc : Nat × (Nat → Int32)} {d : Nat} (I : Nat → Nat → Int32) (J : Nat → Nat → Int64) (A : zA) (hV : MV (zVm I) A) (hW : WF A) (k p : Nat) (hk : k < aM A) (hp : p < aN A) (q : Nat) (hb : aB A p = some q) : EvM sc (d + 5) 0 0 mX7_matchOf [.ref 359, .int (nI k), .int (nI p)] (zz_SH, I, J) (fun r σ => r = some (.int (nI (mtc A k p))) ∧ ∃ I' : Nat → Nat → Int32, zS1 I I' ∧ σ = (zz_SH, I', J)) := by
  have w1 := hW.1.1
  have w2 := hW.1.2.1
  have hqp := (hW.2.1 p hp).2.2.2 q hb
  refine EvM.of (by decide) rfl (Nat.le_of_ble_eq_true rfl) ?_
  show Ev _ _ _ _ _ 0 [some (.ref 359), some (.int (nI k)), some (.int (nI p)), none, none] [] (zz_SH, I, J) _
  refine Ev.run [(.aload_n 0, 1), (.iload_n 1, 1), (.iload_n 2, 1)] (pc' := 3) (L' := [some (.ref 359), some (.int (nI k)), some (.int (nI p)), none, none]) (S' := [.int (nI p), .int (nI k), .ref 359]) rfl (by decide +kernel) rfl ?_
  refine Ev.callV0 mX7_likePair [.int (nI k), .int (nI p)] [] _ rfl lk_RX7_121 (by decide +kernel) (rfl) rfl rfl rfl (Nat.le_of_ble_eq_true rfl) (c_X7_likePair I J A hV hW k p hk hp) ?_
  rintro _ _ ⟨rfl, I1, hs_I1, rfl⟩
  have hV1 := hs_I1.mv hV
  have b1 := lik_le (tt A k) (tz A k) (ff A p) (fz A p)
  have b1 : lkP A k p ≤ 100 := b1
  show Ev _ _ _ _ _ 6 [some (.ref 359), some (.int (nI k)), some (.int (nI p)), none, none] [.int (nI (lkP A k p))] (zz_SH, I1, J) _
  refine Ev.run [(.istore_n 3, 1), (.iload_n 3, 1), (.bipush 100, 2)] (pc' := 10) (L' := [some (.ref 359), some (.int (nI k)), some (.int (nI p)), some (.int (nI (lkP A k p))), none]) (S' := [.int (nI 100), .int (nI (lkP A k p))]) rfl (by decide +kernel) rfl ?_
  refine Ev.icmp_ne (off := 38) (tgt := 48) (by decide +kernel) (by decide) (fun h10 => ?_) (fun h10 => ?_)
  · have h10 : ¬ (lkP A k p) = 100 := zz_bE_f (by omega) (by omega) h10
    refine Ev.run [(.iconst 0, 1), (.istore 4, 2), (.iload 4, 2)] (pc' := 53) (L' := [some (.ref 359), some (.int (nI k)), some (.int (nI p)), some (.int (nI (lkP A k p))), some (.int (nI 0))]) (S' := [.int (nI 0)]) rfl (by decide +kernel) rfl ?_
    refine Ev.if_eq (off := 8) (tgt := 61) (by decide +kernel) (by decide) (fun h53 => ?_) (fun h53 => absurd h53 (by decide))
    refine Ev.run [(.iload_n 3, 1)] (pc' := 62) (L' := [some (.ref 359), some (.int (nI k)), some (.int (nI p)), some (.int (nI (lkP A k p))), some (.int (nI 0))]) (S' := [.int (nI (lkP A k p))]) rfl (by decide +kernel) rfl ?_
    exact Ev.iret rfl (by decide +kernel) (⟨by rw [mtc_ne h10], I1, hs_I1, rfl⟩)
  · have h10 : (lkP A k p) = 100 := zz_bE_t (by omega) (by omega) h10
    refine Ev.run [(.aload_n 0, 1), (.getfield 13, 3), (.iload_n 2, 1)] (pc' := 18) (L' := [some (.ref 359), some (.int (nI k)), some (.int (nI p)), some (.int (nI (lkP A k p))), none]) (S' := [.int (nI p), .ref 361]) rfl (by decide +kernel) rfl ?_
    refine Ev.iald p (by decide +kernel) (rfl) (rfl) (by omega) (by first | decide | omega) ?_
    dsimp only
    rw [show I1 361 p = nI q from by rw [show I1 361 p = ob (aB A p) from (hV1.2.1 p hp).1, hb]; rfl]
    refine Ev.if_lt (off := 29) (tgt := 48) (by decide +kernel) (by decide) (fun h19 => ?_) (fun h19 => ?_)
    · have h19 : q < 0 := zz_bL_t (by omega) (by omega) h19
      exfalso; omega
    · have h19 : q ≥ 0 := zz_bL_f (by omega) (by omega) h19
      refine Ev.run [(.iload_n 1, 1)] (pc' := 23) (L' := [some (.ref 359), some (.int (nI k)), some (.int (nI p)), some (.int (nI (lkP A k p))), none]) (S' := [.int (nI k)]) rfl (by decide +kernel) rfl ?_
      refine Ev.if_le (off := 25) (tgt := 48) (by decide +kernel) (by decide) (fun h23 => ?_) (fun h23 => ?_)
      · have h23 : k ≤ 0 := zz_bG'_t (by omega) (by omega) h23
        refine Ev.run [(.iconst 0, 1), (.istore 4, 2), (.iload 4, 2)] (pc' := 53) (L' := [some (.ref 359), some (.int (nI k)), some (.int (nI p)), some (.int (nI (lkP A k p))), some (.int (nI 0))]) (S' := [.int (nI 0)]) rfl (by decide +kernel) rfl ?_
        refine Ev.if_eq (off := 8) (tgt := 61) (by decide +kernel) (by decide) (fun h53 => ?_) (fun h53 => absurd h53 (by decide))
        refine Ev.run [(.iload_n 3, 1)] (pc' := 62) (L' := [some (.ref 359), some (.int (nI k)), some (.int (nI p)), some (.int (nI (lkP A k p))), some (.int (nI 0))]) (S' := [.int (nI (lkP A k p))]) rfl (by decide +kernel) rfl ?_
        exact Ev.iret rfl (by decide +kernel) (⟨by rw [mtc_0 h10 h23], I1, hs_I1, rfl⟩)
      · have h23 : k > 0 := zz_bG'_f (by omega) (by omega) h23
        refine Ev.run [(.aload_n 0, 1), (.iload_n 1, 1), (.iconst 1, 1), (.isub, 1)] (pc' := 30) (L' := [some (.ref 359), some (.int (nI k)), some (.int (nI p)), some (.int (nI (lkP A k p))), none]) (S' := [.int (nI k - nI 1), .ref 359]) rfl (by decide +kernel) rfl ?_
        rw [show nI k - nI 1 = nI (k - 1) from zz_sub (by omega)]
        refine Ev.run [(.aload_n 0, 1), (.getfield 13, 3), (.iload_n 2, 1)] (pc' := 35) (L' := [some (.ref 359), some (.int (nI k)), some (.int (nI p)), some (.int (nI (lkP A k p))), none]) (S' := [.int (nI p), .ref 361, .int (nI (k - 1)), .ref 359]) rfl (by decide +kernel) rfl ?_
        refine Ev.iald p (by decide +kernel) (rfl) (rfl) (by omega) (by first | decide | omega) ?_
        dsimp only
        rw [show I1 361 p = nI q from by rw [show I1 361 p = ob (aB A p) from (hV1.2.1 p hp).1, hb]; rfl]
        refine Ev.callV0 mX7_likePair [.int (nI (k - 1)), .int (nI q)] [] _ rfl lk_RX7_121 (by decide +kernel) (rfl) rfl rfl rfl (Nat.le_of_ble_eq_true rfl) (c_X7_likePair I1 J A hV1 hW (k - 1) q (by omega) (by omega)) ?_
        rintro _ _ ⟨rfl, I2, hs_I2, rfl⟩
        have b2 : lkP A (k - 1) q ≤ 100 := lik_le _ _ _ _
        show Ev _ _ _ _ _ 39 [some (.ref 359), some (.int (nI k)), some (.int (nI p)), some (.int (nI (lkP A k p))), none] [.int (nI (lkP A (k - 1) q))] (zz_SH, I2, J) _
        refine Ev.run [(.bipush 100, 2)] (pc' := 41) (L' := [some (.ref 359), some (.int (nI k)), some (.int (nI p)), some (.int (nI (lkP A k p))), none]) (S' := [.int (nI 100), .int (nI (lkP A (k - 1) q))]) rfl (by decide +kernel) rfl ?_
        refine Ev.icmp_ne (off := 7) (tgt := 48) (by decide +kernel) (by decide) (fun h41 => ?_) (fun h41 => ?_)
        · have h41 : ¬ (lkP A (k - 1) q) = 100 := zz_bE_f (by omega) (by omega) h41
          refine Ev.run [(.iconst 0, 1), (.istore 4, 2), (.iload 4, 2)] (pc' := 53) (L' := [some (.ref 359), some (.int (nI k)), some (.int (nI p)), some (.int (nI (lkP A k p))), some (.int (nI 0))]) (S' := [.int (nI 0)]) rfl (by decide +kernel) rfl ?_
          refine Ev.if_eq (off := 8) (tgt := 61) (by decide +kernel) (by decide) (fun h53 => ?_) (fun h53 => absurd h53 (by decide))
          refine Ev.run [(.iload_n 3, 1)] (pc' := 62) (L' := [some (.ref 359), some (.int (nI k)), some (.int (nI p)), some (.int (nI (lkP A k p))), some (.int (nI 0))]) (S' := [.int (nI (lkP A k p))]) rfl (by decide +kernel) rfl ?_
          exact Ev.iret rfl (by decide +kernel) (⟨by rw [mtc_n h10 hb (by omega) h41], I2, hs_I1.tr hs_I2, rfl⟩)
        · have h41 : (lkP A (k - 1) q) = 100 := zz_bE_t (by omega) (by omega) h41
          refine Ev.run [(.iconst 1, 1)] (pc' := 45) (L' := [some (.ref 359), some (.int (nI k)), some (.int (nI p)), some (.int (nI (lkP A k p))), none]) (S' := [.int (nI 1)]) rfl (by decide +kernel) rfl ?_
          refine Ev.goto (off := 4) (tgt := 49) (by decide +kernel) (by decide) ?_
          refine Ev.run [(.istore 4, 2), (.iload 4, 2)] (pc' := 53) (L' := [some (.ref 359), some (.int (nI k)), some (.int (nI p)), some (.int (nI (lkP A k p))), some (.int (nI 1))]) (S' := [.int (nI 1)]) rfl (by decide +kernel) rfl ?_
          refine Ev.if_eq (off := 8) (tgt := 61) (by decide +kernel) (by decide) (fun h53 => absurd h53 (by decide)) (fun h53 => ?_)
          refine Ev.run [(.bipush 101, 2)] (pc' := 58) (L' := [some (.ref 359), some (.int (nI k)), some (.int (nI p)), some (.int (nI (lkP A k p))), some (.int (nI 1))]) (S' := [.int (nI 101)]) rfl (by decide +kernel) rfl ?_
          refine Ev.goto (off := 4) (tgt := 62) (by decide +kernel) (by decide) ?_
          exact Ev.iret rfl (by decide +kernel) (⟨by rw [mtc_y h10 hb (by omega) h41], I2, hs_I1.tr hs_I2, rfl⟩)

theorem c_X7_matchOf {sc : Nat × (Nat → Int32)} {d : Nat} (I : Nat → Nat → Int32) (J : Nat → Nat → Int64) (A : zA) (hV : MV (zVm I) A) (hW : WF A) (k p : Nat) (hk : k < aM A) (hp : p < aN A) : EvM sc (d + 5) 0 0 mX7_matchOf [.ref 359, .int (nI k), .int (nI p)] (zz_SH, I, J) (fun r σ => r = some (.int (nI (mtc A k p))) ∧ ∃ I' : Nat → Nat → Int32, zS1 I I' ∧ σ = (zz_SH, I', J)) := by
  cases hb : aB A p with
  | none => exact c_X7_matchOf_n I J A hV hW k p hk hp hb
  | some q => exact c_X7_matchOf_s I J A hV hW k p hk hp q hb

set_option maxRecDepth 100000 in
set_option maxHeartbeats 4000000 in
theorem c_X7_match_in {sc : Nat × (Nat → Int32)} {d : Nat} (I : Nat → Nat → Int32) (J : Nat → Nat → Int64) (A : zA) (hV : MV (zVm I) A) (hW : WF A) (k p : Nat) (hk : k < aM A) (hp : p < aN A) : EvM sc (d + 6) 0 0 mX7_match [.ref 359, .int (nI k), .int (nI p)] (zz_SH, I, J) (fun r σ => r = some (.int (nI (mtc A k p))) ∧ ∃ I' : Nat → Nat → Int32, zS1 I I' ∧ σ = (zz_SH, I', J)) := by
  have w1 := hW.1.1
  have w2 := hW.1.2.1
  refine EvM.of (by decide) rfl (Nat.le_of_ble_eq_true rfl) ?_
  show Ev _ _ _ _ _ 0 [some (.ref 359), some (.int (nI k)), some (.int (nI p))] [] (zz_SH, I, J) _
  refine Ev.run [(.aload_n 0, 1), (.iload_n 1, 1)] (pc' := 2) (L' := [some (.ref 359), some (.int (nI k)), some (.int (nI p))]) (S' := [.int (nI k), .ref 359]) rfl (by decide +kernel) rfl ?_
  refine Ev.callV0 mX7_isSentence [.int (nI k)] [] _ rfl lk_RX7_107 (by decide +kernel) (rfl) rfl rfl rfl (Nat.le_of_ble_eq_true rfl) (c_X7_isSentence I J (aM A) (nI k) hV.1.2.1 (by omega)) ?_
  rintro _ _ ⟨rfl, ⟨rfl, h2⟩ | ⟨rfl, h2⟩⟩
  · show Ev _ _ _ _ _ 5 [some (.ref 359), some (.int (nI k)), some (.int (nI p))] [.int (nI 1)] (zz_SH, I, J) _
    refine Ev.if_eq (off := 20) (tgt := 25) (by decide +kernel) (by decide) (fun h5 => absurd h5 (by decide)) (fun h5 => ?_)
    refine Ev.run [(.aload_n 0, 1), (.iload_n 2, 1)] (pc' := 10) (L' := [some (.ref 359), some (.int (nI k)), some (.int (nI p))]) (S' := [.int (nI p), .ref 359]) rfl (by decide +kernel) rfl ?_
    refine Ev.callV0 mX7_isPair [.int (nI p)] [] _ rfl lk_RX7_100 (by decide +kernel) (rfl) rfl rfl rfl (Nat.le_of_ble_eq_true rfl) (c_X7_isPair I J (aN A) (nI p) hV.1.1 (by omega)) ?_
    rintro _ _ ⟨rfl, ⟨rfl, h10⟩ | ⟨rfl, h10⟩⟩
    · show Ev _ _ _ _ _ 13 [some (.ref 359), some (.int (nI k)), some (.int (nI p))] [.int (nI 1)] (zz_SH, I, J) _
      refine Ev.if_eq (off := 12) (tgt := 25) (by decide +kernel) (by decide) (fun h13 => absurd h13 (by decide)) (fun h13 => ?_)
      refine Ev.run [(.aload_n 0, 1), (.iload_n 1, 1), (.iload_n 2, 1)] (pc' := 19) (L' := [some (.ref 359), some (.int (nI k)), some (.int (nI p))]) (S' := [.int (nI p), .int (nI k), .ref 359]) rfl (by decide +kernel) rfl ?_
      refine Ev.callV0 mX7_matchOf [.int (nI k), .int (nI p)] [] _ rfl lk_RX7_124 (by decide +kernel) (rfl) rfl rfl rfl (Nat.le_of_ble_eq_true rfl) (c_X7_matchOf I J A hV hW k p hk hp) ?_
      rintro _ _ ⟨rfl, I1, hs_I1, rfl⟩
      show Ev _ _ _ _ _ 22 [some (.ref 359), some (.int (nI k)), some (.int (nI p))] [.int (nI (mtc A k p))] (zz_SH, I1, J) _
      refine Ev.goto (off := 4) (tgt := 26) (by decide +kernel) (by decide) ?_
      exact Ev.iret rfl (by decide +kernel) (⟨rfl, I1, hs_I1, rfl⟩)
    · exact absurd ⟨p, hp, rfl⟩ h10
  · exact absurd ⟨k, hk, rfl⟩ h2

set_option maxRecDepth 100000 in
set_option maxHeartbeats 4000000 in
theorem c_X7_match_out {sc : Nat × (Nat → Int32)} {d : Nat} (I : Nat → Nat → Int32) (J : Nat → Nat → Int64) (A : zA) (hV : MV (zVm I) A) (hW : WF A) (x y : Int32) (hxy : ¬ (zz_ix x (aM A) ∧ zz_ix y (aN A))) : EvM sc (d + 6) 0 0 mX7_match [.ref 359, .int x, .int y] (zz_SH, I, J) (zz_is (.int (-1)) (zz_SH, I, J)) := by
  have w1 := hW.1.1
  have w2 := hW.1.2.1
  refine EvM.of (by decide) rfl (Nat.le_of_ble_eq_true rfl) ?_
  show Ev _ _ _ _ _ 0 [some (.ref 359), some (.int x), some (.int y)] [] (zz_SH, I, J) _
  refine Ev.run [(.aload_n 0, 1), (.iload_n 1, 1)] (pc' := 2) (L' := [some (.ref 359), some (.int x), some (.int y)]) (S' := [.int x, .ref 359]) rfl (by decide +kernel) rfl ?_
  refine Ev.callV0 mX7_isSentence [.int x] [] _ rfl lk_RX7_107 (by decide +kernel) (rfl) rfl rfl rfl (Nat.le_of_ble_eq_true rfl) (c_X7_isSentence I J (aM A) x hV.1.2.1 (by omega)) ?_
  rintro _ _ ⟨rfl, ⟨rfl, h2⟩ | ⟨rfl, h2⟩⟩
  · show Ev _ _ _ _ _ 5 [some (.ref 359), some (.int x), some (.int y)] [.int (nI 1)] (zz_SH, I, J) _
    refine Ev.if_eq (off := 20) (tgt := 25) (by decide +kernel) (by decide) (fun h5 => absurd h5 (by decide)) (fun h5 => ?_)
    refine Ev.run [(.aload_n 0, 1), (.iload_n 2, 1)] (pc' := 10) (L' := [some (.ref 359), some (.int x), some (.int y)]) (S' := [.int y, .ref 359]) rfl (by decide +kernel) rfl ?_
    refine Ev.callV0 mX7_isPair [.int y] [] _ rfl lk_RX7_100 (by decide +kernel) (rfl) rfl rfl rfl (Nat.le_of_ble_eq_true rfl) (c_X7_isPair I J (aN A) y hV.1.1 (by omega)) ?_
    rintro _ _ ⟨rfl, ⟨rfl, h10⟩ | ⟨rfl, h10⟩⟩
    · exact absurd ⟨h2, h10⟩ hxy
    · show Ev _ _ _ _ _ 13 [some (.ref 359), some (.int x), some (.int y)] [.int (nI 0)] (zz_SH, I, J) _
      refine Ev.if_eq (off := 12) (tgt := 25) (by decide +kernel) (by decide) (fun h13 => ?_) (fun h13 => absurd h13 (by decide))
      refine Ev.run [(.iconst (-1), 1)] (pc' := 26) (L' := [some (.ref 359), some (.int x), some (.int y)]) (S' := [.int ((-1))]) rfl (by decide +kernel) rfl ?_
      exact Ev.iret rfl (by decide +kernel) (⟨rfl, rfl⟩)
  · show Ev _ _ _ _ _ 5 [some (.ref 359), some (.int x), some (.int y)] [.int (nI 0)] (zz_SH, I, J) _
    refine Ev.if_eq (off := 20) (tgt := 25) (by decide +kernel) (by decide) (fun h5 => ?_) (fun h5 => absurd h5 (by decide))
    refine Ev.run [(.iconst (-1), 1)] (pc' := 26) (L' := [some (.ref 359), some (.int x), some (.int y)]) (S' := [.int ((-1))]) rfl (by decide +kernel) rfl ?_
    exact Ev.iret rfl (by decide +kernel) (⟨rfl, rfl⟩)

/-! found -/
def fo (x : Option (Nat × Nat)) : Int32 := match x with
  | none => -6
  | some (p, _) => nI p
def fv (x : Option (Nat × Nat)) : Int32 := match x with
  | none => -6
  | some (_, v) => nI v
theorem fnd_ok (A : zA) (k : Nat) : ∀ n p v, fnd A k n = some (p, v) → p < n ∧ v = mtc A k p
  | 0, p, v, h => by cases h
  | n + 1, p, v, h => by
    rw [fnd] at h
    split at h
    · cases h; exact ⟨Nat.lt_succ_self _, rfl⟩
    · next p' v' h9 =>
      obtain ⟨h1, h2⟩ := fnd_ok A k n p' v' h9
      split at h
      · cases h; exact ⟨Nat.lt_succ_self _, rfl⟩
      · cases h; exact ⟨by omega, h2⟩
theorem fnd_ge {A : zA} {k p : Nat} (h : ¬ nI (mtc A k p) < fv (fnd A k p)) : fnd A k (p + 1) = some (p, mtc A k p) := by
  rw [fnd]
  cases hx : fnd A k p with
  | none => rfl
  | some y =>
    obtain ⟨p', v'⟩ := y
    obtain ⟨-, h2⟩ := fnd_ok A k p p' v' hx
    have b1 := mtc_le A k p
    have b2 := mtc_le A k p'
    rw [hx] at h
    have h3 := zz_bL_f (by omega) (by rw [h2]; omega) h
    exact if_pos h3
theorem fnd_lt {A : zA} {k p : Nat} (h : nI (mtc A k p) < fv (fnd A k p)) : fnd A k (p + 1) = fnd A k p := by
  rw [fnd]
  cases hx : fnd A k p with
  | none =>
    rw [hx] at h
    have b1 := mtc_le A k p
    exfalso
    have h1 : nI (mtc A k p) < (-6 : Int32) := h
    rw [Int32.lt_iff_toInt_lt, nI_toInt (by omega)] at h1
    have h2 : (-6 : Int32).toInt = -6 := by decide
    omega
  | some y =>
    obtain ⟨p', v'⟩ := y
    obtain ⟨-, h2⟩ := fnd_ok A k p p' v' hx
    have b1 := mtc_le A k p
    have b2 := mtc_le A k p'
    rw [hx] at h
    have h3 := zz_bL_t (by omega) (by rw [h2]; omega) h
    exact if_neg (by omega)
/-- what foundOf may change -/
def zS2 (I I' : Nat → Nat → Int32) : Prop := (∀ c, c ≠ 372 → c ≠ 359 → I' c = I c) ∧ ∀ j, j ≠ 17 → I' 359 j = I 359 j
theorem zS2.rf (I : Nat → Nat → Int32) : zS2 I I := ⟨fun _ _ _ => rfl, fun _ _ => rfl⟩
theorem zS2.tr {I I' I'' : Nat → Nat → Int32} (h : zS2 I I') (h' : zS2 I' I'') : zS2 I I'' := ⟨fun c h1 h2 => (h'.1 c h1 h2).trans (h.1 c h1 h2), fun j hj => (h'.2 j hj).trans (h.2 j hj)⟩
theorem zS1.s2 {I I' : Nat → Nat → Int32} (h : zS1 I I') : zS2 I I' := ⟨fun c h1 _ => h c h1, fun j _ => by rw [h 359 (by decide)]⟩
theorem zS2.fl (I : Nat → Nat → Int32) (v : Int32) : zS2 I (zz_up I 359 17 v) := ⟨fun c _ h2 => zz_up_ne h2, fun j hj => by rw [zz_up_eq, zz_upn hj]⟩
theorem zS2.sc {I I' : Nat → Nat → Int32} (h : zS2 I I') : zSc I I' := ⟨fun c hc => h.1 c (by omega) (by omega), h.1 360 (by decide) (by decide), fun c h1 h2 => h.1 c (by omega) (by omega), h.1 379 (by decide) (by decide), h.1 380 (by decide) (by decide), h.2 0 (by decide), h.2 2 (by decide), h.2 8 (by decide)⟩
theorem zS2.mv {I I' : Nat → Nat → Int32} {A : zA} (h : zS2 I I') (hV : MV (zVm I) A) : MV (zVm I') A := h.sc.mv hV

set_option maxRecDepth 100000 in
set_option maxHeartbeats 4000000 in
theorem l_X7_foundOf {sc : Nat × (Nat → Int32)} {d : Nat} (I : Nat → Nat → Int32) (J : Nat → Nat → Int64) (A : zA) (hV : MV (zVm I) A) (hW : WF A) (k : Nat) (hk : k < aM A) : ∀ (μ : Nat) (p : Nat) (I1 : Nat → Nat → Int32), aN A - p < μ → (p ≤ aN A) → (zS2 I I1) → (I1 359 17 = fv (fnd A k p)) →  Ev sc (d + 6) 0 0 mX7_foundOf 11 [some (.ref 359), some (.int (nI k)), some (.int (fo (fnd A k p))), some (.int (nI p)), none] [] (zz_SH, I1, J) (fun r σ => r = some (.int (fo (fnd A k (aN A)))) ∧ ∃ I' : Nat → Nat → Int32, zS2 I I' ∧ I' 359 17 = fv (fnd A k (aN A)) ∧ σ = (zz_SH, I', J)) := by
  intro μ
  induction μ with
  | zero => intro p I1 hμ; exact absurd hμ (Nat.not_lt_zero _)
  | succ μ ih =>
    intro p I1 hμ hpN hs hf
    have w1 := hW.1.1
    have w2 := hW.1.2.1
    have hV1 := hs.mv hV
    refine Ev.run [(.iload_n 3, 1), (.aload_n 0, 1), (.getfield 75, 3)] (pc' := 16) (L' := [some (.ref 359), some (.int (nI k)), some (.int (fo (fnd A k p))), some (.int (nI p)), none]) (S' := [.int (I1 359 2), .int (nI p)]) rfl (by decide +kernel) rfl ?_
    rw [show I1 359 2 = nI (aN A) from hV1.1.1]
    refine Ev.icmp_ge (off := 34) (tgt := 50) (by decide +kernel) (by decide) (fun h16 => ?_) (fun h16 => ?_)
    · have h16 : p ≥ (aN A) := zz_bG_t (by omega) (by omega) h16
      have hpN : aN A = p := by omega
      rw [hpN]
      refine Ev.run [(.iload_n 2, 1)] (pc' := 51) (L' := [some (.ref 359), some (.int (nI k)), some (.int (fo (fnd A k p))), some (.int (nI p)), none]) (S' := [.int (fo (fnd A k p))]) rfl (by decide +kernel) rfl ?_
      exact Ev.iret rfl (by decide +kernel) (⟨rfl, I1, hs, hf, rfl⟩)
    · have h16 : p < (aN A) := zz_bG_f (by omega) (by omega) h16
      refine Ev.run [(.aload_n 0, 1), (.iload_n 1, 1), (.iload_n 3, 1)] (pc' := 22) (L' := [some (.ref 359), some (.int (nI k)), some (.int (fo (fnd A k p))), some (.int (nI p)), none]) (S' := [.int (nI p), .int (nI k), .ref 359]) rfl (by decide +kernel) rfl ?_
      refine Ev.callV0 mX7_matchOf [.int (nI k), .int (nI p)] [] _ rfl lk_RX7_124 (by decide +kernel) (rfl) rfl rfl rfl (Nat.le_of_ble_eq_true rfl) (c_X7_matchOf I1 J A hV1 hW k p hk (by omega)) ?_
      rintro _ _ ⟨rfl, I2, hs_I2, rfl⟩
      show Ev _ _ _ _ _ 25 [some (.ref 359), some (.int (nI k)), some (.int (fo (fnd A k p))), some (.int (nI p)), none] [.int (nI (mtc A k p))] (zz_SH, I2, J) _
      refine Ev.run [(.istore 4, 2), (.iload 4, 2), (.aload_n 0, 1), (.getfield 127, 3)] (pc' := 33) (L' := [some (.ref 359), some (.int (nI k)), some (.int (fo (fnd A k p))), some (.int (nI p)), some (.int (nI (mtc A k p)))]) (S' := [.int (I2 359 17), .int (nI (mtc A k p))]) rfl (by decide +kernel) rfl ?_
      rw [show I2 359 17 = fv (fnd A k p) from by rw [hs_I2 359 (by decide)]; exact hf]
      refine Ev.icmp_lt (off := 11) (tgt := 44) (by decide +kernel) (by decide) (fun h33 => ?_) (fun h33 => ?_)
      · refine Ev.run [(.iinc 3 1, 3)] (pc' := 47) (L' := [some (.ref 359), some (.int (nI k)), some (.int (fo (fnd A k p))), some (.int (nI p + 1)), some (.int (nI (mtc A k p)))]) (S' := []) rfl (by decide +kernel) rfl ?_
        rw [nI_1 p]
        refine Ev.goto (off := (-36)) (tgt := 11) (by decide +kernel) (by decide) ?_
        refine Ev.weakL (L' := [some (.ref 359), some (.int (nI k)), some (.int (fo (fnd A k p))), some (.int (nI (p + 1))), none]) ⟨rfl, rfl, rfl, rfl, trivial⟩ ?_
        have e9 := fnd_lt h33
        rw [← e9]
        exact ih (p + 1) _ (by omega) (by omega) (hs.tr hs_I2.s2) (by rw [hs_I2 359 (by decide), hf, e9])
      · refine Ev.run [(.iload_n 3, 1), (.istore_n 2, 1), (.aload_n 0, 1), (.iload 4, 2)] (pc' := 41) (L' := [some (.ref 359), some (.int (nI k)), some (.int (nI p)), some (.int (nI p)), some (.int (nI (mtc A k p)))]) (S' := [.int (nI (mtc A k p)), .ref 359]) rfl (by decide +kernel) rfl ?_
        refine Ev.putf (idx := 127) rfl rfl rfl (by decide +kernel) (rfl) rfl ?_
        dsimp only
        refine Ev.run [(.iinc 3 1, 3)] (pc' := 47) (L' := [some (.ref 359), some (.int (nI k)), some (.int (nI p)), some (.int (nI p + 1)), some (.int (nI (mtc A k p)))]) (S' := []) rfl (by decide +kernel) rfl ?_
        rw [nI_1 p]
        refine Ev.goto (off := (-36)) (tgt := 11) (by decide +kernel) (by decide) ?_
        refine Ev.weakL (L' := [some (.ref 359), some (.int (nI k)), some (.int (nI p)), some (.int (nI (p + 1))), none]) ⟨rfl, rfl, rfl, rfl, trivial⟩ ?_
        have e9 := fnd_ge h33
        rw [show nI p = fo (fnd A k (p + 1)) from by rw [e9]; rfl]
        exact ih (p + 1) _ (by omega) (by omega) (hs.tr (hs_I2.s2.tr (zS2.fl I2 _))) (by rw [zz_up_eq, zz_ups, e9]; rfl)

set_option maxRecDepth 100000 in
set_option maxHeartbeats 4000000 in
theorem c_X7_foundOf {sc : Nat × (Nat → Int32)} {d : Nat} (I : Nat → Nat → Int32) (J : Nat → Nat → Int64) (A : zA) (hV : MV (zVm I) A) (hW : WF A) (k : Nat) (hk : k < aM A) : EvM sc (d + 6) 0 0 mX7_foundOf [.ref 359, .int (nI k)] (zz_SH, I, J) (fun r σ => r = some (.int (fo (fnd A k (aN A)))) ∧ ∃ I' : Nat → Nat → Int32, zS2 I I' ∧ I' 359 17 = fv (fnd A k (aN A)) ∧ σ = (zz_SH, I', J)) := by
  have w1 := hW.1.1
  have w2 := hW.1.2.1
  refine EvM.of (by decide) rfl (Nat.le_of_ble_eq_true rfl) ?_
  show Ev _ _ _ _ _ 0 [some (.ref 359), some (.int (nI k)), none, none, none] [] (zz_SH, I, J) _
  refine Ev.run [(.bipush (-6), 2), (.istore_n 2, 1), (.aload_n 0, 1), (.bipush (-6), 2)] (pc' := 6) (L' := [some (.ref 359), some (.int (nI k)), some (.int ((-6))), none, none]) (S' := [.int ((-6)), .ref 359]) rfl (by decide +kernel) rfl ?_
  refine Ev.putf (idx := 127) rfl rfl rfl (by decide +kernel) (rfl) rfl ?_
  dsimp only
  refine Ev.run [(.iconst 0, 1), (.istore_n 3, 1)] (pc' := 11) (L' := [some (.ref 359), some (.int (nI k)), some (.int ((-6))), some (.int (nI 0)), none]) (S' := []) rfl (by decide +kernel) rfl ?_
  exact l_X7_foundOf I J A hV hW k hk (aN A + 1) 0 _ (by omega) (by omega) (zS2.fl I _) (by rw [zz_up_eq, zz_ups]; rfl)
end
section
/-! ===== the model: prices, found, filled ===== -/
def bfd (A : zA) (k : Nat) : Nat := match fnd A k (aN A) with
  | none => 4
  | some (_, v) => bnd v
def prc (A : zA) (k : Nat) : Nat := tz A k * rt A (bfd A k)
def prs (A : zA) : Nat → Nat
  | 0 => 0
  | n + 1 => prs A n + prc A n
theorem bnd_lt (m : Nat) : bnd m < 5 := by
  unfold bnd
  repeat' split
  all_goals omega
theorem bfd_lt (A : zA) (k : Nat) : bfd A k < 5 := by
  unfold bfd
  split
  · decide
  · exact bnd_lt _
theorem prc_le {A : zA} (hW : WF A) {k : Nat} (hk : k < aM A) : prc A k ≤ 1188 := by
  have h1 := (hW.2.2.1 k hk).1.2
  have h2 := hW.2.2.2.1 (bfd A k) (bfd_lt A k)
  exact Nat.le_trans (Nat.mul_le_mul h1 h2) (by decide)
theorem prs_le {A : zA} (hW : WF A) : ∀ n, n ≤ aM A → prs A n ≤ 1188 * n
  | 0, _ => Nat.le_refl _
  | n + 1, h => by
    have := prs_le hW n (by omega)
    have := prc_le hW (k := n) (by omega)
    rw [prs]
    omega
def dfl (A : zA) (k p : Nat) : Prop := tz A k = fz A p ∧ ∀ j, j < tz A k → chg (tt A k j) (ff A p j) < 4
def lkf (f t : Nat → Nat) (s : Nat) : Nat → Nat → Nat
  | _, 0 => s
  | j, n + 1 => if f j = s then t j else lkf f t s (j + 1) n

theorem zz_nm (k : Nat) (hk : k < 2 ^ 31) : ¬ nI k = (-1) := by
  intro h
  have h1 := congrArg Int32.toInt h
  rw [nI_toInt hk] at h1
  have h2 : (-1 : Int32).toInt = -1 := by decide
  omega

set_option maxRecDepth 100000 in
set_option maxHeartbeats 4000000 in
theorem c_X7_band {sc : Nat × (Nat → Int32)} {d : Nat} (I : Nat → Nat → Int32) (J : Nat → Nat → Int64) (m : Nat) (hm : m < 1000) : EvM sc (d) 0 0 mX7_band [.int (nI m)] (zz_SH, I, J) (zz_is (.int (nI (bnd m))) (zz_SH, I, J)) := by
  refine EvM.of (by decide) rfl (Nat.le_of_ble_eq_true rfl) ?_
  show Ev _ _ _ _ _ 0 [some (.int (nI m))] [] (zz_SH, I, J) _
  refine Ev.run [(.iload_n 0, 1), (.bipush 100, 2)] (pc' := 3) (L' := [some (.int (nI m))]) (S' := [.int (nI 100), .int (nI m)]) rfl (by decide +kernel) rfl ?_
  refine Ev.icmp_le (off := 7) (tgt := 10) (by decide +kernel) (by decide) (fun h3 => ?_) (fun h3 => ?_)
  · have h3 : m ≤ 100 := zz_bG'_t (by omega) (by omega) h3
    refine Ev.run [(.iload_n 0, 1), (.bipush 100, 2)] (pc' := 13) (L' := [some (.int (nI m))]) (S' := [.int (nI 100), .int (nI m)]) rfl (by decide +kernel) rfl ?_
    refine Ev.icmp_ne (off := 7) (tgt := 20) (by decide +kernel) (by decide) (fun h13 => ?_) (fun h13 => ?_)
    · have h13 : ¬ m = 100 := zz_bE_f (by omega) (by omega) h13
      refine Ev.run [(.iload_n 0, 1), (.bipush 85, 2)] (pc' := 23) (L' := [some (.int (nI m))]) (S' := [.int (nI 85), .int (nI m)]) rfl (by decide +kernel) rfl ?_
      refine Ev.icmp_lt (off := 7) (tgt := 30) (by decide +kernel) (by decide) (fun h23 => ?_) (fun h23 => ?_)
      · have h23 : m < 85 := zz_bL_t (by omega) (by omega) h23
        refine Ev.run [(.iload_n 0, 1), (.bipush 60, 2)] (pc' := 33) (L' := [some (.int (nI m))]) (S' := [.int (nI 60), .int (nI m)]) rfl (by decide +kernel) rfl ?_
        refine Ev.icmp_lt (off := 7) (tgt := 40) (by decide +kernel) (by decide) (fun h33 => ?_) (fun h33 => ?_)
        · have h33 : m < 60 := zz_bL_t (by omega) (by omega) h33
          refine Ev.run [(.iconst 4, 1)] (pc' := 41) (L' := [some (.int (nI m))]) (S' := [.int (nI 4)]) rfl (by decide +kernel) rfl ?_
          exact Ev.iret rfl (by decide +kernel) (⟨by rw [bnd, if_neg (by omega), if_neg h13, if_neg (by omega), if_neg (by omega)], rfl⟩)
        · have h33 : m ≥ 60 := zz_bL_f (by omega) (by omega) h33
          refine Ev.run [(.iconst 3, 1)] (pc' := 37) (L' := [some (.int (nI m))]) (S' := [.int (nI 3)]) rfl (by decide +kernel) rfl ?_
          refine Ev.goto (off := 4) (tgt := 41) (by decide +kernel) (by decide) ?_
          exact Ev.iret rfl (by decide +kernel) (⟨by rw [bnd, if_neg (by omega), if_neg h13, if_neg (by omega), if_pos h33], rfl⟩)
      · have h23 : m ≥ 85 := zz_bL_f (by omega) (by omega) h23
        refine Ev.run [(.iconst 2, 1)] (pc' := 27) (L' := [some (.int (nI m))]) (S' := [.int (nI 2)]) rfl (by decide +kernel) rfl ?_
        refine Ev.goto (off := 14) (tgt := 41) (by decide +kernel) (by decide) ?_
        exact Ev.iret rfl (by decide +kernel) (⟨by rw [bnd, if_neg (by omega), if_neg h13, if_pos h23], rfl⟩)
    · have h13 : m = 100 := zz_bE_t (by omega) (by omega) h13
      refine Ev.run [(.iconst 1, 1)] (pc' := 17) (L' := [some (.int (nI m))]) (S' := [.int (nI 1)]) rfl (by decide +kernel) rfl ?_
      refine Ev.goto (off := 24) (tgt := 41) (by decide +kernel) (by decide) ?_
      exact Ev.iret rfl (by decide +kernel) (⟨by rw [bnd, if_neg (by omega), if_pos h13], rfl⟩)
  · have h3 : m > 100 := zz_bG'_f (by omega) (by omega) h3
    refine Ev.run [(.iconst 0, 1)] (pc' := 7) (L' := [some (.int (nI m))]) (S' := [.int (nI 0)]) rfl (by decide +kernel) rfl ?_
    refine Ev.goto (off := 34) (tgt := 41) (by decide +kernel) (by decide) ?_
    exact Ev.iret rfl (by decide +kernel) (⟨by rw [bnd, if_pos h3], rfl⟩)

set_option maxRecDepth 100000 in
set_option maxHeartbeats 4000000 in
theorem c_X7_priceOf_n {sc : Nat × (Nat → Int32)} {d : Nat} (I : Nat → Nat → Int32) (J : Nat → Nat → Int64) (A : zA) (hV : MV (zVm I) A) (hW : WF A) (k : Nat) (hk : k < aM A) (hx : fnd A k (aN A) = none) : EvM sc (d + 7) 0 0 mX7_priceOf [.ref 359, .int (nI k)] (zz_SH, I, J) (fun r σ => r = some (.int (nI (prc A k))) ∧ ∃ I' : Nat → Nat → Int32, zS2 I I' ∧ σ = (zz_SH, I', J)) := by
  have w1 := hW.1.1
  have w2 := hW.1.2.1
  refine EvM.of (by decide) rfl (Nat.le_of_ble_eq_true rfl) ?_
  show Ev _ _ _ _ _ 0 [some (.ref 359), some (.int (nI k)), none] [] (zz_SH, I, J) _
  refine Ev.run [(.aload_n 0, 1), (.iload_n 1, 1)] (pc' := 2) (L' := [some (.ref 359), some (.int (nI k)), none]) (S' := [.int (nI k), .ref 359]) rfl (by decide +kernel) rfl ?_
  refine Ev.callV0 mX7_foundOf [.int (nI k)] [] _ rfl lk_RX7_130 (by decide +kernel) (rfl) rfl rfl rfl (Nat.le_of_ble_eq_true rfl) (c_X7_foundOf I J A hV hW k hk) ?_
  rintro _ _ ⟨rfl, I1, hs_I1, hf, rfl⟩
  rw [hx] at hf
  rw [hx]
  have hV1 := hs_I1.mv hV
  show Ev _ _ _ _ _ 5 [some (.ref 359), some (.int (nI k)), none] [.int ((-6))] (zz_SH, I1, J) _
  refine Ev.run [(.istore_n 2, 1), (.aload_n 0, 1), (.getfield 28, 3), (.iload_n 1, 1)] (pc' := 11) (L' := [some (.ref 359), some (.int (nI k)), some (.int ((-6)))]) (S' := [.int (nI k), .ref 366]) rfl (by decide +kernel) rfl ?_
  refine Ev.iald k (by decide +kernel) (rfl) (rfl) (by omega) (by first | decide | omega) ?_
  dsimp only
  rw [show I1 366 k = nI (tz A k) from (hV1.2.2.1 k hk).1]
  refine Ev.run [(.aload_n 0, 1), (.getfield 34, 3), (.iload_n 2, 1)] (pc' := 17) (L' := [some (.ref 359), some (.int (nI k)), some (.int ((-6)))]) (S' := [.int ((-6)), .ref 368, .int (nI (tz A k))]) rfl (by decide +kernel) rfl ?_
  refine Ev.if_ge (off := 7) (tgt := 24) (by decide +kernel) (by decide) (fun h17 => absurd h17 (by decide)) (fun h17 => ?_)
  refine Ev.run [(.iconst 4, 1)] (pc' := 21) (L' := [some (.ref 359), some (.int (nI k)), some (.int ((-6)))]) (S' := [.int (nI 4), .ref 368, .int (nI (tz A k))]) rfl (by decide +kernel) rfl ?_
  refine Ev.goto (off := 10) (tgt := 31) (by decide +kernel) (by decide) ?_
  refine Ev.iald 4 (by decide +kernel) (rfl) (rfl) (by omega) (by first | decide | omega) ?_
  dsimp only
  rw [show I1 368 4 = nI (rt A 4) from hV1.2.2.2.1 4 (by decide)]
  refine Ev.run [(.imul, 1)] (pc' := 33) (L' := [some (.ref 359), some (.int (nI k)), some (.int ((-6)))]) (S' := [.int (nI (tz A k) * nI (rt A 4))]) rfl (by decide +kernel) rfl ?_
  rw [pk_mul (tz A k) (rt A 4)]
  exact Ev.iret rfl (by decide +kernel) (⟨by rw [prc, bfd, hx], I1, hs_I1, rfl⟩)

set_option maxRecDepth 100000 in
set_option maxHeartbeats 4000000 in
theorem c_X7_priceOf_s {sc : Nat × (Nat → Int32)} {d : Nat} (I : Nat → Nat → Int32) (J : Nat → Nat → Int64) (A : zA) (hV : MV (zVm I) A) (hW : WF A) (k : Nat) (hk : k < aM A) (p v : Nat) (hx : fnd A k (aN A) = some (p, v)) : EvM sc (d + 7) 0 0 mX7_priceOf [.ref 359, .int (nI k)] (zz_SH, I, J) (fun r σ => r = some (.int (nI (prc A k))) ∧ ∃ I' : Nat → Nat → Int32, zS2 I I' ∧ σ = (zz_SH, I', J)) := by
  have w1 := hW.1.1
  have w2 := hW.1.2.1
  obtain ⟨hp1, hp2⟩ := fnd_ok A k _ p v hx
  refine EvM.of (by decide) rfl (Nat.le_of_ble_eq_true rfl) ?_
  show Ev _ _ _ _ _ 0 [some (.ref 359), some (.int (nI k)), none] [] (zz_SH, I, J) _
  refine Ev.run [(.aload_n 0, 1), (.iload_n 1, 1)] (pc' := 2) (L' := [some (.ref 359), some (.int (nI k)), none]) (S' := [.int (nI k), .ref 359]) rfl (by decide +kernel) rfl ?_
  refine Ev.callV0 mX7_foundOf [.int (nI k)] [] _ rfl lk_RX7_130 (by decide +kernel) (rfl) rfl rfl rfl (Nat.le_of_ble_eq_true rfl) (c_X7_foundOf I J A hV hW k hk) ?_
  rintro _ _ ⟨rfl, I1, hs_I1, hf, rfl⟩
  rw [hx] at hf
  rw [hx]
  have hV1 := hs_I1.mv hV
  have hf : I1 359 17 = nI v := hf
  show Ev _ _ _ _ _ 5 [some (.ref 359), some (.int (nI k)), none] [.int (nI p)] (zz_SH, I1, J) _
  refine Ev.run [(.istore_n 2, 1), (.aload_n 0, 1), (.getfield 28, 3), (.iload_n 1, 1)] (pc' := 11) (L' := [some (.ref 359), some (.int (nI k)), some (.int (nI p))]) (S' := [.int (nI k), .ref 366]) rfl (by decide +kernel) rfl ?_
  refine Ev.iald k (by decide +kernel) (rfl) (rfl) (by omega) (by first | decide | omega) ?_
  dsimp only
  rw [show I1 366 k = nI (tz A k) from (hV1.2.2.1 k hk).1]
  refine Ev.run [(.aload_n 0, 1), (.getfield 34, 3), (.iload_n 2, 1)] (pc' := 17) (L' := [some (.ref 359), some (.int (nI k)), some (.int (nI p))]) (S' := [.int (nI p), .ref 368, .int (nI (tz A k))]) rfl (by decide +kernel) rfl ?_
  refine Ev.if_ge (off := 7) (tgt := 24) (by decide +kernel) (by decide) (fun h17 => ?_) (fun h17 => ?_)
  · have h17 : p ≥ 0 := zz_bG_t (by omega) (by omega) h17
    refine Ev.run [(.aload_n 0, 1), (.getfield 127, 3)] (pc' := 28) (L' := [some (.ref 359), some (.int (nI k)), some (.int (nI p))]) (S' := [.int (I1 359 17), .ref 368, .int (nI (tz A k))]) rfl (by decide +kernel) rfl ?_
    rw [hf]
    refine Ev.callS0 mX7_band [.int (nI v)] [.ref 368, .int (nI (tz A k))] _ rfl lk_RX7_137 (by decide +kernel) rfl (Nat.le_of_ble_eq_true rfl) (c_X7_band I1 J v (by have := mtc_le A k p; omega)) ?_
    rintro _ _ ⟨rfl, rfl⟩
    show Ev _ _ _ _ _ 31 [some (.ref 359), some (.int (nI k)), some (.int (nI p))] [.int (nI (bnd v)), .ref 368, .int (nI (tz A k))] (zz_SH, I1, J) _
    refine Ev.iald (bnd v) (by decide +kernel) (rfl) (rfl) (bnd_lt v) (by first | decide | omega) ?_
    dsimp only
    rw [show I1 368 (bnd v) = nI (rt A (bnd v)) from hV1.2.2.2.1 (bnd v) (bnd_lt v)]
    refine Ev.run [(.imul, 1)] (pc' := 33) (L' := [some (.ref 359), some (.int (nI k)), some (.int (nI p))]) (S' := [.int (nI (tz A k) * nI (rt A (bnd v)))]) rfl (by decide +kernel) rfl ?_
    rw [pk_mul (tz A k) (rt A (bnd v))]
    exact Ev.iret rfl (by decide +kernel) (⟨by rw [prc, bfd, hx], I1, hs_I1, rfl⟩)
  · have h17 : p < 0 := zz_bG_f (by omega) (by omega) h17
    exfalso; omega

theorem c_X7_priceOf {sc : Nat × (Nat → Int32)} {d : Nat} (I : Nat → Nat → Int32) (J : Nat → Nat → Int64) (A : zA) (hV : MV (zVm I) A) (hW : WF A) (k : Nat) (hk : k < aM A) : EvM sc (d + 7) 0 0 mX7_priceOf [.ref 359, .int (nI k)] (zz_SH, I, J) (fun r σ => r = some (.int (nI (prc A k))) ∧ ∃ I' : Nat → Nat → Int32, zS2 I I' ∧ σ = (zz_SH, I', J)) := by
  cases hx : fnd A k (aN A) with
  | none => exact c_X7_priceOf_n I J A hV hW k hk hx
  | some y => exact c_X7_priceOf_s I J A hV hW k hk y.1 y.2 hx

set_option maxRecDepth 100000 in
set_option maxHeartbeats 4000000 in
theorem c_X7_price_in {sc : Nat × (Nat → Int32)} {d : Nat} (I : Nat → Nat → Int32) (J : Nat → Nat → Int64) (A : zA) (hV : MV (zVm I) A) (hW : WF A) (k : Nat) (hk : k < aM A) : EvM sc (d + 8) 0 0 mX7_price [.ref 359, .int (nI k)] (zz_SH, I, J) (fun r σ => r = some (.int (nI (prc A k))) ∧ ∃ I' : Nat → Nat → Int32, zSc I I' ∧ σ = (zz_SH, I', J)) := by
  have w1 := hW.1.1
  have w2 := hW.1.2.1
  refine EvM.of (by decide) rfl (Nat.le_of_ble_eq_true rfl) ?_
  show Ev _ _ _ _ _ 0 [some (.ref 359), some (.int (nI k)), none, none] [] (zz_SH, I, J) _
  refine Ev.run [(.iload_n 1, 1), (.iconst (-1), 1)] (pc' := 2) (L' := [some (.ref 359), some (.int (nI k)), none, none]) (S' := [.int ((-1)), .int (nI k)]) rfl (by decide +kernel) rfl ?_
  refine Ev.icmp_eq (off := 21) (tgt := 23) (by decide +kernel) (by decide) (fun h2 => absurd h2 (zz_nm k (by omega))) (fun h2 => ?_)
  refine Ev.run [(.aload_n 0, 1), (.iload_n 1, 1)] (pc' := 7) (L' := [some (.ref 359), some (.int (nI k)), none, none]) (S' := [.int (nI k), .ref 359]) rfl (by decide +kernel) rfl ?_
  refine Ev.callV0 mX7_isSentence [.int (nI k)] [] _ rfl lk_RX7_107 (by decide +kernel) (rfl) rfl rfl rfl (Nat.le_of_ble_eq_true rfl) (c_X7_isSentence I J (aM A) (nI k) hV.1.2.1 (by omega)) ?_
  rintro _ _ ⟨rfl, ⟨rfl, h7⟩ | ⟨rfl, h7⟩⟩
  · show Ev _ _ _ _ _ 10 [some (.ref 359), some (.int (nI k)), none, none] [.int (nI 1)] (zz_SH, I, J) _
    refine Ev.if_eq (off := 11) (tgt := 21) (by decide +kernel) (by decide) (fun h10 => absurd h10 (by decide)) (fun h10 => ?_)
    refine Ev.run [(.aload_n 0, 1), (.iload_n 1, 1)] (pc' := 15) (L' := [some (.ref 359), some (.int (nI k)), none, none]) (S' := [.int (nI k), .ref 359]) rfl (by decide +kernel) rfl ?_
    refine Ev.callV0 mX7_priceOf [.int (nI k)] [] _ rfl lk_RX7_140 (by decide +kernel) (rfl) rfl rfl rfl (Nat.le_of_ble_eq_true rfl) (c_X7_priceOf I J A hV hW k hk) ?_
    rintro _ _ ⟨rfl, I1, hs_I1, rfl⟩
    show Ev _ _ _ _ _ 18 [some (.ref 359), some (.int (nI k)), none, none] [.int (nI (prc A k))] (zz_SH, I1, J) _
    refine Ev.goto (off := 4) (tgt := 22) (by decide +kernel) (by decide) ?_
    exact Ev.iret rfl (by decide +kernel) (⟨rfl, I1, hs_I1.sc, rfl⟩)
  · exact absurd ⟨k, hk, rfl⟩ h7

set_option maxRecDepth 100000 in
set_option maxHeartbeats 4000000 in
theorem c_X7_price_out {sc : Nat × (Nat → Int32)} {d : Nat} (I : Nat → Nat → Int32) (J : Nat → Nat → Int64) (A : zA) (hV : MV (zVm I) A) (hW : WF A) (x : Int32) (hx1 : ¬ x = (-1)) (hx2 : ¬ zz_ix x (aM A)) : EvM sc (d + 8) 0 0 mX7_price [.ref 359, .int x] (zz_SH, I, J) (zz_is (.int (-1)) (zz_SH, I, J)) := by
  have w1 := hW.1.1
  have w2 := hW.1.2.1
  refine EvM.of (by decide) rfl (Nat.le_of_ble_eq_true rfl) ?_
  show Ev _ _ _ _ _ 0 [some (.ref 359), some (.int x), none, none] [] (zz_SH, I, J) _
  refine Ev.run [(.iload_n 1, 1), (.iconst (-1), 1)] (pc' := 2) (L' := [some (.ref 359), some (.int x), none, none]) (S' := [.int ((-1)), .int x]) rfl (by decide +kernel) rfl ?_
  refine Ev.icmp_eq (off := 21) (tgt := 23) (by decide +kernel) (by decide) (fun h2 => absurd h2 hx1) (fun h2 => ?_)
  refine Ev.run [(.aload_n 0, 1), (.iload_n 1, 1)] (pc' := 7) (L' := [some (.ref 359), some (.int x), none, none]) (S' := [.int x, .ref 359]) rfl (by decide +kernel) rfl ?_
  refine Ev.callV0 mX7_isSentence [.int x] [] _ rfl lk_RX7_107 (by decide +kernel) (rfl) rfl rfl rfl (Nat.le_of_ble_eq_true rfl) (c_X7_isSentence I J (aM A) x hV.1.2.1 (by omega)) ?_
  rintro _ _ ⟨rfl, ⟨rfl, h7⟩ | ⟨rfl, h7⟩⟩
  · exact absurd h7 hx2
  · show Ev _ _ _ _ _ 10 [some (.ref 359), some (.int x), none, none] [.int (nI 0)] (zz_SH, I, J) _
    refine Ev.if_eq (off := 11) (tgt := 21) (by decide +kernel) (by decide) (fun h10 => ?_) (fun h10 => absurd h10 (by decide))
    refine Ev.run [(.iconst (-1), 1)] (pc' := 22) (L' := [some (.ref 359), some (.int x), none, none]) (S' := [.int ((-1))]) rfl (by decide +kernel) rfl ?_
    exact Ev.iret rfl (by decide +kernel) (⟨rfl, rfl⟩)

set_option maxRecDepth 100000 in
set_option maxHeartbeats 4000000 in
theorem l_X7_price {sc : Nat × (Nat → Int32)} {d : Nat} (I : Nat → Nat → Int32) (J : Nat → Nat → Int64) (A : zA) (hV : MV (zVm I) A) (hW : WF A) : ∀ (μ : Nat) (i : Nat) (I1 : Nat → Nat → Int32), aM A - i < μ → (i ≤ aM A) → (zSc I I1) →  Ev sc (d + 8) 0 0 mX7_price 27 [some (.ref 359), some (.int ((-1))), some (.int (nI (prs A i))), some (.int (nI i))] [] (zz_SH, I1, J) (fun r σ => r = some (.int (nI (prs A (aM A)))) ∧ ∃ I' : Nat → Nat → Int32, zSc I I' ∧ σ = (zz_SH, I', J)) := by
  intro μ
  induction μ with
  | zero => intro i I1 hμ; exact absurd hμ (Nat.not_lt_zero _)
  | succ μ ih =>
    intro i I1 hμ hi hs
    have w1 := hW.1.1
    have w2 := hW.1.2.1
    have hV1 := hs.mv hV
    refine Ev.run [(.iload_n 3, 1), (.aload_n 0, 1), (.getfield 83, 3)] (pc' := 32) (L' := [some (.ref 359), some (.int ((-1))), some (.int (nI (prs A i))), some (.int (nI i))]) (S' := [.int (I1 359 8), .int (nI i)]) rfl (by decide +kernel) rfl ?_
    rw [show I1 359 8 = nI (aM A) from hV1.1.2.1]
    refine Ev.icmp_ge (off := 17) (tgt := 49) (by decide +kernel) (by decide) (fun h32 => ?_) (fun h32 => ?_)
    · have h32 : i ≥ (aM A) := zz_bG_t (by omega) (by omega) h32
      have hiM : aM A = i := by omega
      refine Ev.run [(.iload_n 2, 1)] (pc' := 50) (L' := [some (.ref 359), some (.int ((-1))), some (.int (nI (prs A i))), some (.int (nI i))]) (S' := [.int (nI (prs A i))]) rfl (by decide +kernel) rfl ?_
      exact Ev.iret rfl (by decide +kernel) (⟨by rw [hiM], I1, hs, rfl⟩)
    · have h32 : i < (aM A) := zz_bG_f (by omega) (by omega) h32
      refine Ev.run [(.iload_n 2, 1), (.aload_n 0, 1), (.iload_n 3, 1)] (pc' := 38) (L' := [some (.ref 359), some (.int ((-1))), some (.int (nI (prs A i))), some (.int (nI i))]) (S' := [.int (nI i), .ref 359, .int (nI (prs A i))]) rfl (by decide +kernel) rfl ?_
      refine Ev.callV0 mX7_priceOf [.int (nI i)] [.int (nI (prs A i))] _ rfl lk_RX7_140 (by decide +kernel) (rfl) rfl rfl rfl (Nat.le_of_ble_eq_true rfl) (c_X7_priceOf I1 J A hV1 hW i (by omega)) ?_
      rintro _ _ ⟨rfl, I2, hs_I2, rfl⟩
      show Ev _ _ _ _ _ 41 [some (.ref 359), some (.int ((-1))), some (.int (nI (prs A i))), some (.int (nI i))] [.int (nI (prc A i)), .int (nI (prs A i))] (zz_SH, I2, J) _
      refine Ev.run [(.iadd, 1)] (pc' := 42) (L' := [some (.ref 359), some (.int ((-1))), some (.int (nI (prs A i))), some (.int (nI i))]) (S' := [.int (nI (prs A i) + nI (prc A i))]) rfl (by decide +kernel) rfl ?_
      rw [nI_add (prs A i) (prc A i)]
      refine Ev.run [(.istore_n 2, 1), (.iinc 3 1, 3)] (pc' := 46) (L' := [some (.ref 359), some (.int ((-1))), some (.int (nI ((prs A i) + (prc A i)))), some (.int (nI i + 1))]) (S' := []) rfl (by decide +kernel) rfl ?_
      rw [nI_1 i]
      refine Ev.goto (off := (-19)) (tgt := 27) (by decide +kernel) (by decide) ?_
      exact ih (i + 1) I2 (by omega) (by omega) (hs.tr hs_I2.sc)

set_option maxRecDepth 100000 in
set_option maxHeartbeats 4000000 in
theorem c_X7_price_all {sc : Nat × (Nat → Int32)} {d : Nat} (I : Nat → Nat → Int32) (J : Nat → Nat → Int64) (A : zA) (hV : MV (zVm I) A) (hW : WF A) : EvM sc (d + 8) 0 0 mX7_price [.ref 359, .int ((-1))] (zz_SH, I, J) (fun r σ => r = some (.int (nI (prs A (aM A)))) ∧ ∃ I' : Nat → Nat → Int32, zSc I I' ∧ σ = (zz_SH, I', J)) := by
  have w1 := hW.1.1
  have w2 := hW.1.2.1
  refine EvM.of (by decide) rfl (Nat.le_of_ble_eq_true rfl) ?_
  show Ev _ _ _ _ _ 0 [some (.ref 359), some (.int ((-1))), none, none] [] (zz_SH, I, J) _
  refine Ev.run [(.iload_n 1, 1), (.iconst (-1), 1)] (pc' := 2) (L' := [some (.ref 359), some (.int ((-1))), none, none]) (S' := [.int ((-1)), .int ((-1))]) rfl (by decide +kernel) rfl ?_
  refine Ev.icmp_eq (off := 21) (tgt := 23) (by decide +kernel) (by decide) (fun h2 => ?_) (fun h2 => absurd h2 (by decide))
  refine Ev.run [(.iconst 0, 1), (.istore_n 2, 1), (.iconst 0, 1), (.istore_n 3, 1)] (pc' := 27) (L' := [some (.ref 359), some (.int ((-1))), some (.int (nI 0)), some (.int (nI 0))]) (S' := []) rfl (by decide +kernel) rfl ?_
  exact l_X7_price I J A hV hW (aM A + 1) 0 I (by omega) (by omega) (zSc.rf I)

set_option maxRecDepth 100000 in
set_option maxHeartbeats 4000000 in
theorem c_X7_found_0 {sc : Nat × (Nat → Int32)} {d : Nat} (I : Nat → Nat → Int32) (J : Nat → Nat → Int64) (A : zA) (hV : MV (zVm I) A) (hW : WF A) (k : Nat) (hk : k < aM A) : EvM sc (d + 7) 0 0 mX7_found [.ref 359, .int (nI k), .int (nI 0)] (zz_SH, I, J) (fun r σ => r = some (.int (fo (fnd A k (aN A)))) ∧ ∃ I' : Nat → Nat → Int32, zSc I I' ∧ σ = (zz_SH, I', J)) := by
  have w1 := hW.1.1
  have w2 := hW.1.2.1
  refine EvM.of (by decide) rfl (Nat.le_of_ble_eq_true rfl) ?_
  show Ev _ _ _ _ _ 0 [some (.ref 359), some (.int (nI k)), some (.int (nI 0)), none] [] (zz_SH, I, J) _
  refine Ev.run [(.aload_n 0, 1), (.iload_n 1, 1)] (pc' := 2) (L' := [some (.ref 359), some (.int (nI k)), some (.int (nI 0)), none]) (S' := [.int (nI k), .ref 359]) rfl (by decide +kernel) rfl ?_
  refine Ev.callV0 mX7_isSentence [.int (nI k)] [] _ rfl lk_RX7_107 (by decide +kernel) (rfl) rfl rfl rfl (Nat.le_of_ble_eq_true rfl) (c_X7_isSentence I J (aM A) (nI k) hV.1.2.1 (by omega)) ?_
  rintro _ _ ⟨rfl, ⟨rfl, h2⟩ | ⟨rfl, h2⟩⟩
  · show Ev _ _ _ _ _ 5 [some (.ref 359), some (.int (nI k)), some (.int (nI 0)), none] [.int (nI 1)] (zz_SH, I, J) _
    refine Ev.if_ne (off := 5) (tgt := 10) (by decide +kernel) (by decide) (fun h5 => ?_) (fun h5 => absurd h5 (by decide))
    refine Ev.run [(.iload_n 2, 1), (.iconst 0, 1), (.iconst 1, 1)] (pc' := 13) (L' := [some (.ref 359), some (.int (nI k)), some (.int (nI 0)), none]) (S' := [.int (nI 1), .int (nI 0), .int (nI 0)]) rfl (by decide +kernel) rfl ?_
    refine Ev.callS0 mX7_in [.int (nI 0), .int (nI 0), .int (nI 1)] [] _ rfl lk_RX7_79 (by decide +kernel) rfl (Nat.le_of_ble_eq_true rfl) (c_X7_in I J (nI 0) (nI 0) (nI 1)) ?_
    rintro _ _ ⟨rfl, ⟨rfl, h13⟩ | ⟨rfl, h13⟩⟩
    · show Ev _ _ _ _ _ 16 [some (.ref 359), some (.int (nI k)), some (.int (nI 0)), none] [.int (nI 1)] (zz_SH, I, J) _
      refine Ev.if_ne (off := 6) (tgt := 22) (by decide +kernel) (by decide) (fun h16 => ?_) (fun h16 => absurd h16 (by decide))
      refine Ev.run [(.aload_n 0, 1), (.iload_n 1, 1)] (pc' := 24) (L' := [some (.ref 359), some (.int (nI k)), some (.int (nI 0)), none]) (S' := [.int (nI k), .ref 359]) rfl (by decide +kernel) rfl ?_
      refine Ev.callV0 mX7_foundOf [.int (nI k)] [] _ rfl lk_RX7_130 (by decide +kernel) (rfl) rfl rfl rfl (Nat.le_of_ble_eq_true rfl) (c_X7_foundOf I J A hV hW k hk) ?_
      rintro _ _ ⟨rfl, I1, hs_I1, hf, rfl⟩
      show Ev _ _ _ _ _ 27 [some (.ref 359), some (.int (nI k)), some (.int (nI 0)), none] [.int (fo (fnd A k (aN A)))] (zz_SH, I1, J) _
      refine Ev.run [(.istore_n 3, 1), (.iload_n 2, 1)] (pc' := 29) (L' := [some (.ref 359), some (.int (nI k)), some (.int (nI 0)), some (.int (fo (fnd A k (aN A))))]) (S' := [.int (nI 0)]) rfl (by decide +kernel) rfl ?_
      refine Ev.if_ne (off := 7) (tgt := 36) (by decide +kernel) (by decide) (fun h29 => absurd h29 (by decide)) (fun h29 => ?_)
      refine Ev.run [(.iload_n 3, 1)] (pc' := 33) (L' := [some (.ref 359), some (.int (nI k)), some (.int (nI 0)), some (.int (fo (fnd A k (aN A))))]) (S' := [.int (fo (fnd A k (aN A)))]) rfl (by decide +kernel) rfl ?_
      refine Ev.goto (off := 7) (tgt := 40) (by decide +kernel) (by decide) ?_
      exact Ev.iret rfl (by decide +kernel) (⟨rfl, I1, hs_I1.sc, rfl⟩)
    · exact absurd (by decide) h13
  · exact absurd ⟨k, hk, rfl⟩ h2

set_option maxRecDepth 100000 in
set_option maxHeartbeats 4000000 in
theorem c_X7_found_1 {sc : Nat × (Nat → Int32)} {d : Nat} (I : Nat → Nat → Int32) (J : Nat → Nat → Int64) (A : zA) (hV : MV (zVm I) A) (hW : WF A) (k : Nat) (hk : k < aM A) : EvM sc (d + 7) 0 0 mX7_found [.ref 359, .int (nI k), .int (nI 1)] (zz_SH, I, J) (fun r σ => r = some (.int (fv (fnd A k (aN A)))) ∧ ∃ I' : Nat → Nat → Int32, zSc I I' ∧ σ = (zz_SH, I', J)) := by
  have w1 := hW.1.1
  have w2 := hW.1.2.1
  refine EvM.of (by decide) rfl (Nat.le_of_ble_eq_true rfl) ?_
  show Ev _ _ _ _ _ 0 [some (.ref 359), some (.int (nI k)), some (.int (nI 1)), none] [] (zz_SH, I, J) _
  refine Ev.run [(.aload_n 0, 1), (.iload_n 1, 1)] (pc' := 2) (L' := [some (.ref 359), some (.int (nI k)), some (.int (nI 1)), none]) (S' := [.int (nI k), .ref 359]) rfl (by decide +kernel) rfl ?_
  refine Ev.callV0 mX7_isSentence [.int (nI k)] [] _ rfl lk_RX7_107 (by decide +kernel) (rfl) rfl rfl rfl (Nat.le_of_ble_eq_true rfl) (c_X7_isSentence I J (aM A) (nI k) hV.1.2.1 (by omega)) ?_
  rintro _ _ ⟨rfl, ⟨rfl, h2⟩ | ⟨rfl, h2⟩⟩
  · show Ev _ _ _ _ _ 5 [some (.ref 359), some (.int (nI k)), some (.int (nI 1)), none] [.int (nI 1)] (zz_SH, I, J) _
    refine Ev.if_ne (off := 5) (tgt := 10) (by decide +kernel) (by decide) (fun h5 => ?_) (fun h5 => absurd h5 (by decide))
    refine Ev.run [(.iload_n 2, 1), (.iconst 0, 1), (.iconst 1, 1)] (pc' := 13) (L' := [some (.ref 359), some (.int (nI k)), some (.int (nI 1)), none]) (S' := [.int (nI 1), .int (nI 0), .int (nI 1)]) rfl (by decide +kernel) rfl ?_
    refine Ev.callS0 mX7_in [.int (nI 1), .int (nI 0), .int (nI 1)] [] _ rfl lk_RX7_79 (by decide +kernel) rfl (Nat.le_of_ble_eq_true rfl) (c_X7_in I J (nI 1) (nI 0) (nI 1)) ?_
    rintro _ _ ⟨rfl, ⟨rfl, h13⟩ | ⟨rfl, h13⟩⟩
    · show Ev _ _ _ _ _ 16 [some (.ref 359), some (.int (nI k)), some (.int (nI 1)), none] [.int (nI 1)] (zz_SH, I, J) _
      refine Ev.if_ne (off := 6) (tgt := 22) (by decide +kernel) (by decide) (fun h16 => ?_) (fun h16 => absurd h16 (by decide))
      refine Ev.run [(.aload_n 0, 1), (.iload_n 1, 1)] (pc' := 24) (L' := [some (.ref 359), some (.int (nI k)), some (.int (nI 1)), none]) (S' := [.int (nI k), .ref 359]) rfl (by decide +kernel) rfl ?_
      refine Ev.callV0 mX7_foundOf [.int (nI k)] [] _ rfl lk_RX7_130 (by decide +kernel) (rfl) rfl rfl rfl (Nat.le_of_ble_eq_true rfl) (c_X7_foundOf I J A hV hW k hk) ?_
      rintro _ _ ⟨rfl, I1, hs_I1, hf, rfl⟩
      show Ev _ _ _ _ _ 27 [some (.ref 359), some (.int (nI k)), some (.int (nI 1)), none] [.int (fo (fnd A k (aN A)))] (zz_SH, I1, J) _
      refine Ev.run [(.istore_n 3, 1), (.iload_n 2, 1)] (pc' := 29) (L' := [some (.ref 359), some (.int (nI k)), some (.int (nI 1)), some (.int (fo (fnd A k (aN A))))]) (S' := [.int (nI 1)]) rfl (by decide +kernel) rfl ?_
      refine Ev.if_ne (off := 7) (tgt := 36) (by decide +kernel) (by decide) (fun h29 => ?_) (fun h29 => absurd h29 (by decide))
      refine Ev.run [(.aload_n 0, 1), (.getfield 127, 3)] (pc' := 40) (L' := [some (.ref 359), some (.int (nI k)), some (.int (nI 1)), some (.int (fo (fnd A k (aN A))))]) (S' := [.int (I1 359 17)]) rfl (by decide +kernel) rfl ?_
      rw [hf]
      exact Ev.iret rfl (by decide +kernel) (⟨rfl, I1, hs_I1.sc, rfl⟩)
    · exact absurd (by decide) h13
  · exact absurd ⟨k, hk, rfl⟩ h2

set_option maxRecDepth 100000 in
set_option maxHeartbeats 4000000 in
theorem c_X7_found_u {sc : Nat × (Nat → Int32)} {d : Nat} (I : Nat → Nat → Int32) (J : Nat → Nat → Int64) (A : zA) (hV : MV (zVm I) A) (hW : WF A) (x y : Int32) (hx2 : ¬ zz_ix x (aM A)) : EvM sc (d + 7) 0 0 mX7_found [.ref 359, .int x, .int y] (zz_SH, I, J) (zz_is (.int (-1)) (zz_SH, I, J)) := by
  have w1 := hW.1.1
  have w2 := hW.1.2.1
  refine EvM.of (by decide) rfl (Nat.le_of_ble_eq_true rfl) ?_
  show Ev _ _ _ _ _ 0 [some (.ref 359), some (.int x), some (.int y), none] [] (zz_SH, I, J) _
  refine Ev.run [(.aload_n 0, 1), (.iload_n 1, 1)] (pc' := 2) (L' := [some (.ref 359), some (.int x), some (.int y), none]) (S' := [.int x, .ref 359]) rfl (by decide +kernel) rfl ?_
  refine Ev.callV0 mX7_isSentence [.int x] [] _ rfl lk_RX7_107 (by decide +kernel) (rfl) rfl rfl rfl (Nat.le_of_ble_eq_true rfl) (c_X7_isSentence I J (aM A) x hV.1.2.1 (by omega)) ?_
  rintro _ _ ⟨rfl, ⟨rfl, h2⟩ | ⟨rfl, h2⟩⟩
  · exact absurd h2 hx2
  · show Ev _ _ _ _ _ 5 [some (.ref 359), some (.int x), some (.int y), none] [.int (nI 0)] (zz_SH, I, J) _
    refine Ev.if_ne (off := 5) (tgt := 10) (by decide +kernel) (by decide) (fun h5 => absurd h5 (by decide)) (fun h5 => ?_)
    refine Ev.run [(.iconst (-1), 1)] (pc' := 9) (L' := [some (.ref 359), some (.int x), some (.int y), none]) (S' := [.int ((-1))]) rfl (by decide +kernel) rfl ?_
    exact Ev.iret rfl (by decide +kernel) (⟨rfl, rfl⟩)

set_option maxRecDepth 100000 in
set_option maxHeartbeats 4000000 in
theorem c_X7_found_o {sc : Nat × (Nat → Int32)} {d : Nat} (I : Nat → Nat → Int32) (J : Nat → Nat → Int64) (A : zA) (hV : MV (zVm I) A) (hW : WF A) (k : Nat) (hk : k < aM A) (y : Int32) (hy : ¬ zz_ix y 2) : EvM sc (d + 7) 0 0 mX7_found [.ref 359, .int (nI k), .int y] (zz_SH, I, J) (zz_is (.int (-2)) (zz_SH, I, J)) := by
  have w1 := hW.1.1
  have w2 := hW.1.2.1
  refine EvM.of (by decide) rfl (Nat.le_of_ble_eq_true rfl) ?_
  show Ev _ _ _ _ _ 0 [some (.ref 359), some (.int (nI k)), some (.int y), none] [] (zz_SH, I, J) _
  refine Ev.run [(.aload_n 0, 1), (.iload_n 1, 1)] (pc' := 2) (L' := [some (.ref 359), some (.int (nI k)), some (.int y), none]) (S' := [.int (nI k), .ref 359]) rfl (by decide +kernel) rfl ?_
  refine Ev.callV0 mX7_isSentence [.int (nI k)] [] _ rfl lk_RX7_107 (by decide +kernel) (rfl) rfl rfl rfl (Nat.le_of_ble_eq_true rfl) (c_X7_isSentence I J (aM A) (nI k) hV.1.2.1 (by omega)) ?_
  rintro _ _ ⟨rfl, ⟨rfl, h2⟩ | ⟨rfl, h2⟩⟩
  · show Ev _ _ _ _ _ 5 [some (.ref 359), some (.int (nI k)), some (.int y), none] [.int (nI 1)] (zz_SH, I, J) _
    refine Ev.if_ne (off := 5) (tgt := 10) (by decide +kernel) (by decide) (fun h5 => ?_) (fun h5 => absurd h5 (by decide))
    refine Ev.run [(.iload_n 2, 1), (.iconst 0, 1), (.iconst 1, 1)] (pc' := 13) (L' := [some (.ref 359), some (.int (nI k)), some (.int y), none]) (S' := [.int (nI 1), .int (nI 0), .int y]) rfl (by decide +kernel) rfl ?_
    refine Ev.callS0 mX7_in [.int y, .int (nI 0), .int (nI 1)] [] _ rfl lk_RX7_79 (by decide +kernel) rfl (Nat.le_of_ble_eq_true rfl) (c_X7_in I J y (nI 0) (nI 1)) ?_
    rintro _ _ ⟨rfl, ⟨rfl, h13⟩ | ⟨rfl, h13⟩⟩
    · rw [show (nI 1 : Int32) = nI 2 - nI 1 by decide, zz_ix_iff (by decide)] at h13; exact absurd h13 hy
    · show Ev _ _ _ _ _ 16 [some (.ref 359), some (.int (nI k)), some (.int y), none] [.int (nI 0)] (zz_SH, I, J) _
      refine Ev.if_ne (off := 6) (tgt := 22) (by decide +kernel) (by decide) (fun h16 => absurd h16 (by decide)) (fun h16 => ?_)
      refine Ev.run [(.bipush (-2), 2)] (pc' := 21) (L' := [some (.ref 359), some (.int (nI k)), some (.int y), none]) (S' := [.int ((-2))]) rfl (by decide +kernel) rfl ?_
      exact Ev.iret rfl (by decide +kernel) (⟨rfl, rfl⟩)
  · exact absurd ⟨k, hk, rfl⟩ h2

set_option maxRecDepth 100000 in
set_option maxHeartbeats 4000000 in
theorem l_X7_doesFill {sc : Nat × (Nat → Int32)} {d : Nat} (I : Nat → Nat → Int32) (J : Nat → Nat → Int64) (A : zA) (hV : MV (zVm I) A) (hW : WF A) (k p : Nat) (hk : k < aM A) (hp : p < aN A) (he : tz A k = fz A p) : ∀ (μ : Nat) (i : Nat), tz A k - i < μ → (i ≤ tz A k) → (∀ j, j < i → chg (tt A k j) (ff A p j) < 4) →  Ev sc (d + 3) 0 0 mX7_doesFill 24 [some (.ref 359), some (.int (nI k)), some (.int (nI p)), some (.int (nI 1)), some (.int (nI i))] [] (zz_SH, I, J) (zz_tf (dfl A k p) (zz_SH, I, J)) := by
  intro μ
  induction μ with
  | zero => intro i hμ; exact absurd hμ (Nat.not_lt_zero _)
  | succ μ ih =>
    intro i hμ hi hal
    have w1 := hW.1.1
    have w2 := hW.1.2.1
    have t1 := (hW.2.2.1 k hk).1
    have t2 := (hW.2.1 p hp).1
    refine Ev.run [(.iload 4, 2), (.aload_n 0, 1), (.getfield 28, 3), (.iload_n 1, 1)] (pc' := 31) (L' := [some (.ref 359), some (.int (nI k)), some (.int (nI p)), some (.int (nI 1)), some (.int (nI i))]) (S' := [.int (nI k), .ref 366, .int (nI i)]) rfl (by decide +kernel) rfl ?_
    refine Ev.iald k (by decide +kernel) (rfl) (rfl) (by omega) (by first | decide | omega) ?_
    dsimp only
    rw [show I 366 k = nI (tz A k) from (hV.2.2.1 k hk).1]
    refine Ev.icmp_ge (off := 50) (tgt := 82) (by decide +kernel) (by decide) (fun h32 => ?_) (fun h32 => ?_)
    · have h32 : i ≥ (tz A k) := zz_bG_t (by omega) (by omega) h32
      refine Ev.run [(.iload_n 3, 1)] (pc' := 83) (L' := [some (.ref 359), some (.int (nI k)), some (.int (nI p)), some (.int (nI 1)), some (.int (nI i))]) (S' := [.int (nI 1)]) rfl (by decide +kernel) rfl ?_
      exact Ev.zret rfl (by decide +kernel) (Or.inr rfl) (⟨rfl, Or.inl ⟨rfl, he, fun j hj => hal j (by omega)⟩⟩)
    · have h32 : i < (tz A k) := zz_bG_f (by omega) (by omega) h32
      refine Ev.run [(.iload_n 3, 1)] (pc' := 36) (L' := [some (.ref 359), some (.int (nI k)), some (.int (nI p)), some (.int (nI 1)), some (.int (nI i))]) (S' := [.int (nI 1)]) rfl (by decide +kernel) rfl ?_
      refine Ev.if_eq (off := 46) (tgt := 82) (by decide +kernel) (by decide) (fun h36 => absurd h36 (by decide)) (fun h36 => ?_)
      refine Ev.run [(.aload_n 0, 1), (.getfield 31, 3), (.bipush 12, 2), (.iload_n 1, 1), (.imul, 1)] (pc' := 47) (L' := [some (.ref 359), some (.int (nI k)), some (.int (nI p)), some (.int (nI 1)), some (.int (nI i))]) (S' := [.int (nI 12 * nI k), .ref 367]) rfl (by decide +kernel) rfl ?_
      rw [pk_mul 12 k]
      refine Ev.run [(.iload 4, 2), (.iadd, 1)] (pc' := 50) (L' := [some (.ref 359), some (.int (nI k)), some (.int (nI p)), some (.int (nI 1)), some (.int (nI i))]) (S' := [.int (nI (12 * k) + nI i), .ref 367]) rfl (by decide +kernel) rfl ?_
      rw [nI_add (12 * k) i]
      refine Ev.iald ((12 * k) + i) (by decide +kernel) (rfl) (rfl) (by omega) (by first | decide | omega) ?_
      dsimp only
      rw [show I 367 (12 * k + i) = nI (tt A k i) from (hV.2.2.1 k hk).2 i (by omega)]
      refine Ev.run [(.aload_n 0, 1), (.getfield 22, 3), (.bipush 12, 2), (.iload_n 2, 1), (.imul, 1)] (pc' := 59) (L' := [some (.ref 359), some (.int (nI k)), some (.int (nI p)), some (.int (nI 1)), some (.int (nI i))]) (S' := [.int (nI 12 * nI p), .ref 364, .int (nI (tt A k i))]) rfl (by decide +kernel) rfl ?_
      rw [pk_mul 12 p]
      refine Ev.run [(.iload 4, 2), (.iadd, 1)] (pc' := 62) (L' := [some (.ref 359), some (.int (nI k)), some (.int (nI p)), some (.int (nI 1)), some (.int (nI i))]) (S' := [.int (nI (12 * p) + nI i), .ref 364, .int (nI (tt A k i))]) rfl (by decide +kernel) rfl ?_
      rw [nI_add (12 * p) i]
      refine Ev.iald ((12 * p) + i) (by decide +kernel) (rfl) (rfl) (by omega) (by first | decide | omega) ?_
      dsimp only
      rw [show I 364 (12 * p + i) = nI (ff A p i) from (hV.2.1 p hp).2.2.2.1 i (by omega)]
      refine Ev.callS0 mX7_changes [.int (nI (tt A k i)), .int (nI (ff A p i))] [] _ rfl lk_RX7_103 (by decide +kernel) rfl (Nat.le_of_ble_eq_true rfl) (c_X7_changes I J (tt A k i) (ff A p i) (by have := ((hW.2.2.1 k hk).2 i (by omega)).2; omega) (by have := ((hW.2.1 p hp).2.1 i (by omega)).2; omega)) ?_
      rintro _ _ ⟨rfl, rfl⟩
      have b4 := chg_le (tt A k i) (ff A p i)
      show Ev _ _ _ _ _ 66 [some (.ref 359), some (.int (nI k)), some (.int (nI p)), some (.int (nI 1)), some (.int (nI i))] [.int (nI (chg (tt A k i) (ff A p i)))] (zz_SH, I, J) _
      refine Ev.run [(.iconst 4, 1)] (pc' := 67) (L' := [some (.ref 359), some (.int (nI k)), some (.int (nI p)), some (.int (nI 1)), some (.int (nI i))]) (S' := [.int (nI 4), .int (nI (chg (tt A k i) (ff A p i)))]) rfl (by decide +kernel) rfl ?_
      refine Ev.icmp_ge (off := 7) (tgt := 74) (by decide +kernel) (by decide) (fun h67 => ?_) (fun h67 => ?_)
      · have h67 : (chg (tt A k i) (ff A p i)) ≥ 4 := zz_bG_t (by omega) (by omega) h67
        refine Ev.run [(.iconst 0, 1), (.istore_n 3, 1), (.iinc 4 1, 3)] (pc' := 79) (L' := [some (.ref 359), some (.int (nI k)), some (.int (nI p)), some (.int (nI 0)), some (.int (nI i + 1))]) (S' := []) rfl (by decide +kernel) rfl ?_
        rw [nI_1 i]
        refine Ev.goto (off := (-55)) (tgt := 24) (by decide +kernel) (by decide) ?_
        refine Ev.run [(.iload 4, 2), (.aload_n 0, 1), (.getfield 28, 3), (.iload_n 1, 1)] (pc' := 31) (L' := [some (.ref 359), some (.int (nI k)), some (.int (nI p)), some (.int (nI 0)), some (.int (nI (i + 1)))]) (S' := [.int (nI k), .ref 366, .int (nI (i + 1))]) rfl (by decide +kernel) rfl ?_
        refine Ev.iald k (by decide +kernel) (rfl) (rfl) (by omega) (by first | decide | omega) ?_
        dsimp only
        rw [show I 366 k = nI (tz A k) from (hV.2.2.1 k hk).1]
        refine Ev.icmp_ge (off := 50) (tgt := 82) (by decide +kernel) (by decide) (fun g32 => ?_) (fun g32 => ?_)
        · have g32 : (i + 1) ≥ (tz A k) := zz_bG_t (by omega) (by omega) g32
          refine Ev.run [(.iload_n 3, 1)] (pc' := 83) (L' := [some (.ref 359), some (.int (nI k)), some (.int (nI p)), some (.int (nI 0)), some (.int (nI (i + 1)))]) (S' := [.int (nI 0)]) rfl (by decide +kernel) rfl ?_
          exact Ev.zret rfl (by decide +kernel) (Or.inl rfl) (⟨rfl, Or.inr ⟨rfl, fun q => absurd (q.2 i (by omega)) (by omega)⟩⟩)
        · have g32 : (i + 1) < (tz A k) := zz_bG_f (by omega) (by omega) g32
          refine Ev.run [(.iload_n 3, 1)] (pc' := 36) (L' := [some (.ref 359), some (.int (nI k)), some (.int (nI p)), some (.int (nI 0)), some (.int (nI (i + 1)))]) (S' := [.int (nI 0)]) rfl (by decide +kernel) rfl ?_
          refine Ev.if_eq (off := 46) (tgt := 82) (by decide +kernel) (by decide) (fun h36 => ?_) (fun h36 => absurd h36 (by decide))
          refine Ev.run [(.iload_n 3, 1)] (pc' := 83) (L' := [some (.ref 359), some (.int (nI k)), some (.int (nI p)), some (.int (nI 0)), some (.int (nI (i + 1)))]) (S' := [.int (nI 0)]) rfl (by decide +kernel) rfl ?_
          exact Ev.zret rfl (by decide +kernel) (Or.inl rfl) (⟨rfl, Or.inr ⟨rfl, fun q => absurd (q.2 i (by omega)) (by omega)⟩⟩)
      · have h67 : (chg (tt A k i) (ff A p i)) < 4 := zz_bG_f (by omega) (by omega) h67
        refine Ev.run [(.iconst 1, 1)] (pc' := 71) (L' := [some (.ref 359), some (.int (nI k)), some (.int (nI p)), some (.int (nI 1)), some (.int (nI i))]) (S' := [.int (nI 1)]) rfl (by decide +kernel) rfl ?_
        refine Ev.goto (off := 4) (tgt := 75) (by decide +kernel) (by decide) ?_
        refine Ev.run [(.istore_n 3, 1), (.iinc 4 1, 3)] (pc' := 79) (L' := [some (.ref 359), some (.int (nI k)), some (.int (nI p)), some (.int (nI 1)), some (.int (nI i + 1))]) (S' := []) rfl (by decide +kernel) rfl ?_
        rw [nI_1 i]
        refine Ev.goto (off := (-55)) (tgt := 24) (by decide +kernel) (by decide) ?_
        exact ih (i + 1) (by omega) (by omega) (lt_s hal (by omega))

set_option maxRecDepth 100000 in
set_option maxHeartbeats 4000000 in
theorem c_X7_doesFill {sc : Nat × (Nat → Int32)} {d : Nat} (I : Nat → Nat → Int32) (J : Nat → Nat → Int64) (A : zA) (hV : MV (zVm I) A) (hW : WF A) (k p : Nat) (hk : k < aM A) (hp : p < aN A) : EvM sc (d + 3) 0 0 mX7_doesFill [.ref 359, .int (nI k), .int (nI p)] (zz_SH, I, J) (zz_tf (dfl A k p) (zz_SH, I, J)) := by
  have w1 := hW.1.1
  have w2 := hW.1.2.1
  have t1 := (hW.2.2.1 k hk).1
  have t2 := (hW.2.1 p hp).1
  refine EvM.of (by decide) rfl (Nat.le_of_ble_eq_true rfl) ?_
  show Ev _ _ _ _ _ 0 [some (.ref 359), some (.int (nI k)), some (.int (nI p)), none, none] [] (zz_SH, I, J) _
  refine Ev.run [(.aload_n 0, 1), (.getfield 28, 3), (.iload_n 1, 1)] (pc' := 5) (L' := [some (.ref 359), some (.int (nI k)), some (.int (nI p)), none, none]) (S' := [.int (nI k), .ref 366]) rfl (by decide +kernel) rfl ?_
  refine Ev.iald k (by decide +kernel) (rfl) (rfl) (by omega) (by first | decide | omega) ?_
  dsimp only
  rw [show I 366 k = nI (tz A k) from (hV.2.2.1 k hk).1]
  refine Ev.run [(.aload_n 0, 1), (.getfield 16, 3), (.iload_n 2, 1)] (pc' := 11) (L' := [some (.ref 359), some (.int (nI k)), some (.int (nI p)), none, none]) (S' := [.int (nI p), .ref 362, .int (nI (tz A k))]) rfl (by decide +kernel) rfl ?_
  refine Ev.iald p (by decide +kernel) (rfl) (rfl) (by omega) (by first | decide | omega) ?_
  dsimp only
  rw [show I 362 p = nI (fz A p) from (hV.2.1 p hp).2.1]
  refine Ev.icmp_ne (off := 7) (tgt := 19) (by decide +kernel) (by decide) (fun h12 => ?_) (fun h12 => ?_)
  · have h12 : ¬ (tz A k) = (fz A p) := zz_bE_f (by omega) (by omega) h12
    refine Ev.run [(.iconst 0, 1), (.istore_n 3, 1), (.iconst 0, 1), (.istore 4, 2), (.iload 4, 2), (.aload_n 0, 1), (.getfield 28, 3), (.iload_n 1, 1)] (pc' := 31) (L' := [some (.ref 359), some (.int (nI k)), some (.int (nI p)), some (.int (nI 0)), some (.int (nI 0))]) (S' := [.int (nI k), .ref 366, .int (nI 0)]) rfl (by decide +kernel) rfl ?_
    refine Ev.iald k (by decide +kernel) (rfl) (rfl) (by omega) (by first | decide | omega) ?_
    dsimp only
    rw [show I 366 k = nI (tz A k) from (hV.2.2.1 k hk).1]
    refine Ev.icmp_ge (off := 50) (tgt := 82) (by decide +kernel) (by decide) (fun h32 => ?_) (fun h32 => ?_)
    · have h32 : 0 ≥ (tz A k) := zz_bG_t (by omega) (by omega) h32
      refine Ev.run [(.iload_n 3, 1)] (pc' := 83) (L' := [some (.ref 359), some (.int (nI k)), some (.int (nI p)), some (.int (nI 0)), some (.int (nI 0))]) (S' := [.int (nI 0)]) rfl (by decide +kernel) rfl ?_
      exact Ev.zret rfl (by decide +kernel) (Or.inl rfl) (⟨rfl, Or.inr ⟨rfl, fun q => h12 q.1⟩⟩)
    · have h32 : 0 < (tz A k) := zz_bG_f (by omega) (by omega) h32
      refine Ev.run [(.iload_n 3, 1)] (pc' := 36) (L' := [some (.ref 359), some (.int (nI k)), some (.int (nI p)), some (.int (nI 0)), some (.int (nI 0))]) (S' := [.int (nI 0)]) rfl (by decide +kernel) rfl ?_
      refine Ev.if_eq (off := 46) (tgt := 82) (by decide +kernel) (by decide) (fun h36 => ?_) (fun h36 => absurd h36 (by decide))
      refine Ev.run [(.iload_n 3, 1)] (pc' := 83) (L' := [some (.ref 359), some (.int (nI k)), some (.int (nI p)), some (.int (nI 0)), some (.int (nI 0))]) (S' := [.int (nI 0)]) rfl (by decide +kernel) rfl ?_
      exact Ev.zret rfl (by decide +kernel) (Or.inl rfl) (⟨rfl, Or.inr ⟨rfl, fun q => h12 q.1⟩⟩)
  · have h12 : (tz A k) = (fz A p) := zz_bE_t (by omega) (by omega) h12
    refine Ev.run [(.iconst 1, 1)] (pc' := 16) (L' := [some (.ref 359), some (.int (nI k)), some (.int (nI p)), none, none]) (S' := [.int (nI 1)]) rfl (by decide +kernel) rfl ?_
    refine Ev.goto (off := 4) (tgt := 20) (by decide +kernel) (by decide) ?_
    refine Ev.run [(.istore_n 3, 1), (.iconst 0, 1), (.istore 4, 2)] (pc' := 24) (L' := [some (.ref 359), some (.int (nI k)), some (.int (nI p)), some (.int (nI 1)), some (.int (nI 0))]) (S' := []) rfl (by decide +kernel) rfl ?_
    exact l_X7_doesFill I J A hV hW k p hk hp h12 (tz A k + 1) 0 (by omega) (by omega) (fun j hj => absurd hj (Nat.not_lt_zero j))

theorem zz_ix16 {i : Int32} {n : Nat} (hn : n < 1000) : (nI 0 ≤ i ∧ i ≤ nI n - nI 1) ↔ zz_ix i n := zz_ix_iff (by omega)

set_option maxRecDepth 100000 in
set_option maxHeartbeats 4000000 in
theorem c_X7_filled_u {sc : Nat × (Nat → Int32)} {d : Nat} (I : Nat → Nat → Int32) (J : Nat → Nat → Int64) (A : zA) (hV : MV (zVm I) A) (hW : WF A) (x y : Int32) (hx2 : ¬ zz_ix x (aM A)) : EvM sc (d + 7) 0 0 mX7_filled [.ref 359, .int x, .int y] (zz_SH, I, J) (zz_is (.int (-1)) (zz_SH, I, J)) := by
  have w1 := hW.1.1
  have w2 := hW.1.2.1
  refine EvM.of (by decide) rfl (Nat.le_of_ble_eq_true rfl) ?_
  show Ev _ _ _ _ _ 0 [some (.ref 359), some (.int x), some (.int y), none, none, none] [] (zz_SH, I, J) _
  refine Ev.run [(.aload_n 0, 1), (.iload_n 1, 1)] (pc' := 2) (L' := [some (.ref 359), some (.int x), some (.int y), none, none, none]) (S' := [.int x, .ref 359]) rfl (by decide +kernel) rfl ?_
  refine Ev.callV0 mX7_isSentence [.int x] [] _ rfl lk_RX7_107 (by decide +kernel) (rfl) rfl rfl rfl (Nat.le_of_ble_eq_true rfl) (c_X7_isSentence I J (aM A) x hV.1.2.1 (by omega)) ?_
  rintro _ _ ⟨rfl, ⟨rfl, h2⟩ | ⟨rfl, h2⟩⟩
  · exact absurd h2 hx2
  · show Ev _ _ _ _ _ 5 [some (.ref 359), some (.int x), some (.int y), none, none, none] [.int (nI 0)] (zz_SH, I, J) _
    refine Ev.if_ne (off := 5) (tgt := 10) (by decide +kernel) (by decide) (fun h5 => absurd h5 (by decide)) (fun h5 => ?_)
    refine Ev.run [(.iconst (-1), 1)] (pc' := 9) (L' := [some (.ref 359), some (.int x), some (.int y), none, none, none]) (S' := [.int ((-1))]) rfl (by decide +kernel) rfl ?_
    exact Ev.iret rfl (by decide +kernel) (⟨rfl, rfl⟩)

set_option maxRecDepth 100000 in
set_option maxHeartbeats 4000000 in
theorem c_X7_filled_n {sc : Nat × (Nat → Int32)} {d : Nat} (I : Nat → Nat → Int32) (J : Nat → Nat → Int64) (A : zA) (hV : MV (zVm I) A) (hW : WF A) (k : Nat) (hk : k < aM A) (y : Int32) (hx : fnd A k (aN A) = none) : EvM sc (d + 7) 0 0 mX7_filled [.ref 359, .int (nI k), .int y] (zz_SH, I, J) (fun r σ => r = some (.int (-5)) ∧ ∃ I' : Nat → Nat → Int32, zSc I I' ∧ σ = (zz_SH, I', J)) := by
  have w1 := hW.1.1
  have w2 := hW.1.2.1
  refine EvM.of (by decide) rfl (Nat.le_of_ble_eq_true rfl) ?_
  show Ev _ _ _ _ _ 0 [some (.ref 359), some (.int (nI k)), some (.int y), none, none, none] [] (zz_SH, I, J) _
  refine Ev.run [(.aload_n 0, 1), (.iload_n 1, 1)] (pc' := 2) (L' := [some (.ref 359), some (.int (nI k)), some (.int y), none, none, none]) (S' := [.int (nI k), .ref 359]) rfl (by decide +kernel) rfl ?_
  refine Ev.callV0 mX7_isSentence [.int (nI k)] [] _ rfl lk_RX7_107 (by decide +kernel) (rfl) rfl rfl rfl (Nat.le_of_ble_eq_true rfl) (c_X7_isSentence I J (aM A) (nI k) hV.1.2.1 (by omega)) ?_
  rintro _ _ ⟨rfl, ⟨rfl, h2⟩ | ⟨rfl, h2⟩⟩
  · show Ev _ _ _ _ _ 5 [some (.ref 359), some (.int (nI k)), some (.int y), none, none, none] [.int (nI 1)] (zz_SH, I, J) _
    refine Ev.if_ne (off := 5) (tgt := 10) (by decide +kernel) (by decide) (fun h5 => ?_) (fun h5 => absurd h5 (by decide))
    refine Ev.run [(.aload_n 0, 1), (.iload_n 1, 1)] (pc' := 12) (L' := [some (.ref 359), some (.int (nI k)), some (.int y), none, none, none]) (S' := [.int (nI k), .ref 359]) rfl (by decide +kernel) rfl ?_
    refine Ev.callV0 mX7_foundOf [.int (nI k)] [] _ rfl lk_RX7_130 (by decide +kernel) (rfl) rfl rfl rfl (Nat.le_of_ble_eq_true rfl) (c_X7_foundOf I J A hV hW k hk) ?_
    rintro _ _ ⟨rfl, I1, hs_I1, hf, rfl⟩
    rw [hx]
    have hV1 := hs_I1.mv hV
    show Ev _ _ _ _ _ 15 [some (.ref 359), some (.int (nI k)), some (.int y), none, none, none] [.int ((-6))] (zz_SH, I1, J) _
    refine Ev.run [(.istore_n 3, 1), (.iload_n 3, 1)] (pc' := 17) (L' := [some (.ref 359), some (.int (nI k)), some (.int y), some (.int ((-6))), none, none]) (S' := [.int ((-6))]) rfl (by decide +kernel) rfl ?_
    refine Ev.if_lt (off := 12) (tgt := 29) (by decide +kernel) (by decide) (fun h17 => ?_) (fun h17 => absurd h17 (by decide))
    refine Ev.run [(.bipush (-5), 2)] (pc' := 31) (L' := [some (.ref 359), some (.int (nI k)), some (.int y), some (.int ((-6))), none, none]) (S' := [.int ((-5))]) rfl (by decide +kernel) rfl ?_
    exact Ev.iret rfl (by decide +kernel) (⟨rfl, I1, hs_I1.sc, rfl⟩)
  · exact absurd ⟨k, hk, rfl⟩ h2

set_option maxRecDepth 100000 in
set_option maxHeartbeats 4000000 in
theorem c_X7_filled_no {sc : Nat × (Nat → Int32)} {d : Nat} (I : Nat → Nat → Int32) (J : Nat → Nat → Int64) (A : zA) (hV : MV (zVm I) A) (hW : WF A) (k : Nat) (hk : k < aM A) (p v : Nat) (hx : fnd A k (aN A) = some (p, v)) (y : Int32) (hdf : ¬ dfl A k p) : EvM sc (d + 7) 0 0 mX7_filled [.ref 359, .int (nI k), .int y] (zz_SH, I, J) (fun r σ => r = some (.int (-5)) ∧ ∃ I' : Nat → Nat → Int32, zSc I I' ∧ σ = (zz_SH, I', J)) := by
  have w1 := hW.1.1
  have w2 := hW.1.2.1
  obtain ⟨hp1, hp2⟩ := fnd_ok A k _ p v hx
  have t1 := (hW.2.2.1 k hk).1
  have t2 := (hW.2.1 p hp1).1
  refine EvM.of (by decide) rfl (Nat.le_of_ble_eq_true rfl) ?_
  show Ev _ _ _ _ _ 0 [some (.ref 359), some (.int (nI k)), some (.int y), none, none, none] [] (zz_SH, I, J) _
  refine Ev.run [(.aload_n 0, 1), (.iload_n 1, 1)] (pc' := 2) (L' := [some (.ref 359), some (.int (nI k)), some (.int y), none, none, none]) (S' := [.int (nI k), .ref 359]) rfl (by decide +kernel) rfl ?_
  refine Ev.callV0 mX7_isSentence [.int (nI k)] [] _ rfl lk_RX7_107 (by decide +kernel) (rfl) rfl rfl rfl (Nat.le_of_ble_eq_true rfl) (c_X7_isSentence I J (aM A) (nI k) hV.1.2.1 (by omega)) ?_
  rintro _ _ ⟨rfl, ⟨rfl, h2⟩ | ⟨rfl, h2⟩⟩
  · show Ev _ _ _ _ _ 5 [some (.ref 359), some (.int (nI k)), some (.int y), none, none, none] [.int (nI 1)] (zz_SH, I, J) _
    refine Ev.if_ne (off := 5) (tgt := 10) (by decide +kernel) (by decide) (fun h5 => ?_) (fun h5 => absurd h5 (by decide))
    refine Ev.run [(.aload_n 0, 1), (.iload_n 1, 1)] (pc' := 12) (L' := [some (.ref 359), some (.int (nI k)), some (.int y), none, none, none]) (S' := [.int (nI k), .ref 359]) rfl (by decide +kernel) rfl ?_
    refine Ev.callV0 mX7_foundOf [.int (nI k)] [] _ rfl lk_RX7_130 (by decide +kernel) (rfl) rfl rfl rfl (Nat.le_of_ble_eq_true rfl) (c_X7_foundOf I J A hV hW k hk) ?_
    rintro _ _ ⟨rfl, I1, hs_I1, hf, rfl⟩
    rw [hx]
    have hV1 := hs_I1.mv hV
    show Ev _ _ _ _ _ 15 [some (.ref 359), some (.int (nI k)), some (.int y), none, none, none] [.int (nI p)] (zz_SH, I1, J) _
    refine Ev.run [(.istore_n 3, 1), (.iload_n 3, 1)] (pc' := 17) (L' := [some (.ref 359), some (.int (nI k)), some (.int y), some (.int (nI p)), none, none]) (S' := [.int (nI p)]) rfl (by decide +kernel) rfl ?_
    refine Ev.if_lt (off := 12) (tgt := 29) (by decide +kernel) (by decide) (fun h17 => ?_) (fun h17 => ?_)
    · have h17 : p < 0 := zz_bL_t (by omega) (by omega) h17
      exfalso; omega
    · have h17 : p ≥ 0 := zz_bL_f (by omega) (by omega) h17
      refine Ev.run [(.aload_n 0, 1), (.iload_n 1, 1), (.iload_n 3, 1)] (pc' := 23) (L' := [some (.ref 359), some (.int (nI k)), some (.int y), some (.int (nI p)), none, none]) (S' := [.int (nI p), .int (nI k), .ref 359]) rfl (by decide +kernel) rfl ?_
      refine Ev.callV0 mX7_doesFill [.int (nI k), .int (nI p)] [] _ rfl lk_RX7_133 (by decide +kernel) (rfl) rfl rfl rfl (Nat.le_of_ble_eq_true rfl) (c_X7_doesFill I1 J A hV1 hW k p hk hp1) ?_
      rintro _ _ ⟨rfl, ⟨rfl, h23⟩ | ⟨rfl, h23⟩⟩
      · exact absurd h23 hdf
      · show Ev _ _ _ _ _ 26 [some (.ref 359), some (.int (nI k)), some (.int y), some (.int (nI p)), none, none] [.int (nI 0)] (zz_SH, I1, J) _
        refine Ev.if_ne (off := 6) (tgt := 32) (by decide +kernel) (by decide) (fun h26 => absurd h26 (by decide)) (fun h26 => ?_)
        refine Ev.run [(.bipush (-5), 2)] (pc' := 31) (L' := [some (.ref 359), some (.int (nI k)), some (.int y), some (.int (nI p)), none, none]) (S' := [.int ((-5))]) rfl (by decide +kernel) rfl ?_
        exact Ev.iret rfl (by decide +kernel) (⟨rfl, I1, hs_I1.sc, rfl⟩)
  · exact absurd ⟨k, hk, rfl⟩ h2

set_option maxRecDepth 100000 in
set_option maxHeartbeats 4000000 in
theorem c_X7_filled_len {sc : Nat × (Nat → Int32)} {d : Nat} (I : Nat → Nat → Int32) (J : Nat → Nat → Int64) (A : zA) (hV : MV (zVm I) A) (hW : WF A) (k : Nat) (hk : k < aM A) (p v : Nat) (hx : fnd A k (aN A) = some (p, v)) (hdf : dfl A k p) (hy : ¬ zz_ix (-1) (gz A p)) : EvM sc (d + 7) 0 0 mX7_filled [.ref 359, .int (nI k), .int ((-1))] (zz_SH, I, J) (fun r σ => r = some (.int (nI (gz A p))) ∧ ∃ I' : Nat → Nat → Int32, zSc I I' ∧ σ = (zz_SH, I', J)) := by
  have w1 := hW.1.1
  have w2 := hW.1.2.1
  obtain ⟨hp1, hp2⟩ := fnd_ok A k _ p v hx
  have t1 := (hW.2.2.1 k hk).1
  have t2 := (hW.2.1 p hp1).1
  refine EvM.of (by decide) rfl (Nat.le_of_ble_eq_true rfl) ?_
  show Ev _ _ _ _ _ 0 [some (.ref 359), some (.int (nI k)), some (.int ((-1))), none, none, none] [] (zz_SH, I, J) _
  refine Ev.run [(.aload_n 0, 1), (.iload_n 1, 1)] (pc' := 2) (L' := [some (.ref 359), some (.int (nI k)), some (.int ((-1))), none, none, none]) (S' := [.int (nI k), .ref 359]) rfl (by decide +kernel) rfl ?_
  refine Ev.callV0 mX7_isSentence [.int (nI k)] [] _ rfl lk_RX7_107 (by decide +kernel) (rfl) rfl rfl rfl (Nat.le_of_ble_eq_true rfl) (c_X7_isSentence I J (aM A) (nI k) hV.1.2.1 (by omega)) ?_
  rintro _ _ ⟨rfl, ⟨rfl, h2⟩ | ⟨rfl, h2⟩⟩
  · show Ev _ _ _ _ _ 5 [some (.ref 359), some (.int (nI k)), some (.int ((-1))), none, none, none] [.int (nI 1)] (zz_SH, I, J) _
    refine Ev.if_ne (off := 5) (tgt := 10) (by decide +kernel) (by decide) (fun h5 => ?_) (fun h5 => absurd h5 (by decide))
    refine Ev.run [(.aload_n 0, 1), (.iload_n 1, 1)] (pc' := 12) (L' := [some (.ref 359), some (.int (nI k)), some (.int ((-1))), none, none, none]) (S' := [.int (nI k), .ref 359]) rfl (by decide +kernel) rfl ?_
    refine Ev.callV0 mX7_foundOf [.int (nI k)] [] _ rfl lk_RX7_130 (by decide +kernel) (rfl) rfl rfl rfl (Nat.le_of_ble_eq_true rfl) (c_X7_foundOf I J A hV hW k hk) ?_
    rintro _ _ ⟨rfl, I1, hs_I1, hf, rfl⟩
    rw [hx]
    have hV1 := hs_I1.mv hV
    show Ev _ _ _ _ _ 15 [some (.ref 359), some (.int (nI k)), some (.int ((-1))), none, none, none] [.int (nI p)] (zz_SH, I1, J) _
    refine Ev.run [(.istore_n 3, 1), (.iload_n 3, 1)] (pc' := 17) (L' := [some (.ref 359), some (.int (nI k)), some (.int ((-1))), some (.int (nI p)), none, none]) (S' := [.int (nI p)]) rfl (by decide +kernel) rfl ?_
    refine Ev.if_lt (off := 12) (tgt := 29) (by decide +kernel) (by decide) (fun h17 => ?_) (fun h17 => ?_)
    · have h17 : p < 0 := zz_bL_t (by omega) (by omega) h17
      exfalso; omega
    · have h17 : p ≥ 0 := zz_bL_f (by omega) (by omega) h17
      refine Ev.run [(.aload_n 0, 1), (.iload_n 1, 1), (.iload_n 3, 1)] (pc' := 23) (L' := [some (.ref 359), some (.int (nI k)), some (.int ((-1))), some (.int (nI p)), none, none]) (S' := [.int (nI p), .int (nI k), .ref 359]) rfl (by decide +kernel) rfl ?_
      refine Ev.callV0 mX7_doesFill [.int (nI k), .int (nI p)] [] _ rfl lk_RX7_133 (by decide +kernel) (rfl) rfl rfl rfl (Nat.le_of_ble_eq_true rfl) (c_X7_doesFill I1 J A hV1 hW k p hk hp1) ?_
      rintro _ _ ⟨rfl, ⟨rfl, h23⟩ | ⟨rfl, h23⟩⟩
      · show Ev _ _ _ _ _ 26 [some (.ref 359), some (.int (nI k)), some (.int ((-1))), some (.int (nI p)), none, none] [.int (nI 1)] (zz_SH, I1, J) _
        refine Ev.if_ne (off := 6) (tgt := 32) (by decide +kernel) (by decide) (fun h26 => ?_) (fun h26 => absurd h26 (by decide))
        refine Ev.run [(.iload_n 2, 1), (.iconst 0, 1), (.aload_n 0, 1), (.getfield 19, 3), (.iload_n 3, 1)] (pc' := 39) (L' := [some (.ref 359), some (.int (nI k)), some (.int ((-1))), some (.int (nI p)), none, none]) (S' := [.int (nI p), .ref 363, .int (nI 0), .int ((-1))]) rfl (by decide +kernel) rfl ?_
        refine Ev.iald p (by decide +kernel) (rfl) (rfl) (by omega) (by first | decide | omega) ?_
        dsimp only
        rw [show I1 363 p = nI (gz A p) from (hV1.2.1 p hp1).2.2.1]
        refine Ev.run [(.iconst 1, 1), (.isub, 1)] (pc' := 42) (L' := [some (.ref 359), some (.int (nI k)), some (.int ((-1))), some (.int (nI p)), none, none]) (S' := [.int (nI (gz A p) - nI 1), .int (nI 0), .int ((-1))]) rfl (by decide +kernel) rfl ?_
        rw [show nI (gz A p) - nI 1 = nI (gz A p) - nI 1 from rfl]
        refine Ev.callS0 mX7_in [.int ((-1)), .int (nI 0), .int (nI (gz A p) - nI 1)] [] _ rfl lk_RX7_79 (by decide +kernel) rfl (Nat.le_of_ble_eq_true rfl) (c_X7_in I1 J ((-1)) (nI 0) (nI (gz A p) - nI 1)) ?_
        rintro _ _ ⟨rfl, ⟨rfl, h42⟩ | ⟨rfl, h42⟩⟩
        · rw [zz_ix16 (by omega)] at h42; exact absurd h42 hy
        · show Ev _ _ _ _ _ 45 [some (.ref 359), some (.int (nI k)), some (.int ((-1))), some (.int (nI p)), none, none] [.int (nI 0)] (zz_SH, I1, J) _
          refine Ev.if_ne (off := 20) (tgt := 65) (by decide +kernel) (by decide) (fun h45 => absurd h45 (by decide)) (fun h45 => ?_)
          refine Ev.run [(.iload_n 2, 1), (.iconst (-1), 1)] (pc' := 50) (L' := [some (.ref 359), some (.int (nI k)), some (.int ((-1))), some (.int (nI p)), none, none]) (S' := [.int ((-1)), .int ((-1))]) rfl (by decide +kernel) rfl ?_
          refine Ev.icmp_ne (off := 12) (tgt := 62) (by decide +kernel) (by decide) (fun h50 => absurd h50 (fun q => q rfl)) (fun h50 => ?_)
          refine Ev.run [(.aload_n 0, 1), (.getfield 19, 3), (.iload_n 3, 1)] (pc' := 58) (L' := [some (.ref 359), some (.int (nI k)), some (.int ((-1))), some (.int (nI p)), none, none]) (S' := [.int (nI p), .ref 363]) rfl (by decide +kernel) rfl ?_
          refine Ev.iald p (by decide +kernel) (rfl) (rfl) (by omega) (by first | decide | omega) ?_
          dsimp only
          rw [show I1 363 p = nI (gz A p) from (hV1.2.1 p hp1).2.2.1]
          refine Ev.goto (off := 5) (tgt := 64) (by decide +kernel) (by decide) ?_
          exact Ev.iret rfl (by decide +kernel) (⟨rfl, I1, hs_I1.sc, rfl⟩)
      · exact absurd hdf h23
  · exact absurd ⟨k, hk, rfl⟩ h2

set_option maxRecDepth 100000 in
set_option maxHeartbeats 4000000 in
theorem c_X7_filled_out {sc : Nat × (Nat → Int32)} {d : Nat} (I : Nat → Nat → Int32) (J : Nat → Nat → Int64) (A : zA) (hV : MV (zVm I) A) (hW : WF A) (k : Nat) (hk : k < aM A) (p v : Nat) (hx : fnd A k (aN A) = some (p, v)) (y : Int32) (hdf : dfl A k p) (hy : ¬ zz_ix y (gz A p)) (hy1 : ¬ y = (-1)) : EvM sc (d + 7) 0 0 mX7_filled [.ref 359, .int (nI k), .int y] (zz_SH, I, J) (fun r σ => r = some (.int (-6)) ∧ ∃ I' : Nat → Nat → Int32, zSc I I' ∧ σ = (zz_SH, I', J)) := by
  have w1 := hW.1.1
  have w2 := hW.1.2.1
  obtain ⟨hp1, hp2⟩ := fnd_ok A k _ p v hx
  have t1 := (hW.2.2.1 k hk).1
  have t2 := (hW.2.1 p hp1).1
  refine EvM.of (by decide) rfl (Nat.le_of_ble_eq_true rfl) ?_
  show Ev _ _ _ _ _ 0 [some (.ref 359), some (.int (nI k)), some (.int y), none, none, none] [] (zz_SH, I, J) _
  refine Ev.run [(.aload_n 0, 1), (.iload_n 1, 1)] (pc' := 2) (L' := [some (.ref 359), some (.int (nI k)), some (.int y), none, none, none]) (S' := [.int (nI k), .ref 359]) rfl (by decide +kernel) rfl ?_
  refine Ev.callV0 mX7_isSentence [.int (nI k)] [] _ rfl lk_RX7_107 (by decide +kernel) (rfl) rfl rfl rfl (Nat.le_of_ble_eq_true rfl) (c_X7_isSentence I J (aM A) (nI k) hV.1.2.1 (by omega)) ?_
  rintro _ _ ⟨rfl, ⟨rfl, h2⟩ | ⟨rfl, h2⟩⟩
  · show Ev _ _ _ _ _ 5 [some (.ref 359), some (.int (nI k)), some (.int y), none, none, none] [.int (nI 1)] (zz_SH, I, J) _
    refine Ev.if_ne (off := 5) (tgt := 10) (by decide +kernel) (by decide) (fun h5 => ?_) (fun h5 => absurd h5 (by decide))
    refine Ev.run [(.aload_n 0, 1), (.iload_n 1, 1)] (pc' := 12) (L' := [some (.ref 359), some (.int (nI k)), some (.int y), none, none, none]) (S' := [.int (nI k), .ref 359]) rfl (by decide +kernel) rfl ?_
    refine Ev.callV0 mX7_foundOf [.int (nI k)] [] _ rfl lk_RX7_130 (by decide +kernel) (rfl) rfl rfl rfl (Nat.le_of_ble_eq_true rfl) (c_X7_foundOf I J A hV hW k hk) ?_
    rintro _ _ ⟨rfl, I1, hs_I1, hf, rfl⟩
    rw [hx]
    have hV1 := hs_I1.mv hV
    show Ev _ _ _ _ _ 15 [some (.ref 359), some (.int (nI k)), some (.int y), none, none, none] [.int (nI p)] (zz_SH, I1, J) _
    refine Ev.run [(.istore_n 3, 1), (.iload_n 3, 1)] (pc' := 17) (L' := [some (.ref 359), some (.int (nI k)), some (.int y), some (.int (nI p)), none, none]) (S' := [.int (nI p)]) rfl (by decide +kernel) rfl ?_
    refine Ev.if_lt (off := 12) (tgt := 29) (by decide +kernel) (by decide) (fun h17 => ?_) (fun h17 => ?_)
    · have h17 : p < 0 := zz_bL_t (by omega) (by omega) h17
      exfalso; omega
    · have h17 : p ≥ 0 := zz_bL_f (by omega) (by omega) h17
      refine Ev.run [(.aload_n 0, 1), (.iload_n 1, 1), (.iload_n 3, 1)] (pc' := 23) (L' := [some (.ref 359), some (.int (nI k)), some (.int y), some (.int (nI p)), none, none]) (S' := [.int (nI p), .int (nI k), .ref 359]) rfl (by decide +kernel) rfl ?_
      refine Ev.callV0 mX7_doesFill [.int (nI k), .int (nI p)] [] _ rfl lk_RX7_133 (by decide +kernel) (rfl) rfl rfl rfl (Nat.le_of_ble_eq_true rfl) (c_X7_doesFill I1 J A hV1 hW k p hk hp1) ?_
      rintro _ _ ⟨rfl, ⟨rfl, h23⟩ | ⟨rfl, h23⟩⟩
      · show Ev _ _ _ _ _ 26 [some (.ref 359), some (.int (nI k)), some (.int y), some (.int (nI p)), none, none] [.int (nI 1)] (zz_SH, I1, J) _
        refine Ev.if_ne (off := 6) (tgt := 32) (by decide +kernel) (by decide) (fun h26 => ?_) (fun h26 => absurd h26 (by decide))
        refine Ev.run [(.iload_n 2, 1), (.iconst 0, 1), (.aload_n 0, 1), (.getfield 19, 3), (.iload_n 3, 1)] (pc' := 39) (L' := [some (.ref 359), some (.int (nI k)), some (.int y), some (.int (nI p)), none, none]) (S' := [.int (nI p), .ref 363, .int (nI 0), .int y]) rfl (by decide +kernel) rfl ?_
        refine Ev.iald p (by decide +kernel) (rfl) (rfl) (by omega) (by first | decide | omega) ?_
        dsimp only
        rw [show I1 363 p = nI (gz A p) from (hV1.2.1 p hp1).2.2.1]
        refine Ev.run [(.iconst 1, 1), (.isub, 1)] (pc' := 42) (L' := [some (.ref 359), some (.int (nI k)), some (.int y), some (.int (nI p)), none, none]) (S' := [.int (nI (gz A p) - nI 1), .int (nI 0), .int y]) rfl (by decide +kernel) rfl ?_
        rw [show nI (gz A p) - nI 1 = nI (gz A p) - nI 1 from rfl]
        refine Ev.callS0 mX7_in [.int y, .int (nI 0), .int (nI (gz A p) - nI 1)] [] _ rfl lk_RX7_79 (by decide +kernel) rfl (Nat.le_of_ble_eq_true rfl) (c_X7_in I1 J y (nI 0) (nI (gz A p) - nI 1)) ?_
        rintro _ _ ⟨rfl, ⟨rfl, h42⟩ | ⟨rfl, h42⟩⟩
        · rw [zz_ix16 (by omega)] at h42; exact absurd h42 hy
        · show Ev _ _ _ _ _ 45 [some (.ref 359), some (.int (nI k)), some (.int y), some (.int (nI p)), none, none] [.int (nI 0)] (zz_SH, I1, J) _
          refine Ev.if_ne (off := 20) (tgt := 65) (by decide +kernel) (by decide) (fun h45 => absurd h45 (by decide)) (fun h45 => ?_)
          refine Ev.run [(.iload_n 2, 1), (.iconst (-1), 1)] (pc' := 50) (L' := [some (.ref 359), some (.int (nI k)), some (.int y), some (.int (nI p)), none, none]) (S' := [.int ((-1)), .int y]) rfl (by decide +kernel) rfl ?_
          refine Ev.icmp_ne (off := 12) (tgt := 62) (by decide +kernel) (by decide) (fun h50 => ?_) (fun h50 => absurd h50 hy1)
          refine Ev.run [(.bipush (-6), 2)] (pc' := 64) (L' := [some (.ref 359), some (.int (nI k)), some (.int y), some (.int (nI p)), none, none]) (S' := [.int ((-6))]) rfl (by decide +kernel) rfl ?_
          exact Ev.iret rfl (by decide +kernel) (⟨rfl, I1, hs_I1.sc, rfl⟩)
      · exact absurd hdf h23
  · exact absurd ⟨k, hk, rfl⟩ h2

set_option maxRecDepth 100000 in
set_option maxHeartbeats 4000000 in
theorem l_X7_filled {sc : Nat × (Nat → Int32)} {d : Nat} (I : Nat → Nat → Int32) (J : Nat → Nat → Int64) (A : zA) (hV : MV (zVm I) A) (hW : WF A) (k : Nat) (hk : k < aM A) (p v : Nat) (hx : fnd A k (aN A) = some (p, v)) (j0 : Nat) (hj0 : j0 < gz A p) (I1 : Nat → Nat → Int32) (hs : zSc I I1) (hdf : dfl A k p) : ∀ (μ : Nat) (j : Nat), fz A p - j < μ → (j ≤ fz A p) → (lkf (ff A p) (tt A k) (gg A p j0) j (fz A p - j) = lkf (ff A p) (tt A k) (gg A p j0) 0 (fz A p)) →  Ev sc (d + 7) 0 0 mX7_filled 81 [some (.ref 359), some (.int (nI k)), some (.int (nI j0)), some (.int (nI p)), some (.int (nI (gg A p j0))), some (.int (nI j))] [] (zz_SH, I1, J) (fun r σ => r = some (.int (nI (if 48 ≤ gg A p j0 ∧ gg A p j0 ≤ 57 then lkf (ff A p) (tt A k) (gg A p j0) 0 (fz A p) else gg A p j0))) ∧ ∃ I' : Nat → Nat → Int32, zSc I I' ∧ σ = (zz_SH, I', J)) := by
  intro μ
  induction μ with
  | zero => intro j hμ; exact absurd hμ (Nat.not_lt_zero _)
  | succ μ ih =>
    intro j hμ hj hlk
    have w1 := hW.1.1
    have w2 := hW.1.2.1
    obtain ⟨hp1, hp2⟩ := fnd_ok A k _ p v hx
    have t1 := (hW.2.2.1 k hk).1
    have t2 := (hW.2.1 p hp1).1
    have hV1 := hs.mv hV
    have g1 := ((hW.2.1 p hp1).2.2.1 j0 hj0).2
    have g2 : j < fz A p → ff A p j ≤ 126 := fun q => ((hW.2.1 p hp1).2.1 j q).2
    refine Ev.run [(.iload 5, 2), (.aload_n 0, 1), (.getfield 16, 3), (.iload_n 3, 1)] (pc' := 88) (L' := [some (.ref 359), some (.int (nI k)), some (.int (nI j0)), some (.int (nI p)), some (.int (nI (gg A p j0))), some (.int (nI j))]) (S' := [.int (nI p), .ref 362, .int (nI j)]) rfl (by decide +kernel) rfl ?_
    refine Ev.iald p (by decide +kernel) (rfl) (rfl) (by omega) (by first | decide | omega) ?_
    dsimp only
    rw [show I1 362 p = nI (fz A p) from (hV1.2.1 p hp1).2.1]
    refine Ev.icmp_ge (off := 47) (tgt := 136) (by decide +kernel) (by decide) (fun h89 => ?_) (fun h89 => ?_)
    · have h89 : j ≥ (fz A p) := zz_bG_t (by omega) (by omega) h89
      refine Ev.run [(.iload 4, 2)] (pc' := 138) (L' := [some (.ref 359), some (.int (nI k)), some (.int (nI j0)), some (.int (nI p)), some (.int (nI (gg A p j0))), some (.int (nI j))]) (S' := [.int (nI (gg A p j0))]) rfl (by decide +kernel) rfl ?_
      exact Ev.iret rfl (by decide +kernel) (⟨by by_cases hq : 48 ≤ gg A p j0 ∧ gg A p j0 ≤ 57; rw [if_pos hq, ← hlk, show fz A p - j = 0 by omega, lkf]; rw [if_neg hq], I1, hs, rfl⟩)
    · have h89 : j < (fz A p) := zz_bG_f (by omega) (by omega) h89
      refine Ev.run [(.iload 4, 2)] (pc' := 94) (L' := [some (.ref 359), some (.int (nI k)), some (.int (nI j0)), some (.int (nI p)), some (.int (nI (gg A p j0))), some (.int (nI j))]) (S' := [.int (nI (gg A p j0))]) rfl (by decide +kernel) rfl ?_
      refine Ev.callS0 mX7_isNumber [.int (nI (gg A p j0))] [] _ rfl lk_RX7_92 (by decide +kernel) rfl (Nat.le_of_ble_eq_true rfl) (c_X7_isNumber I1 J (nI (gg A p j0))) ?_
      rintro _ _ ⟨rfl, ⟨rfl, h94⟩ | ⟨rfl, h94⟩⟩
      · show Ev _ _ _ _ _ 97 [some (.ref 359), some (.int (nI k)), some (.int (nI j0)), some (.int (nI p)), some (.int (nI (gg A p j0))), some (.int (nI j))] [.int (nI 1)] (zz_SH, I1, J) _
        rw [zz_num (by omega)] at h94
        refine Ev.if_eq (off := 39) (tgt := 136) (by decide +kernel) (by decide) (fun h97 => absurd h97 (by decide)) (fun h97 => ?_)
        refine Ev.run [(.aload_n 0, 1), (.getfield 22, 3), (.bipush 12, 2), (.iload_n 3, 1), (.imul, 1)] (pc' := 108) (L' := [some (.ref 359), some (.int (nI k)), some (.int (nI j0)), some (.int (nI p)), some (.int (nI (gg A p j0))), some (.int (nI j))]) (S' := [.int (nI 12 * nI p), .ref 364]) rfl (by decide +kernel) rfl ?_
        rw [pk_mul 12 p]
        refine Ev.run [(.iload 5, 2), (.iadd, 1)] (pc' := 111) (L' := [some (.ref 359), some (.int (nI k)), some (.int (nI j0)), some (.int (nI p)), some (.int (nI (gg A p j0))), some (.int (nI j))]) (S' := [.int (nI (12 * p) + nI j), .ref 364]) rfl (by decide +kernel) rfl ?_
        rw [nI_add (12 * p) j]
        refine Ev.iald ((12 * p) + j) (by decide +kernel) (rfl) (rfl) (by omega) (by first | decide | omega) ?_
        dsimp only
        rw [show I1 364 (12 * p + j) = nI (ff A p j) from (hV1.2.1 p hp1).2.2.2.1 j (by omega)]
        refine Ev.run [(.iload 4, 2)] (pc' := 114) (L' := [some (.ref 359), some (.int (nI k)), some (.int (nI j0)), some (.int (nI p)), some (.int (nI (gg A p j0))), some (.int (nI j))]) (S' := [.int (nI (gg A p j0)), .int (nI (ff A p j))]) rfl (by decide +kernel) rfl ?_
        refine Ev.icmp_ne (off := 16) (tgt := 130) (by decide +kernel) (by decide) (fun h114 => ?_) (fun h114 => ?_)
        · have h114 : ¬ (ff A p j) = (gg A p j0) := zz_bE_f (by omega) (by omega) h114
          refine Ev.run [(.iinc 5 1, 3)] (pc' := 133) (L' := [some (.ref 359), some (.int (nI k)), some (.int (nI j0)), some (.int (nI p)), some (.int (nI (gg A p j0))), some (.int (nI j + 1))]) (S' := []) rfl (by decide +kernel) rfl ?_
          rw [nI_1 j]
          refine Ev.goto (off := (-52)) (tgt := 81) (by decide +kernel) (by decide) ?_
          exact ih (j + 1) (by omega) (by omega) (by rw [← hlk, show fz A p - j = (fz A p - (j + 1)) + 1 by omega, lkf, if_neg h114])
        · have h114 : (ff A p j) = (gg A p j0) := zz_bE_t (by omega) (by omega) h114
          have h114 : ff A p j = gg A p j0 := h114
          refine Ev.run [(.aload_n 0, 1), (.getfield 31, 3), (.bipush 12, 2), (.iload_n 1, 1), (.imul, 1)] (pc' := 125) (L' := [some (.ref 359), some (.int (nI k)), some (.int (nI j0)), some (.int (nI p)), some (.int (nI (gg A p j0))), some (.int (nI j))]) (S' := [.int (nI 12 * nI k), .ref 367]) rfl (by decide +kernel) rfl ?_
          rw [pk_mul 12 k]
          refine Ev.run [(.iload 5, 2), (.iadd, 1)] (pc' := 128) (L' := [some (.ref 359), some (.int (nI k)), some (.int (nI j0)), some (.int (nI p)), some (.int (nI (gg A p j0))), some (.int (nI j))]) (S' := [.int (nI (12 * k) + nI j), .ref 367]) rfl (by decide +kernel) rfl ?_
          rw [nI_add (12 * k) j]
          refine Ev.iald ((12 * k) + j) (by decide +kernel) (rfl) (rfl) (by have := hdf.1; omega) (by first | decide | omega) ?_
          dsimp only
          rw [show I1 367 (12 * k + j) = nI (tt A k j) from (hV1.2.2.1 k hk).2 j (by have := hdf.1; omega)]
          exact Ev.iret rfl (by decide +kernel) (⟨by rw [if_pos h94, ← hlk, show fz A p - j = (fz A p - j - 1) + 1 by omega, lkf, if_pos h114], I1, hs, rfl⟩)
      · show Ev _ _ _ _ _ 97 [some (.ref 359), some (.int (nI k)), some (.int (nI j0)), some (.int (nI p)), some (.int (nI (gg A p j0))), some (.int (nI j))] [.int (nI 0)] (zz_SH, I1, J) _
        rw [zz_num (by omega)] at h94
        refine Ev.if_eq (off := 39) (tgt := 136) (by decide +kernel) (by decide) (fun h97 => ?_) (fun h97 => absurd h97 (by decide))
        refine Ev.run [(.iload 4, 2)] (pc' := 138) (L' := [some (.ref 359), some (.int (nI k)), some (.int (nI j0)), some (.int (nI p)), some (.int (nI (gg A p j0))), some (.int (nI j))]) (S' := [.int (nI (gg A p j0))]) rfl (by decide +kernel) rfl ?_
        exact Ev.iret rfl (by decide +kernel) (⟨by rw [if_neg h94], I1, hs, rfl⟩)

set_option maxRecDepth 100000 in
set_option maxHeartbeats 4000000 in
theorem c_X7_filled_in {sc : Nat × (Nat → Int32)} {d : Nat} (I : Nat → Nat → Int32) (J : Nat → Nat → Int64) (A : zA) (hV : MV (zVm I) A) (hW : WF A) (k : Nat) (hk : k < aM A) (p v : Nat) (hx : fnd A k (aN A) = some (p, v)) (hdf : dfl A k p) (j0 : Nat) (hj0 : j0 < gz A p) : EvM sc (d + 7) 0 0 mX7_filled [.ref 359, .int (nI k), .int (nI j0)] (zz_SH, I, J) (fun r σ => r = some (.int (nI (if 48 ≤ gg A p j0 ∧ gg A p j0 ≤ 57 then lkf (ff A p) (tt A k) (gg A p j0) 0 (fz A p) else gg A p j0))) ∧ ∃ I' : Nat → Nat → Int32, zSc I I' ∧ σ = (zz_SH, I', J)) := by
  have w1 := hW.1.1
  have w2 := hW.1.2.1
  obtain ⟨hp1, hp2⟩ := fnd_ok A k _ p v hx
  have t1 := (hW.2.2.1 k hk).1
  have t2 := (hW.2.1 p hp1).1
  refine EvM.of (by decide) rfl (Nat.le_of_ble_eq_true rfl) ?_
  show Ev _ _ _ _ _ 0 [some (.ref 359), some (.int (nI k)), some (.int (nI j0)), none, none, none] [] (zz_SH, I, J) _
  refine Ev.run [(.aload_n 0, 1), (.iload_n 1, 1)] (pc' := 2) (L' := [some (.ref 359), some (.int (nI k)), some (.int (nI j0)), none, none, none]) (S' := [.int (nI k), .ref 359]) rfl (by decide +kernel) rfl ?_
  refine Ev.callV0 mX7_isSentence [.int (nI k)] [] _ rfl lk_RX7_107 (by decide +kernel) (rfl) rfl rfl rfl (Nat.le_of_ble_eq_true rfl) (c_X7_isSentence I J (aM A) (nI k) hV.1.2.1 (by omega)) ?_
  rintro _ _ ⟨rfl, ⟨rfl, h2⟩ | ⟨rfl, h2⟩⟩
  · show Ev _ _ _ _ _ 5 [some (.ref 359), some (.int (nI k)), some (.int (nI j0)), none, none, none] [.int (nI 1)] (zz_SH, I, J) _
    refine Ev.if_ne (off := 5) (tgt := 10) (by decide +kernel) (by decide) (fun h5 => ?_) (fun h5 => absurd h5 (by decide))
    refine Ev.run [(.aload_n 0, 1), (.iload_n 1, 1)] (pc' := 12) (L' := [some (.ref 359), some (.int (nI k)), some (.int (nI j0)), none, none, none]) (S' := [.int (nI k), .ref 359]) rfl (by decide +kernel) rfl ?_
    refine Ev.callV0 mX7_foundOf [.int (nI k)] [] _ rfl lk_RX7_130 (by decide +kernel) (rfl) rfl rfl rfl (Nat.le_of_ble_eq_true rfl) (c_X7_foundOf I J A hV hW k hk) ?_
    rintro _ _ ⟨rfl, I1, hs_I1, hf, rfl⟩
    rw [hx]
    have hV1 := hs_I1.mv hV
    show Ev _ _ _ _ _ 15 [some (.ref 359), some (.int (nI k)), some (.int (nI j0)), none, none, none] [.int (nI p)] (zz_SH, I1, J) _
    refine Ev.run [(.istore_n 3, 1), (.iload_n 3, 1)] (pc' := 17) (L' := [some (.ref 359), some (.int (nI k)), some (.int (nI j0)), some (.int (nI p)), none, none]) (S' := [.int (nI p)]) rfl (by decide +kernel) rfl ?_
    refine Ev.if_lt (off := 12) (tgt := 29) (by decide +kernel) (by decide) (fun h17 => ?_) (fun h17 => ?_)
    · have h17 : p < 0 := zz_bL_t (by omega) (by omega) h17
      exfalso; omega
    · have h17 : p ≥ 0 := zz_bL_f (by omega) (by omega) h17
      refine Ev.run [(.aload_n 0, 1), (.iload_n 1, 1), (.iload_n 3, 1)] (pc' := 23) (L' := [some (.ref 359), some (.int (nI k)), some (.int (nI j0)), some (.int (nI p)), none, none]) (S' := [.int (nI p), .int (nI k), .ref 359]) rfl (by decide +kernel) rfl ?_
      refine Ev.callV0 mX7_doesFill [.int (nI k), .int (nI p)] [] _ rfl lk_RX7_133 (by decide +kernel) (rfl) rfl rfl rfl (Nat.le_of_ble_eq_true rfl) (c_X7_doesFill I1 J A hV1 hW k p hk hp1) ?_
      rintro _ _ ⟨rfl, ⟨rfl, h23⟩ | ⟨rfl, h23⟩⟩
      · show Ev _ _ _ _ _ 26 [some (.ref 359), some (.int (nI k)), some (.int (nI j0)), some (.int (nI p)), none, none] [.int (nI 1)] (zz_SH, I1, J) _
        refine Ev.if_ne (off := 6) (tgt := 32) (by decide +kernel) (by decide) (fun h26 => ?_) (fun h26 => absurd h26 (by decide))
        refine Ev.run [(.iload_n 2, 1), (.iconst 0, 1), (.aload_n 0, 1), (.getfield 19, 3), (.iload_n 3, 1)] (pc' := 39) (L' := [some (.ref 359), some (.int (nI k)), some (.int (nI j0)), some (.int (nI p)), none, none]) (S' := [.int (nI p), .ref 363, .int (nI 0), .int (nI j0)]) rfl (by decide +kernel) rfl ?_
        refine Ev.iald p (by decide +kernel) (rfl) (rfl) (by omega) (by first | decide | omega) ?_
        dsimp only
        rw [show I1 363 p = nI (gz A p) from (hV1.2.1 p hp1).2.2.1]
        refine Ev.run [(.iconst 1, 1), (.isub, 1)] (pc' := 42) (L' := [some (.ref 359), some (.int (nI k)), some (.int (nI j0)), some (.int (nI p)), none, none]) (S' := [.int (nI (gz A p) - nI 1), .int (nI 0), .int (nI j0)]) rfl (by decide +kernel) rfl ?_
        rw [show nI (gz A p) - nI 1 = nI (gz A p) - nI 1 from rfl]
        refine Ev.callS0 mX7_in [.int (nI j0), .int (nI 0), .int (nI (gz A p) - nI 1)] [] _ rfl lk_RX7_79 (by decide +kernel) rfl (Nat.le_of_ble_eq_true rfl) (c_X7_in I1 J (nI j0) (nI 0) (nI (gz A p) - nI 1)) ?_
        rintro _ _ ⟨rfl, ⟨rfl, h42⟩ | ⟨rfl, h42⟩⟩
        · show Ev _ _ _ _ _ 45 [some (.ref 359), some (.int (nI k)), some (.int (nI j0)), some (.int (nI p)), none, none] [.int (nI 1)] (zz_SH, I1, J) _
          refine Ev.if_ne (off := 20) (tgt := 65) (by decide +kernel) (by decide) (fun h45 => ?_) (fun h45 => absurd h45 (by decide))
          refine Ev.run [(.aload_n 0, 1), (.getfield 25, 3), (.bipush 12, 2), (.iload_n 3, 1), (.imul, 1)] (pc' := 73) (L' := [some (.ref 359), some (.int (nI k)), some (.int (nI j0)), some (.int (nI p)), none, none]) (S' := [.int (nI 12 * nI p), .ref 365]) rfl (by decide +kernel) rfl ?_
          rw [pk_mul 12 p]
          refine Ev.run [(.iload_n 2, 1), (.iadd, 1)] (pc' := 75) (L' := [some (.ref 359), some (.int (nI k)), some (.int (nI j0)), some (.int (nI p)), none, none]) (S' := [.int (nI (12 * p) + nI j0), .ref 365]) rfl (by decide +kernel) rfl ?_
          rw [nI_add (12 * p) j0]
          refine Ev.iald ((12 * p) + j0) (by decide +kernel) (rfl) (rfl) (by omega) (by first | decide | omega) ?_
          dsimp only
          rw [show I1 365 (12 * p + j0) = nI (gg A p j0) from (hV1.2.1 p hp1).2.2.2.2 j0 hj0]
          refine Ev.run [(.istore 4, 2), (.iconst 0, 1), (.istore 5, 2)] (pc' := 81) (L' := [some (.ref 359), some (.int (nI k)), some (.int (nI j0)), some (.int (nI p)), some (.int (nI (gg A p j0))), some (.int (nI 0))]) (S' := []) rfl (by decide +kernel) rfl ?_
          exact l_X7_filled I J A hV hW k hk p v hx j0 hj0 I1 hs_I1.sc hdf (fz A p + 1) 0 (by omega) (by omega) rfl
        · rw [zz_ix16 (by omega)] at h42; exact absurd ⟨j0, hj0, rfl⟩ h42
      · exact absurd hdf h23
  · exact absurd ⟨k, hk, rfl⟩ h2
end
section
/-! ===== bits ===== -/
theorem zz_and (a b : Nat) : nI a &&& nI b = nI (a &&& b) := by
  apply Int32.toBitVec_inj.1
  show BitVec.ofNat 32 a &&& BitVec.ofNat 32 b = BitVec.ofNat 32 (a &&& b)
  apply BitVec.eq_of_getLsbD_eq
  intro i hi
  simp [hi]
theorem zz_or (a b : Nat) : nI a ||| nI b = nI (a ||| b) := by
  apply Int32.toBitVec_inj.1
  show BitVec.ofNat 32 a ||| BitVec.ofNat 32 b = BitVec.ofNat 32 (a ||| b)
  apply BitVec.eq_of_getLsbD_eq
  intro i hi
  simp [hi]
theorem zz_s31 {k : Nat} (hk : k < 31) : (nI k &&& (31 : Int32)) = nI k := by
  rw [show (31 : Int32) = nI (2 ^ 5 - 1) from rfl, zz_and, Nat.and_two_pow_sub_one_eq_mod, Nat.mod_eq_of_lt (by omega)]
theorem zz_smod : ∀ k, k < 31 → ((nI k).toBitVec.smod 32).toNat = k := by decide +kernel
theorem zz_shl1 {k : Nat} (hk : k < 31) : nI 1 <<< (nI k &&& (31 : Int32)) = nI (2 ^ k) := by
  rw [zz_s31 hk, pk_shlN (nI k) k (zz_smod k hk) (by
    have : (2 : Nat) ^ k < 2 ^ 31 := Nat.pow_lt_pow_right (by decide) hk
    omega), Nat.one_mul]
theorem zz_shr {a k : Nat} (ha : a < 2 ^ 31) (hk : k < 31) : nI a >>> (nI k &&& (31 : Int32)) = nI (a / 2 ^ k) := by
  rw [zz_s31 hk, pk_shrN ha (nI k) k (zz_smod k hk)]
theorem zz_tb (a j : Nat) : a / 2 ^ j &&& 1 = (if a.testBit j then 1 else 0) := by
  rw [Nat.testBit_eq_decide_div_mod_eq, show (1 : Nat) = 2 ^ 1 - 1 from rfl, Nat.and_two_pow_sub_one_eq_mod]
  have h : a / 2 ^ j % 2 < 2 := Nat.mod_lt _ (by decide)
  rcases (show a / 2 ^ j % 2 = 0 ∨ a / 2 ^ j % 2 = 1 by omega) with e | e <;> simp [e]
theorem zz_tb_le (a j : Nat) : a / 2 ^ j &&& 1 ≤ 1 := by rw [zz_tb]; split <;> omega
theorem zz_tb1 {a j : Nat} : (a / 2 ^ j &&& 1 = 1) ↔ a.testBit j = true := by
  rw [zz_tb]
  cases a.testBit j <;> simp
theorem zz_tb0 {a j : Nat} : (a / 2 ^ j &&& 1 = 0) ↔ a.testBit j = false := by
  rw [zz_tb]
  cases a.testBit j <;> simp
theorem zz_pw {k : Nat} {n : Nat} (h : k < n) : (2 : Nat) ^ k < 2 ^ n := Nat.pow_lt_pow_right (by decide) h
theorem zz_pw2 {k : Nat} {n : Nat} (h : k ≤ n) : (2 : Nat) ^ k ≤ 2 ^ n := Nat.pow_le_pow_right (by decide) h
theorem zz_or_lt {a k n : Nat} (ha : a < 2 ^ n) (hk : k < n) : a ||| 2 ^ k < 2 ^ n := Nat.or_lt_two_pow ha (zz_pw hk)
theorem zz_or_tb (a k j : Nat) : (a ||| 2 ^ k).testBit j = (a.testBit j || decide (k = j)) := by
  rw [Nat.testBit_or, Nat.testBit_two_pow]
theorem zz_or_gt {a k : Nat} (h : a.testBit k = false) : a < a ||| 2 ^ k := by
  refine Nat.lt_of_le_of_ne Nat.left_le_or (fun e => ?_)
  have h1 := zz_or_tb a k k
  rw [← e, h] at h1
  simp at h1
theorem zz_miss {n a : Nat} (h : a < 2 ^ n - 1) : ∃ k, k < n ∧ a.testBit k = false := by
  apply Classical.byContradiction
  intro hc
  have h1 : ∀ k, k < n → a.testBit k = true := by
    intro k hk
    cases hb : a.testBit k with
    | true => rfl
    | false => exact absurd ⟨k, hk, hb⟩ hc
  have h2 : a = 2 ^ n - 1 := by
    apply Nat.eq_of_testBit_eq
    intro i
    rw [Nat.testBit_two_pow_sub_one]
    by_cases hi : i < n
    · rw [h1 i hi]; simp [hi]
    · rw [Nat.testBit_lt_two_pow (Nat.lt_of_lt_of_le (show a < 2 ^ n by omega) (zz_pw2 (by omega)))]
      simp [hi]
  omega
/-! ===== the order ===== -/
def aln (A : zA) (k : Nat) : Nat → Nat
  | 0 => rt A 4
  | n + 1 => min (aln A k n) (rt A (bnd (mtc A k n)))
def bes (A : zA) (k j : Nat) : Nat := rt A (bnd (lkT A k j))
def lst (A : zA) (k done : Nat) : Nat → Nat
  | 0 => aln A k (aN A)
  | n + 1 => if done.testBit n then min (lst A k done n) (bes A k n) else lst A k done n
def cst (A : zA) (k done : Nat) : Nat := tz A k * lst A k done (aM A)
theorem aln_le {A : zA} (hW : WF A) (k : Nat) : ∀ n, aln A k n ≤ 99
  | 0 => hW.2.2.2.1 4 (by decide)
  | n + 1 => by have := aln_le hW k n; rw [aln]; omega
theorem lst_le {A : zA} (hW : WF A) (k done : Nat) : ∀ n, lst A k done n ≤ 99
  | 0 => aln_le hW k _
  | n + 1 => by
    have := lst_le hW k done n
    rw [lst]
    split <;> omega
theorem cst_le {A : zA} (hW : WF A) {k : Nat} (hk : k < aM A) (done : Nat) : cst A k done ≤ 1188 :=
  Nat.le_trans (Nat.mul_le_mul (hW.2.2.1 k hk).1.2 (lst_le hW k done _)) (by decide)
/-- the least, and the first that has it -/
def mno (A : zA) (B : Nat → Nat) (done : Nat) : Nat → Option (Nat × Nat)
  | 0 => none
  | n + 1 => if done.testBit n then mno A B done n else match mno A B done n with
    | none => some (cst A n done + B (done ||| 2 ^ n), n)
    | some (w, k) => if cst A n done + B (done ||| 2 ^ n) < w then some (cst A n done + B (done ||| 2 ^ n), n) else some (w, k)
def mov (x : Option (Nat × Nat)) : Nat := match x with
  | none => 1000000
  | some (v, _) => v
theorem mno_t {A : zA} {B : Nat → Nat} {done n : Nat} (h : done.testBit n = true) : mno A B done (n + 1) = mno A B done n := by
  rw [mno, if_pos h]
theorem mno_n {A : zA} {B : Nat → Nat} {done n : Nat} (h : done.testBit n = false) (h2 : mno A B done n = none) : mno A B done (n + 1) = some (cst A n done + B (done ||| 2 ^ n), n) := by
  rw [mno, if_neg (by rw [h]; decide), h2]
theorem mno_s {A : zA} {B : Nat → Nat} {done n w k : Nat} (h : done.testBit n = false) (h2 : mno A B done n = some (w, k)) : mno A B done (n + 1) = if cst A n done + B (done ||| 2 ^ n) < w then some (cst A n done + B (done ||| 2 ^ n), n) else some (w, k) := by
  rw [mno, if_neg (by rw [h]; decide), h2]
theorem mno_cong {A : zA} {B B' : Nat → Nat} {done : Nat} : ∀ n, (∀ k, k < n → done.testBit k = false → B (done ||| 2 ^ k) = B' (done ||| 2 ^ k)) → mno A B done n = mno A B' done n
  | 0, _ => rfl
  | n + 1, h => by
    have ih := mno_cong (A := A) n (fun k hk => h k (by omega))
    cases hb : done.testBit n with
    | true => rw [mno_t hb, mno_t hb, ih]
    | false =>
      have e := h n (by omega) hb
      cases hx : mno A B' done n with
      | none => rw [mno_n hb (ih.trans hx), mno_n hb hx, e]
      | some y => rw [mno_s hb (ih.trans hx), mno_s hb hx, e]
/-- what stands there is of a k that is not done, it is the least, and the first such -/
theorem mno_spec {A : zA} {B : Nat → Nat} {done : Nat} : ∀ n, (mno A B done n = none ∧ ∀ k, k < n → done.testBit k = true) ∨ ∃ w k, mno A B done n = some (w, k) ∧ k < n ∧ done.testBit k = false ∧ w = cst A k done + B (done ||| 2 ^ k) ∧ (∀ j, j < n → done.testBit j = false → w ≤ cst A j done + B (done ||| 2 ^ j)) ∧ ∀ j, j < k → done.testBit j = false → w < cst A j done + B (done ||| 2 ^ j)
  | 0 => Or.inl ⟨rfl, fun k hk => absurd hk (Nat.not_lt_zero k)⟩
  | n + 1 => by
    rcases mno_spec (A := A) (B := B) (done := done) n with ⟨h1, h2⟩ | ⟨w, k, h1, h2, h3, h4, h5, h6⟩
    · cases hb : done.testBit n with
      | true => exact Or.inl ⟨by rw [mno_t hb, h1], fun k hk => by
          by_cases e : k = n
          · rw [e]; exact hb
          · exact h2 k (by omega)⟩
      | false =>
        refine Or.inr ⟨_, n, mno_n hb h1, by omega, hb, rfl, fun j hj hjb => ?_, fun j hj hjb => ?_⟩
        · by_cases e : j = n
          · rw [e]; exact Nat.le_refl _
          · rw [h2 j (by omega)] at hjb; cases hjb
        · rw [h2 j hj] at hjb; cases hjb
    · cases hb : done.testBit n with
      | true =>
        refine Or.inr ⟨w, k, by rw [mno_t hb, h1], by omega, h3, h4, fun j hj hjb => ?_, h6⟩
        by_cases e : j = n
        · rw [e, hb] at hjb; cases hjb
        · exact h5 j (by omega) hjb
      | false =>
        have e0 := mno_s hb h1
        by_cases hl : cst A n done + B (done ||| 2 ^ n) < w
        · rw [if_pos hl] at e0
          refine Or.inr ⟨_, n, e0, by omega, hb, rfl, fun j hj hjb => ?_, fun j hj hjb => ?_⟩
          · by_cases e : j = n
            · rw [e]; exact Nat.le_refl _
            · have := h5 j (by omega) hjb; omega
          · have := h5 j (by omega) hjb; omega
        · rw [if_neg hl] at e0
          refine Or.inr ⟨w, k, e0, by omega, h3, h4, fun j hj hjb => ?_, h6⟩
          by_cases e : j = n
          · rw [e]; omega
          · exact h5 j (by omega) hjb
def bt (A : zA) : Nat → Nat → Nat
  | 0, _ => 0
  | f + 1, done => if done < 2 ^ aM A - 1 then mov (mno A (bt A f) done (aM A)) else 0
def BT (A : zA) (done : Nat) : Nat := bt A 1024 done
theorem bt_irr (A : zA) : ∀ n done, 2 ^ aM A - 1 - done ≤ n → ∀ f f', n ≤ f → n ≤ f' → bt A f done = bt A f' done := by
  intro n
  induction n with
  | zero =>
    intro done h f f' _ _
    have h0 : ∀ f, bt A f done = 0 := by
      intro f
      cases f with
      | zero => rfl
      | succ f => rw [bt, if_neg (by omega)]
    rw [h0, h0]
  | succ n ih =>
    intro done h f f' hf hf'
    cases f with
    | zero => omega
    | succ f =>
      cases f' with
      | zero => omega
      | succ f' =>
        rw [bt, bt]
        by_cases hd : done < 2 ^ aM A - 1
        · rw [if_pos hd, if_pos hd, mno_cong (aM A) (fun k hk hb => ?_)]
          have h1 := zz_or_gt hb
          exact ih _ (by omega) f f' (by omega) (by omega)
        · rw [if_neg hd, if_neg hd]
theorem BT_rec {A : zA} (hM : aM A ≤ 10) {done : Nat} (hd : done < 2 ^ aM A - 1) : BT A done = mov (mno A (BT A) done (aM A)) := by
  have hp : (2 : Nat) ^ aM A ≤ 2 ^ 10 := zz_pw2 hM
  show bt A 1024 done = _
  rw [bt, if_pos hd, mno_cong (aM A) (fun k hk hb => ?_)]
  have h1 := zz_or_gt hb
  exact bt_irr A 1023 _ (by omega) 1023 1024 (by omega) (by omega)
theorem BT_all (A : zA) : BT A (2 ^ aM A - 1) = 0 := by
  show bt A 1024 _ = 0
  rw [bt, if_neg (by omega)]
/-- how much the rest can cost at most -/
def wgt (done : Nat) : Nat → Nat
  | 0 => 0
  | n + 1 => wgt done n + if done.testBit n then 0 else 1188
theorem wgt_le (done : Nat) : ∀ n, wgt done n ≤ 1188 * n
  | 0 => Nat.le_refl _
  | n + 1 => by have := wgt_le done n; rw [wgt]; split <;> omega
theorem wgt_same {done k : Nat} : ∀ n, n ≤ k → wgt (done ||| 2 ^ k) n = wgt done n
  | 0, _ => rfl
  | n + 1, h => by
    rw [wgt, wgt, wgt_same n (by omega), zz_or_tb]
    simp [show ¬ k = n by omega]
theorem wgt_step {done k : Nat} (hb : done.testBit k = false) : ∀ n, k < n → wgt (done ||| 2 ^ k) n + 1188 = wgt done n
  | 0, h => absurd h (Nat.not_lt_zero k)
  | n + 1, h => by
    rw [wgt, wgt, zz_or_tb]
    by_cases e : k = n
    · subst e
      rw [wgt_same k (Nat.le_refl k), hb]
      simp
    · have := wgt_step hb n (by omega)
      have e2 : (decide (k = n)) = false := by simp [e]
      rw [e2, Bool.or_false]
      omega
theorem bt_le {A : zA} (hW : WF A) : ∀ f done, bt A f done ≤ wgt done (aM A)
  | 0, _ => Nat.zero_le _
  | f + 1, done => by
    rw [bt]
    split
    · next hd =>
      obtain ⟨k, hk, hb⟩ := zz_miss hd
      rcases mno_spec (A := A) (B := bt A f) (done := done) (aM A) with ⟨-, h2⟩ | ⟨w, k', h1, h2, h3, h4, h5, h6⟩
      · rw [h2 k hk] at hb; cases hb
      · rw [h1]
        show w ≤ _
        have a1 := h5 k hk hb
        have a2 := cst_le hW hk done
        have a3 := bt_le hW f (done ||| 2 ^ k)
        have a4 := wgt_step hb (aM A) hk
        omega
    · exact Nat.zero_le _
theorem BT_le {A : zA} (hW : WF A) (done : Nat) : BT A done ≤ 11880 := by
  have h1 := bt_le hW 1024 done
  have h2 := wgt_le done (aM A)
  have h3 := hW.1.2.1
  show bt A 1024 done ≤ _
  omega
theorem mov_lt {A : zA} (hW : WF A) {done n : Nat} (hn : n ≤ aM A) {w k : Nat} (h : mno A (BT A) done n = some (w, k)) : w < 20000 ∧ k < n ∧ done.testBit k = false := by
  rcases mno_spec (A := A) (B := BT A) (done := done) n with ⟨h1, -⟩ | ⟨w', k', h1, h2, h3, h4, -⟩
  · rw [h1] at h; cases h
  · rw [h1] at h
    cases h
    have a2 := cst_le hW (show k < aM A by omega) done
    have a3 := BT_le hW (done ||| 2 ^ k)
    exact ⟨by omega, h2, h3⟩
/-- the sequence: what is done ahead of the i-th; the i-th -/
def nxt (A : zA) (done : Nat) : Nat := match mno A (BT A) done (aM A) with
  | none => 0
  | some (_, k) => k
def dn (A : zA) : Nat → Nat
  | 0 => 0
  | i + 1 => dn A i ||| 2 ^ nxt A (dn A i)
theorem wgt_pos {done : Nat} : ∀ n, 0 < wgt done n → ∃ k, k < n ∧ done.testBit k = false
  | 0, h => absurd h (Nat.lt_irrefl 0)
  | n + 1, h => by
    cases hb : done.testBit n with
    | false => exact ⟨n, Nat.lt_succ_self n, hb⟩
    | true =>
      rw [wgt, hb] at h
      obtain ⟨k, h1, h2⟩ := wgt_pos n (by simpa using h)
      exact ⟨k, by omega, h2⟩
theorem nxt_spec {A : zA} {done : Nat} (hm : ∃ k, k < aM A ∧ done.testBit k = false) : ∃ w, mno A (BT A) done (aM A) = some (w, nxt A done) ∧ nxt A done < aM A ∧ done.testBit (nxt A done) = false ∧ w = cst A (nxt A done) done + BT A (done ||| 2 ^ nxt A done) ∧ ∀ j, j < nxt A done → done.testBit j = false → w < cst A j done + BT A (done ||| 2 ^ j) := by
  rcases mno_spec (A := A) (B := BT A) (done := done) (aM A) with ⟨-, h2⟩ | ⟨w, k, h1, h2, h3, h4, h5, h6⟩
  · obtain ⟨k, hk, hb⟩ := hm
    rw [h2 k hk] at hb; cases hb
  · have e : nxt A done = k := by rw [nxt, h1]
    rw [e]
    exact ⟨w, h1, h2, h3, h4, h6⟩
set_option maxRecDepth 100000 in
theorem dn_spec (A : zA) : ∀ i, i ≤ aM A → dn A i < 2 ^ aM A ∧ wgt (dn A i) (aM A) + 1188 * i = 1188 * aM A
  | 0, _ => by
    refine ⟨Nat.pow_pos (by decide), ?_⟩
    have h : ∀ n, wgt 0 n = 1188 * n := by
      intro n
      induction n with
      | zero => rfl
      | succ n ih => rw [wgt, ih]; simp; omega
    show wgt 0 _ + 0 = _
    rw [h]; rfl
  | i + 1, hi => by
    obtain ⟨h1, h2⟩ := dn_spec A i (by omega)
    obtain ⟨w, -, h3, h4, -⟩ := nxt_spec (A := A) (wgt_pos (done := dn A i) (aM A) (by omega))
    have h5 := wgt_step h4 (aM A) h3
    refine ⟨zz_or_lt h1 h3, ?_⟩
    have h6 : wgt (dn A (i + 1)) (aM A) = wgt (dn A i ||| 2 ^ nxt A (dn A i)) (aM A) := by rw [dn]
    rw [h6]
    clear h6 h1 h3 h4
    generalize wgt (dn A i ||| 2 ^ nxt A (dn A i)) (aM A) = u at h5 ⊢
    generalize wgt (dn A i) (aM A) = v at h2 h5
    generalize aM A = z at h2 hi ⊢
    omega
theorem dn_miss (A : zA) {i : Nat} (hi : i < aM A) : ∃ k, k < aM A ∧ (dn A i).testBit k = false := by
  obtain ⟨-, h2⟩ := dn_spec A i (by omega)
  exact wgt_pos (aM A) (by omega)
theorem zz_full {done n : Nat} (hd : done < 2 ^ n) (hm : ∃ k, k < n ∧ done.testBit k = false) : done < 2 ^ n - 1 := by
  obtain ⟨k, hk, hb⟩ := hm
  rcases Nat.lt_or_ge done (2 ^ n - 1) with h | h
  · exact h
  · have e : done = 2 ^ n - 1 := by omega
    rw [e, Nat.testBit_two_pow_sub_one] at hb
    simp [hk] at hb
theorem mov_lt' {A : zA} (hW : WF A) {done k : Nat} (hk : k < aM A) (hb : done.testBit k = false) (h : cst A k done + BT A (done ||| 2 ^ k) < mov (mno A (BT A) done k)) : cst A k done + BT A (done ||| 2 ^ k) = mov (mno A (BT A) done (k + 1)) := by
  cases hx : mno A (BT A) done k with
  | none => rw [mno_n hb hx]; rfl
  | some y =>
    obtain ⟨w, k'⟩ := y
    rw [hx] at h
    have h9 : cst A k done + BT A (done ||| 2 ^ k) < w := h
    rw [mno_s hb hx, if_pos h9]; rfl
theorem mov_ge' {A : zA} (hW : WF A) {done k : Nat} (hk : k < aM A) (hb : done.testBit k = false) (h : cst A k done + BT A (done ||| 2 ^ k) ≥ mov (mno A (BT A) done k)) : mov (mno A (BT A) done k) = mov (mno A (BT A) done (k + 1)) := by
  cases hx : mno A (BT A) done k with
  | none =>
    rw [hx] at h
    have a2 := cst_le hW hk done
    have a3 := BT_le hW (done ||| 2 ^ k)
    have h9 : (1000000 : Nat) ≤ cst A k done + BT A (done ||| 2 ^ k) := h
    omega
  | some y =>
    obtain ⟨w, k'⟩ := y
    rw [hx] at h
    have h9 : w ≤ cst A k done + BT A (done ||| 2 ^ k) := h
    rw [mno_s hb hx, if_neg (by omega)]
theorem mov_le {A : zA} (hW : WF A) {done k : Nat} (hk : k ≤ aM A) : mov (mno A (BT A) done k) ≤ 1000000 := by
  cases hx : mno A (BT A) done k with
  | none => exact Nat.le_refl _
  | some y =>
    obtain ⟨w, k'⟩ := y
    have := (mov_lt hW hk hx).1
    show w ≤ 1000000
    omega
end
section
/-! ===== the model: the order ===== -/
def zS3 (I I' : Nat → Nat → Int32) : Prop := ∀ c, c < 372 ∨ 375 ≤ c → I' c = I c
theorem zS3.rf (I : Nat → Nat → Int32) : zS3 I I := fun _ _ => rfl
theorem zS3.tr {I I' I'' : Nat → Nat → Int32} (h : zS3 I I') (h' : zS3 I' I'') : zS3 I I'' := fun c hc => (h' c hc).trans (h c hc)
theorem zS1.s3 {I I' : Nat → Nat → Int32} (h : zS1 I I') : zS3 I I' := fun c hc => h c (by omega)
theorem zS3.up (I : Nat → Nat → Int32) (c j : Nat) (v : Int32) (hc : c = 373 ∨ c = 374) : zS3 I (zz_up I c j v) := fun x hx => zz_up_ne (by omega)
def zS4 (I I' : Nat → Nat → Int32) : Prop := ∀ c, c < 372 ∨ 376 ≤ c → I' c = I c
theorem zS4.tr {I I' I'' : Nat → Nat → Int32} (h : zS4 I I') (h' : zS4 I' I'') : zS4 I I'' := fun c hc => (h' c hc).trans (h c hc)
theorem zS3.s4 {I I' : Nat → Nat → Int32} (h : zS3 I I') : zS4 I I' := fun c hc => h c (by omega)
theorem zS4.up (I : Nat → Nat → Int32) (j : Nat) (v : Int32) : zS4 I (zz_up I 375 j v) := fun x hx => zz_up_ne (by omega)
theorem zS4.sc {I I' : Nat → Nat → Int32} (h : zS4 I I') : zSc I I' := ⟨fun c hc => h c (by omega), h 360 (by decide), fun c h1 h2 => h c (by omega), h 379 (by decide), h 380 (by decide), by rw [h 359 (by decide)], by rw [h 359 (by decide)], by rw [h 359 (by decide)]⟩
theorem zS3.mv {I I' : Nat → Nat → Int32} {A : zA} (h : zS3 I I') (hV : MV (zVm I) A) : MV (zVm I') A := h.s4.sc.mv hV
def lb1 (A : zA) (k : Nat) (I : Nat → Nat → Int32) : Prop := (∀ t, t < k → I 373 t = nI (aln A t (aN A))) ∧ ∀ t, t < k → ∀ j, j < aM A → I 374 (10 * t + j) = nI (bes A t j)
theorem lb1.s1 {A : zA} {k : Nat} {I I' : Nat → Nat → Int32} (h : lb1 A k I) (hs : zS1 I I') : lb1 A k I' := by
  refine ⟨fun t ht => ?_, fun t ht j hj => ?_⟩
  · rw [hs 373 (by decide)]; exact h.1 t ht
  · rw [hs 374 (by decide)]; exact h.2 t ht j hj
theorem lb1.u3 {A : zA} {k : Nat} {I : Nat → Nat → Int32} (v : Int32) (h : lb1 A k I) : lb1 A k (zz_up I 373 k v) := by
  refine ⟨fun t ht => ?_, fun t ht j hj => ?_⟩
  · rw [zz_up_eq, zz_upn (by omega)]; exact h.1 t ht
  · rw [zz_up_ne (by decide)]; exact h.2 t ht j hj
theorem lb1.u4 {A : zA} {k j : Nat} {I : Nat → Nat → Int32} (v : Int32) (hM : aM A ≤ 10) (h : lb1 A k I) : lb1 A k (zz_up I 374 (10 * k + j) v) := by
  refine ⟨fun t ht => ?_, fun t ht i hi => ?_⟩
  · rw [zz_up_ne (by decide)]; exact h.1 t ht
  · rw [zz_up_eq, zz_upn (by omega)]; exact h.2 t ht i hi
theorem lb1.s4 {A : zA} {k j : Nat} {I : Nat → Nat → Int32} {v : Int32} (h : lb1 A k I) : lb1 A k (zz_up I 375 j v) := by
  refine ⟨fun t ht => ?_, fun t ht i hi => ?_⟩
  · rw [zz_up_ne (by decide)]; exact h.1 t ht
  · rw [zz_up_ne (by decide)]; exact h.2 t ht i hi

set_option maxRecDepth 100000 in
set_option maxHeartbeats 4000000 in
theorem l_X7_lb1 {sc : Nat × (Nat → Int32)} {d : Nat} (I : Nat → Nat → Int32) (J : Nat → Nat → Int64) (A : zA) (hV : MV (zVm I) A) (hW : WF A) (k : Nat) (hk : k < aM A) (hout : ∀ I2 : Nat → Nat → Int32, zS3 I I2 → lb1 A k I2 → I2 373 k = nI (aln A k (aN A)) → Ev sc (d + 6) 0 0 mX7_layBeside 79 [some (.ref 359), some (.int (nI k)), none, none] [] (zz_SH, I2, J) (fun r σ => r = none ∧ ∃ I' : Nat → Nat → Int32, zS3 I I' ∧ lb1 A (aM A) I' ∧ σ = (zz_SH, I', J))) : ∀ (μ : Nat) (p : Nat) (I1 : Nat → Nat → Int32), aN A - p < μ → (p ≤ aN A) → (zS3 I I1) → (lb1 A k I1) → (I1 373 k = nI (aln A k p)) →  Ev sc (d + 6) 0 0 mX7_layBeside 24 [some (.ref 359), some (.int (nI k)), some (.int (nI p)), none] [] (zz_SH, I1, J) (fun r σ => r = none ∧ ∃ I' : Nat → Nat → Int32, zS3 I I' ∧ lb1 A (aM A) I' ∧ σ = (zz_SH, I', J)) := by
  intro μ
  induction μ with
  | zero => intro p I1 hμ; exact absurd hμ (Nat.not_lt_zero _)
  | succ μ ih =>
    intro p I1 hμ hp hs hl ha
    have w1 := hW.1.1
    have w2 := hW.1.2.1
    have c1 := aln_le hW k p
    have c2 := hW.2.2.2.1 (bnd (mtc A k p)) (bnd_lt _)
    refine Ev.run [(.iload_n 2, 1), (.aload_n 0, 1), (.getfield 75, 3)] (pc' := 29) (L' := [some (.ref 359), some (.int (nI k)), some (.int (nI p)), none]) (S' := [.int (I1 359 2), .int (nI p)]) rfl (by decide +kernel) rfl ?_
    rw [show I1 359 2 = nI (aN A) from (hs.mv hV).1.1]
    refine Ev.icmp_ge (off := 50) (tgt := 79) (by decide +kernel) (by decide) (fun h29 => ?_) (fun h29 => ?_)
    · have h29 : p ≥ (aN A) := zz_bG_t (by omega) (by omega) h29
      have hpN : aN A = p := by omega
      refine Ev.weakL (L' := [some (.ref 359), some (.int (nI k)), none, none]) ⟨rfl, rfl, trivial⟩ ?_
      exact hout I1 hs hl (by rw [hpN]; exact ha)
    · have h29 : p < (aN A) := zz_bG_f (by omega) (by omega) h29
      refine Ev.run [(.aload_n 0, 1), (.getfield 34, 3), (.aload_n 0, 1), (.iload_n 1, 1), (.iload_n 2, 1)] (pc' := 39) (L' := [some (.ref 359), some (.int (nI k)), some (.int (nI p)), none]) (S' := [.int (nI p), .int (nI k), .ref 359, .ref 368]) rfl (by decide +kernel) rfl ?_
      refine Ev.callV0 mX7_matchOf [.int (nI k), .int (nI p)] [.ref 368] _ rfl lk_RX7_124 (by decide +kernel) (rfl) rfl rfl rfl (Nat.le_of_ble_eq_true rfl) (c_X7_matchOf I1 J A (hs.mv hV) hW k p hk (by omega)) ?_
      rintro _ _ ⟨rfl, I2, hs2, rfl⟩
      have hV2 := (hs.tr hs2.s3).mv hV
      show Ev _ _ _ _ _ 42 [some (.ref 359), some (.int (nI k)), some (.int (nI p)), none] [.int (nI (mtc A k p)), .ref 368] (zz_SH, I2, J) _
      refine Ev.callS0 mX7_band [.int (nI (mtc A k p))] [.ref 368] _ rfl lk_RX7_137 (by decide +kernel) rfl (Nat.le_of_ble_eq_true rfl) (c_X7_band I2 J (mtc A k p) (by have := mtc_le A k p; omega)) ?_
      rintro _ _ ⟨rfl, rfl⟩
      show Ev _ _ _ _ _ 45 [some (.ref 359), some (.int (nI k)), some (.int (nI p)), none] [.int (nI (bnd (mtc A k p))), .ref 368] (zz_SH, I2, J) _
      refine Ev.iald (bnd (mtc A k p)) (by decide +kernel) (rfl) (rfl) (bnd_lt _) (by first | decide | omega) ?_
      dsimp only
      rw [show I2 368 (bnd (mtc A k p)) = nI (rt A (bnd (mtc A k p))) from hV2.2.2.2.1 (bnd (mtc A k p)) (bnd_lt _)]
      refine Ev.run [(.istore_n 3, 1), (.aload_n 0, 1), (.getfield 49, 3), (.iload_n 1, 1), (.iload_n 3, 1), (.aload_n 0, 1), (.getfield 49, 3), (.iload_n 1, 1)] (pc' := 58) (L' := [some (.ref 359), some (.int (nI k)), some (.int (nI p)), some (.int (nI (rt A (bnd (mtc A k p)))))]) (S' := [.int (nI k), .ref 373, .int (nI (rt A (bnd (mtc A k p)))), .int (nI k), .ref 373]) rfl (by decide +kernel) rfl ?_
      refine Ev.iald k (by decide +kernel) (rfl) (rfl) (by omega) (by first | decide | omega) ?_
      dsimp only
      rw [show I2 373 k = nI (aln A k p) from by rw [hs2 373 (by decide)]; exact ha]
      refine Ev.icmp_ge (off := 7) (tgt := 66) (by decide +kernel) (by decide) (fun h59 => ?_) (fun h59 => ?_)
      · have h59 : (rt A (bnd (mtc A k p))) ≥ (aln A k p) := zz_bG_t (by omega) (by omega) h59
        refine Ev.run [(.aload_n 0, 1), (.getfield 49, 3), (.iload_n 1, 1)] (pc' := 71) (L' := [some (.ref 359), some (.int (nI k)), some (.int (nI p)), some (.int (nI (rt A (bnd (mtc A k p)))))]) (S' := [.int (nI k), .ref 373, .int (nI k), .ref 373]) rfl (by decide +kernel) rfl ?_
        refine Ev.iald k (by decide +kernel) (rfl) (rfl) (by omega) (by first | decide | omega) ?_
        dsimp only
        rw [show I2 373 k = nI (aln A k p) from by rw [hs2 373 (by decide)]; exact ha]
        refine Ev.iast k (by decide +kernel) (rfl) (rfl) (by omega) (by first | decide | omega) ?_
        dsimp only
        refine Ev.run [(.iinc 2 1, 3)] (pc' := 76) (L' := [some (.ref 359), some (.int (nI k)), some (.int (nI p + 1)), some (.int (nI (rt A (bnd (mtc A k p)))))]) (S' := []) rfl (by decide +kernel) rfl ?_
        rw [nI_1 p]
        refine Ev.goto (off := (-52)) (tgt := 24) (by decide +kernel) (by decide) ?_
        refine Ev.weakL (L' := [some (.ref 359), some (.int (nI k)), some (.int (nI (p + 1))), none]) ⟨rfl, rfl, rfl, trivial⟩ ?_
        exact ih (p + 1) _ (by omega) (by omega) ((hs.tr hs2.s3).tr (zS3.up I2 373 k _ (by decide))) ((hl.s1 hs2).u3 _) (by rw [zz_up_eq, zz_ups, aln]; congr 1; omega)
      · have h59 : (rt A (bnd (mtc A k p))) < (aln A k p) := zz_bG_f (by omega) (by omega) h59
        refine Ev.run [(.iload_n 3, 1)] (pc' := 63) (L' := [some (.ref 359), some (.int (nI k)), some (.int (nI p)), some (.int (nI (rt A (bnd (mtc A k p)))))]) (S' := [.int (nI (rt A (bnd (mtc A k p)))), .int (nI k), .ref 373]) rfl (by decide +kernel) rfl ?_
        refine Ev.goto (off := 9) (tgt := 72) (by decide +kernel) (by decide) ?_
        refine Ev.iast k (by decide +kernel) (rfl) (rfl) (by omega) (by first | decide | omega) ?_
        dsimp only
        refine Ev.run [(.iinc 2 1, 3)] (pc' := 76) (L' := [some (.ref 359), some (.int (nI k)), some (.int (nI p + 1)), some (.int (nI (rt A (bnd (mtc A k p)))))]) (S' := []) rfl (by decide +kernel) rfl ?_
        rw [nI_1 p]
        refine Ev.goto (off := (-52)) (tgt := 24) (by decide +kernel) (by decide) ?_
        refine Ev.weakL (L' := [some (.ref 359), some (.int (nI k)), some (.int (nI (p + 1))), none]) ⟨rfl, rfl, rfl, trivial⟩ ?_
        exact ih (p + 1) _ (by omega) (by omega) ((hs.tr hs2.s3).tr (zS3.up I2 373 k _ (by decide))) ((hl.s1 hs2).u3 _) (by rw [zz_up_eq, zz_ups, aln]; congr 1; omega)

set_option maxRecDepth 100000 in
set_option maxHeartbeats 4000000 in
theorem l_X7_lb2 {sc : Nat × (Nat → Int32)} {d : Nat} (I : Nat → Nat → Int32) (J : Nat → Nat → Int64) (A : zA) (hV : MV (zVm I) A) (hW : WF A) (k : Nat) (hk : k < aM A) (hout : ∀ I2 : Nat → Nat → Int32, zS3 I I2 → lb1 A k I2 → I2 373 k = nI (aln A k (aN A)) → (∀ i, i < aM A → I2 374 (10 * k + i) = nI (bes A k i)) → Ev sc (d + 6) 0 0 mX7_layBeside 120 [some (.ref 359), some (.int (nI k)), none, none] [] (zz_SH, I2, J) (fun r σ => r = none ∧ ∃ I' : Nat → Nat → Int32, zS3 I I' ∧ lb1 A (aM A) I' ∧ σ = (zz_SH, I', J))) : ∀ (μ : Nat) (j : Nat) (I1 : Nat → Nat → Int32), aM A - j < μ → (j ≤ aM A) → (zS3 I I1) → (lb1 A k I1) → (I1 373 k = nI (aln A k (aN A))) → (∀ i, i < j → I1 374 (10 * k + i) = nI (bes A k i)) →  Ev sc (d + 6) 0 0 mX7_layBeside 81 [some (.ref 359), some (.int (nI k)), some (.int (nI j)), none] [] (zz_SH, I1, J) (fun r σ => r = none ∧ ∃ I' : Nat → Nat → Int32, zS3 I I' ∧ lb1 A (aM A) I' ∧ σ = (zz_SH, I', J)) := by
  intro μ
  induction μ with
  | zero => intro j I1 hμ; exact absurd hμ (Nat.not_lt_zero _)
  | succ μ ih =>
    intro j I1 hμ hj hs hl ha hb
    have w1 := hW.1.1
    have w2 := hW.1.2.1
    refine Ev.run [(.iload_n 2, 1), (.aload_n 0, 1), (.getfield 83, 3)] (pc' := 86) (L' := [some (.ref 359), some (.int (nI k)), some (.int (nI j)), none]) (S' := [.int (I1 359 8), .int (nI j)]) rfl (by decide +kernel) rfl ?_
    rw [show I1 359 8 = nI (aM A) from (hs.mv hV).1.2.1]
    refine Ev.icmp_ge (off := 34) (tgt := 120) (by decide +kernel) (by decide) (fun h86 => ?_) (fun h86 => ?_)
    · have h86 : j ≥ (aM A) := zz_bG_t (by omega) (by omega) h86
      have hjM : aM A = j := by omega
      refine Ev.weakL (L' := [some (.ref 359), some (.int (nI k)), none, none]) ⟨rfl, rfl, trivial⟩ ?_
      exact hout I1 hs hl ha (fun i hi => hb i (by omega))
    · have h86 : j < (aM A) := zz_bG_f (by omega) (by omega) h86
      refine Ev.run [(.aload_n 0, 1), (.getfield 52, 3), (.bipush 10, 2), (.iload_n 1, 1), (.imul, 1)] (pc' := 97) (L' := [some (.ref 359), some (.int (nI k)), some (.int (nI j)), none]) (S' := [.int (nI 10 * nI k), .ref 374]) rfl (by decide +kernel) rfl ?_
      rw [pk_mul 10 k]
      refine Ev.run [(.iload_n 2, 1), (.iadd, 1)] (pc' := 99) (L' := [some (.ref 359), some (.int (nI k)), some (.int (nI j)), none]) (S' := [.int (nI (10 * k) + nI j), .ref 374]) rfl (by decide +kernel) rfl ?_
      rw [nI_add (10 * k) j]
      refine Ev.run [(.aload_n 0, 1), (.getfield 34, 3), (.aload_n 0, 1), (.iload_n 1, 1), (.iload_n 2, 1)] (pc' := 106) (L' := [some (.ref 359), some (.int (nI k)), some (.int (nI j)), none]) (S' := [.int (nI j), .int (nI k), .ref 359, .ref 368, .int (nI ((10 * k) + j)), .ref 374]) rfl (by decide +kernel) rfl ?_
      refine Ev.callV0 mX7_likeOf [.int (nI k), .int (nI j)] [.ref 368, .int (nI ((10 * k) + j)), .ref 374] _ rfl lk_RX7_143 (by decide +kernel) (rfl) rfl rfl rfl (Nat.le_of_ble_eq_true rfl) (c_X7_likeOf I1 J A (hs.mv hV) hW k j hk (by omega)) ?_
      rintro _ _ ⟨rfl, I2, hs2, rfl⟩
      have hV2 := (hs.tr hs2.s3).mv hV
      show Ev _ _ _ _ _ 109 [some (.ref 359), some (.int (nI k)), some (.int (nI j)), none] [.int (nI (lkT A k j)), .ref 368, .int (nI ((10 * k) + j)), .ref 374] (zz_SH, I2, J) _
      refine Ev.callS0 mX7_band [.int (nI (lkT A k j))] [.ref 368, .int (nI ((10 * k) + j)), .ref 374] _ rfl lk_RX7_137 (by decide +kernel) rfl (Nat.le_of_ble_eq_true rfl) (c_X7_band I2 J (lkT A k j) (by have : lkT A k j ≤ 100 := lik_le _ _ _ _; omega)) ?_
      rintro _ _ ⟨rfl, rfl⟩
      show Ev _ _ _ _ _ 112 [some (.ref 359), some (.int (nI k)), some (.int (nI j)), none] [.int (nI (bnd (lkT A k j))), .ref 368, .int (nI ((10 * k) + j)), .ref 374] (zz_SH, I2, J) _
      refine Ev.iald (bnd (lkT A k j)) (by decide +kernel) (rfl) (rfl) (bnd_lt _) (by first | decide | omega) ?_
      dsimp only
      rw [show I2 368 (bnd (lkT A k j)) = nI (rt A (bnd (lkT A k j))) from hV2.2.2.2.1 (bnd (lkT A k j)) (bnd_lt _)]
      refine Ev.iast ((10 * k) + j) (by decide +kernel) (rfl) (rfl) (by omega) (by first | decide | omega) ?_
      dsimp only
      refine Ev.run [(.iinc 2 1, 3)] (pc' := 117) (L' := [some (.ref 359), some (.int (nI k)), some (.int (nI j + 1)), none]) (S' := []) rfl (by decide +kernel) rfl ?_
      rw [nI_1 j]
      refine Ev.goto (off := (-36)) (tgt := 81) (by decide +kernel) (by decide) ?_
      refine ih (j + 1) _ (by omega) (by omega) ((hs.tr hs2.s3).tr (zS3.up I2 374 _ _ (by decide))) ((hl.s1 hs2).u4 _ w2) (by rw [zz_up_ne (by decide), hs2 373 (by decide)]; exact ha) (fun i hi => ?_)
      by_cases e : i = j
      · subst e; rw [zz_up_eq, zz_ups]; rfl
      · rw [zz_up_eq, zz_upn (by omega), hs2 374 (by decide)]; exact hb i (by omega)

set_option maxRecDepth 100000 in
set_option maxHeartbeats 4000000 in
theorem l_X7_lb3 {sc : Nat × (Nat → Int32)} {d : Nat} (I : Nat → Nat → Int32) (J : Nat → Nat → Int64) (A : zA) (hV : MV (zVm I) A) (hW : WF A) : ∀ (μ : Nat) (k : Nat) (I1 : Nat → Nat → Int32), aM A - k < μ → (k ≤ aM A) → (zS3 I I1) → (lb1 A k I1) →  Ev sc (d + 6) 0 0 mX7_layBeside 2 [some (.ref 359), some (.int (nI k)), none, none] [] (zz_SH, I1, J) (fun r σ => r = none ∧ ∃ I' : Nat → Nat → Int32, zS3 I I' ∧ lb1 A (aM A) I' ∧ σ = (zz_SH, I', J)) := by
  intro μ
  induction μ with
  | zero => intro k I1 hμ; exact absurd hμ (Nat.not_lt_zero _)
  | succ μ ih =>
    intro k I1 hμ hk hs hl
    have w1 := hW.1.1
    have w2 := hW.1.2.1
    refine Ev.run [(.iload_n 1, 1), (.aload_n 0, 1), (.getfield 83, 3)] (pc' := 7) (L' := [some (.ref 359), some (.int (nI k)), none, none]) (S' := [.int (I1 359 8), .int (nI k)]) rfl (by decide +kernel) rfl ?_
    rw [show I1 359 8 = nI (aM A) from (hs.mv hV).1.2.1]
    refine Ev.icmp_ge (off := 119) (tgt := 126) (by decide +kernel) (by decide) (fun h7 => ?_) (fun h7 => ?_)
    · have h7 : k ≥ (aM A) := zz_bG_t (by omega) (by omega) h7
      have hkM : aM A = k := by omega
      exact Ev.vret rfl (by decide +kernel) (⟨rfl, I1, hs, by rw [hkM]; exact hl, rfl⟩)
    · have h7 : k < (aM A) := zz_bG_f (by omega) (by omega) h7
      refine Ev.run [(.aload_n 0, 1), (.getfield 49, 3), (.iload_n 1, 1), (.aload_n 0, 1), (.getfield 34, 3), (.iconst 4, 1)] (pc' := 20) (L' := [some (.ref 359), some (.int (nI k)), none, none]) (S' := [.int (nI 4), .ref 368, .int (nI k), .ref 373]) rfl (by decide +kernel) rfl ?_
      refine Ev.iald 4 (by decide +kernel) (rfl) (rfl) (by omega) (by first | decide | omega) ?_
      dsimp only
      rw [show I1 368 4 = nI (rt A 4) from (hs.mv hV).2.2.2.1 4 (by decide)]
      refine Ev.iast k (by decide +kernel) (rfl) (rfl) (by omega) (by first | decide | omega) ?_
      dsimp only
      refine Ev.run [(.iconst 0, 1), (.istore_n 2, 1)] (pc' := 24) (L' := [some (.ref 359), some (.int (nI k)), some (.int (nI 0)), none]) (S' := []) rfl (by decide +kernel) rfl ?_
      refine l_X7_lb1 I J A hV hW k (by omega) ?_ (aN A + 1) 0 _ (by omega) (by omega) (hs.tr (zS3.up I1 373 k _ (by decide))) (hl.u3 _) (by rw [zz_up_eq, zz_ups]; rfl)
      intro I2 hs2 hl2 ha2
      show Ev _ _ _ _ _ 79 [some (.ref 359), some (.int (nI k)), none, none] [] (zz_SH, I2, J) _
      refine Ev.run [(.iconst 0, 1), (.istore_n 2, 1)] (pc' := 81) (L' := [some (.ref 359), some (.int (nI k)), some (.int (nI 0)), none]) (S' := []) rfl (by decide +kernel) rfl ?_
      refine l_X7_lb2 I J A hV hW k (by omega) ?_ (aM A + 1) 0 I2 (by omega) (by omega) hs2 hl2 ha2 (fun i hi => absurd hi (Nat.not_lt_zero i))
      intro I3 hs3 hl3 ha3 hb3
      show Ev _ _ _ _ _ 120 [some (.ref 359), some (.int (nI k)), none, none] [] (zz_SH, I3, J) _
      refine Ev.run [(.iinc 1 1, 3)] (pc' := 123) (L' := [some (.ref 359), some (.int (nI k + 1)), none, none]) (S' := []) rfl (by decide +kernel) rfl ?_
      rw [nI_1 k]
      refine Ev.goto (off := (-121)) (tgt := 2) (by decide +kernel) (by decide) ?_
      refine ih (k + 1) I3 (by omega) (by omega) hs3 ⟨fun t ht => ?_, fun t ht j hj => ?_⟩
      · by_cases e : t = k
        · subst e; exact ha3
        · exact hl3.1 t (by omega)
      · by_cases e : t = k
        · subst e; exact hb3 j hj
        · exact hl3.2 t (by omega) j hj

set_option maxRecDepth 100000 in
set_option maxHeartbeats 4000000 in
theorem c_X7_layBeside {sc : Nat × (Nat → Int32)} {d : Nat} (I : Nat → Nat → Int32) (J : Nat → Nat → Int64) (A : zA) (hV : MV (zVm I) A) (hW : WF A) : EvM sc (d + 6) 0 0 mX7_layBeside [.ref 359] (zz_SH, I, J) (fun r σ => r = none ∧ ∃ I' : Nat → Nat → Int32, zS3 I I' ∧ lb1 A (aM A) I' ∧ σ = (zz_SH, I', J)) := by
  have w1 := hW.1.1
  have w2 := hW.1.2.1
  refine EvM.of (by decide) rfl (Nat.le_of_ble_eq_true rfl) ?_
  show Ev _ _ _ _ _ 0 [some (.ref 359), none, none, none] [] (zz_SH, I, J) _
  refine Ev.run [(.iconst 0, 1), (.istore_n 1, 1)] (pc' := 2) (L' := [some (.ref 359), some (.int (nI 0)), none, none]) (S' := []) rfl (by decide +kernel) rfl ?_
  exact l_X7_lb3 I J A hV hW (aM A + 1) 0 I (by omega) (by omega) (zS3.rf I) ⟨fun t ht => absurd ht (Nat.not_lt_zero t), fun t ht => absurd ht (Nat.not_lt_zero t)⟩

set_option maxRecDepth 100000 in
set_option maxHeartbeats 4000000 in
theorem l_X7_costs {sc : Nat × (Nat → Int32)} {d : Nat} (I : Nat → Nat → Int32) (J : Nat → Nat → Int64) (A : zA) (hV : MV (zVm I) A) (hW : WF A) (k o : Nat) (hk : k < aM A) (ho : o < 1024) (hl : lb1 A (aM A) I) : ∀ (μ : Nat) (j : Nat), aM A - j < μ → (j ≤ aM A) →  Ev sc (d) 0 0 mX7_costs 10 [some (.ref 359), some (.int (nI k)), some (.int (nI o)), some (.int (nI (lst A k o j))), some (.int (nI j)), none] [] (zz_SH, I, J) (zz_is (.int (nI (cst A k o))) (zz_SH, I, J)) := by
  intro μ
  induction μ with
  | zero => intro j hμ; exact absurd hμ (Nat.not_lt_zero _)
  | succ μ ih =>
    intro j hμ hj
    have w1 := hW.1.1
    have w2 := hW.1.2.1
    have c1 := lst_le hW k o j
    have c2 : bes A k j ≤ 99 := hW.2.2.2.1 _ (bnd_lt _)
    refine Ev.run [(.iload 4, 2), (.aload_n 0, 1), (.getfield 83, 3)] (pc' := 16) (L' := [some (.ref 359), some (.int (nI k)), some (.int (nI o)), some (.int (nI (lst A k o j))), some (.int (nI j)), none]) (S' := [.int (I 359 8), .int (nI j)]) rfl (by decide +kernel) rfl ?_
    rw [show I 359 8 = nI (aM A) from hV.1.2.1]
    refine Ev.icmp_ge (off := 64) (tgt := 80) (by decide +kernel) (by decide) (fun h16 => ?_) (fun h16 => ?_)
    · have h16 : j ≥ (aM A) := zz_bG_t (by omega) (by omega) h16
      have hjM : aM A = j := by omega
      refine Ev.run [(.aload_n 0, 1), (.getfield 28, 3), (.iload_n 1, 1)] (pc' := 85) (L' := [some (.ref 359), some (.int (nI k)), some (.int (nI o)), some (.int (nI (lst A k o j))), some (.int (nI j)), none]) (S' := [.int (nI k), .ref 366]) rfl (by decide +kernel) rfl ?_
      refine Ev.iald k (by decide +kernel) (rfl) (rfl) (by omega) (by first | decide | omega) ?_
      dsimp only
      rw [show I 366 k = nI (tz A k) from (hV.2.2.1 k hk).1]
      refine Ev.run [(.iload_n 3, 1), (.imul, 1)] (pc' := 88) (L' := [some (.ref 359), some (.int (nI k)), some (.int (nI o)), some (.int (nI (lst A k o j))), some (.int (nI j)), none]) (S' := [.int (nI (tz A k) * nI (lst A k o j))]) rfl (by decide +kernel) rfl ?_
      rw [pk_mul (tz A k) (lst A k o j)]
      exact Ev.iret rfl (by decide +kernel) (⟨by rw [cst, hjM], rfl⟩)
    · have h16 : j < (aM A) := zz_bG_f (by omega) (by omega) h16
      refine Ev.run [(.iload_n 2, 1), (.iload 4, 2), (.ishr, 1)] (pc' := 23) (L' := [some (.ref 359), some (.int (nI k)), some (.int (nI o)), some (.int (nI (lst A k o j))), some (.int (nI j)), none]) (S' := [.int ((nI o) >>> (nI j &&& 31))]) rfl (by decide +kernel) rfl ?_
      rw [zz_shr (a := o) (k := j) (by omega) (by omega)]
      refine Ev.run [(.iconst 1, 1)] (pc' := 24) (L' := [some (.ref 359), some (.int (nI k)), some (.int (nI o)), some (.int (nI (lst A k o j))), some (.int (nI j)), none]) (S' := [.int (nI 1), .int (nI (o / 2 ^ j))]) rfl (by decide +kernel) rfl ?_
      have q1 := zz_tb_le o j
      refine Ev.run [(.iand, 1)] (pc' := 25) (L' := [some (.ref 359), some (.int (nI k)), some (.int (nI o)), some (.int (nI (lst A k o j))), some (.int (nI j)), none]) (S' := [.int (nI (o / 2 ^ j) &&& nI 1)]) rfl (by decide +kernel) rfl ?_
      rw [zz_and (o / 2 ^ j) 1]
      refine Ev.run [(.iconst 1, 1)] (pc' := 26) (L' := [some (.ref 359), some (.int (nI k)), some (.int (nI o)), some (.int (nI (lst A k o j))), some (.int (nI j)), none]) (S' := [.int (nI 1), .int (nI ((o / 2 ^ j) &&& 1))]) rfl (by decide +kernel) rfl ?_
      refine Ev.icmp_ne (off := 23) (tgt := 49) (by decide +kernel) (by decide) (fun h26 => ?_) (fun h26 => ?_)
      · have h26 : ¬ ((o / 2 ^ j) &&& 1) = 1 := zz_bE_f (by omega) (by omega) h26
        refine Ev.run [(.iconst 0, 1), (.istore 5, 2), (.iload 5, 2)] (pc' := 54) (L' := [some (.ref 359), some (.int (nI k)), some (.int (nI o)), some (.int (nI (lst A k o j))), some (.int (nI j)), some (.int (nI 0))]) (S' := [.int (nI 0)]) rfl (by decide +kernel) rfl ?_
        refine Ev.if_eq (off := 18) (tgt := 72) (by decide +kernel) (by decide) (fun h54 => ?_) (fun h54 => absurd h54 (by decide))
        refine Ev.run [(.iload_n 3, 1), (.istore_n 3, 1), (.iinc 4 1, 3)] (pc' := 77) (L' := [some (.ref 359), some (.int (nI k)), some (.int (nI o)), some (.int (nI (lst A k o j))), some (.int (nI j + 1)), some (.int (nI 0))]) (S' := []) rfl (by decide +kernel) rfl ?_
        rw [nI_1 j]
        refine Ev.goto (off := (-67)) (tgt := 10) (by decide +kernel) (by decide) ?_
        refine Ev.weakL (L' := [some (.ref 359), some (.int (nI k)), some (.int (nI o)), some (.int (nI (lst A k o j))), some (.int (nI (j + 1))), none]) ⟨rfl, rfl, rfl, rfl, rfl, trivial⟩ ?_
        rw [show lst A k o j = lst A k o (j + 1) from by rw [lst, if_neg (by rw [zz_tb1] at h26; simpa using h26)]]
        exact ih (j + 1) (by omega) (by omega)
      · have h26 : ((o / 2 ^ j) &&& 1) = 1 := zz_bE_t (by omega) (by omega) h26
        refine Ev.run [(.aload_n 0, 1), (.getfield 52, 3), (.bipush 10, 2), (.iload_n 1, 1), (.imul, 1)] (pc' := 37) (L' := [some (.ref 359), some (.int (nI k)), some (.int (nI o)), some (.int (nI (lst A k o j))), some (.int (nI j)), none]) (S' := [.int (nI 10 * nI k), .ref 374]) rfl (by decide +kernel) rfl ?_
        rw [pk_mul 10 k]
        refine Ev.run [(.iload 4, 2), (.iadd, 1)] (pc' := 40) (L' := [some (.ref 359), some (.int (nI k)), some (.int (nI o)), some (.int (nI (lst A k o j))), some (.int (nI j)), none]) (S' := [.int (nI (10 * k) + nI j), .ref 374]) rfl (by decide +kernel) rfl ?_
        rw [nI_add (10 * k) j]
        refine Ev.iald ((10 * k) + j) (by decide +kernel) (rfl) (rfl) (by omega) (by first | decide | omega) ?_
        dsimp only
        rw [show I 374 (10 * k + j) = nI (bes A k j) from hl.2 k hk j (by omega)]
        refine Ev.run [(.iload_n 3, 1)] (pc' := 42) (L' := [some (.ref 359), some (.int (nI k)), some (.int (nI o)), some (.int (nI (lst A k o j))), some (.int (nI j)), none]) (S' := [.int (nI (lst A k o j)), .int (nI (bes A k j))]) rfl (by decide +kernel) rfl ?_
        refine Ev.icmp_ge (off := 7) (tgt := 49) (by decide +kernel) (by decide) (fun h42 => ?_) (fun h42 => ?_)
        · have h42 : (bes A k j) ≥ (lst A k o j) := zz_bG_t (by omega) (by omega) h42
          refine Ev.run [(.iconst 0, 1), (.istore 5, 2), (.iload 5, 2)] (pc' := 54) (L' := [some (.ref 359), some (.int (nI k)), some (.int (nI o)), some (.int (nI (lst A k o j))), some (.int (nI j)), some (.int (nI 0))]) (S' := [.int (nI 0)]) rfl (by decide +kernel) rfl ?_
          refine Ev.if_eq (off := 18) (tgt := 72) (by decide +kernel) (by decide) (fun h54 => ?_) (fun h54 => absurd h54 (by decide))
          refine Ev.run [(.iload_n 3, 1), (.istore_n 3, 1), (.iinc 4 1, 3)] (pc' := 77) (L' := [some (.ref 359), some (.int (nI k)), some (.int (nI o)), some (.int (nI (lst A k o j))), some (.int (nI j + 1)), some (.int (nI 0))]) (S' := []) rfl (by decide +kernel) rfl ?_
          rw [nI_1 j]
          refine Ev.goto (off := (-67)) (tgt := 10) (by decide +kernel) (by decide) ?_
          refine Ev.weakL (L' := [some (.ref 359), some (.int (nI k)), some (.int (nI o)), some (.int (nI (lst A k o j))), some (.int (nI (j + 1))), none]) ⟨rfl, rfl, rfl, rfl, rfl, trivial⟩ ?_
          rw [show lst A k o j = lst A k o (j + 1) from by rw [lst, if_pos (zz_tb1.mp h26)]; omega]
          exact ih (j + 1) (by omega) (by omega)
        · have h42 : (bes A k j) < (lst A k o j) := zz_bG_f (by omega) (by omega) h42
          refine Ev.run [(.iconst 1, 1)] (pc' := 46) (L' := [some (.ref 359), some (.int (nI k)), some (.int (nI o)), some (.int (nI (lst A k o j))), some (.int (nI j)), none]) (S' := [.int (nI 1)]) rfl (by decide +kernel) rfl ?_
          refine Ev.goto (off := 4) (tgt := 50) (by decide +kernel) (by decide) ?_
          refine Ev.run [(.istore 5, 2), (.iload 5, 2)] (pc' := 54) (L' := [some (.ref 359), some (.int (nI k)), some (.int (nI o)), some (.int (nI (lst A k o j))), some (.int (nI j)), some (.int (nI 1))]) (S' := [.int (nI 1)]) rfl (by decide +kernel) rfl ?_
          refine Ev.if_eq (off := 18) (tgt := 72) (by decide +kernel) (by decide) (fun h54 => absurd h54 (by decide)) (fun h54 => ?_)
          refine Ev.run [(.aload_n 0, 1), (.getfield 52, 3), (.bipush 10, 2), (.iload_n 1, 1), (.imul, 1)] (pc' := 65) (L' := [some (.ref 359), some (.int (nI k)), some (.int (nI o)), some (.int (nI (lst A k o j))), some (.int (nI j)), some (.int (nI 1))]) (S' := [.int (nI 10 * nI k), .ref 374]) rfl (by decide +kernel) rfl ?_
          rw [pk_mul 10 k]
          refine Ev.run [(.iload 4, 2), (.iadd, 1)] (pc' := 68) (L' := [some (.ref 359), some (.int (nI k)), some (.int (nI o)), some (.int (nI (lst A k o j))), some (.int (nI j)), some (.int (nI 1))]) (S' := [.int (nI (10 * k) + nI j), .ref 374]) rfl (by decide +kernel) rfl ?_
          rw [nI_add (10 * k) j]
          refine Ev.iald ((10 * k) + j) (by decide +kernel) (rfl) (rfl) (by omega) (by first | decide | omega) ?_
          dsimp only
          rw [show I 374 (10 * k + j) = nI (bes A k j) from hl.2 k hk j (by omega)]
          refine Ev.goto (off := 4) (tgt := 73) (by decide +kernel) (by decide) ?_
          refine Ev.run [(.istore_n 3, 1), (.iinc 4 1, 3)] (pc' := 77) (L' := [some (.ref 359), some (.int (nI k)), some (.int (nI o)), some (.int (nI (bes A k j))), some (.int (nI j + 1)), some (.int (nI 1))]) (S' := []) rfl (by decide +kernel) rfl ?_
          rw [nI_1 j]
          refine Ev.goto (off := (-67)) (tgt := 10) (by decide +kernel) (by decide) ?_
          refine Ev.weakL (L' := [some (.ref 359), some (.int (nI k)), some (.int (nI o)), some (.int (nI (bes A k j))), some (.int (nI (j + 1))), none]) ⟨rfl, rfl, rfl, rfl, rfl, trivial⟩ ?_
          rw [show bes A k j = lst A k o (j + 1) from by rw [lst, if_pos (zz_tb1.mp h26)]; omega]
          exact ih (j + 1) (by omega) (by omega)

set_option maxRecDepth 100000 in
set_option maxHeartbeats 4000000 in
theorem c_X7_costs {sc : Nat × (Nat → Int32)} {d : Nat} (I : Nat → Nat → Int32) (J : Nat → Nat → Int64) (A : zA) (hV : MV (zVm I) A) (hW : WF A) (k o : Nat) (hk : k < aM A) (ho : o < 1024) (hl : lb1 A (aM A) I) : EvM sc (d) 0 0 mX7_costs [.ref 359, .int (nI k), .int (nI o)] (zz_SH, I, J) (zz_is (.int (nI (cst A k o))) (zz_SH, I, J)) := by
  have w1 := hW.1.1
  have w2 := hW.1.2.1
  refine EvM.of (by decide) rfl (Nat.le_of_ble_eq_true rfl) ?_
  show Ev _ _ _ _ _ 0 [some (.ref 359), some (.int (nI k)), some (.int (nI o)), none, none, none] [] (zz_SH, I, J) _
  refine Ev.run [(.aload_n 0, 1), (.getfield 49, 3), (.iload_n 1, 1)] (pc' := 5) (L' := [some (.ref 359), some (.int (nI k)), some (.int (nI o)), none, none, none]) (S' := [.int (nI k), .ref 373]) rfl (by decide +kernel) rfl ?_
  refine Ev.iald k (by decide +kernel) (rfl) (rfl) (by omega) (by first | decide | omega) ?_
  dsimp only
  rw [show I 373 k = nI (aln A k (aN A)) from hl.1 k hk]
  refine Ev.run [(.istore_n 3, 1), (.iconst 0, 1), (.istore 4, 2)] (pc' := 10) (L' := [some (.ref 359), some (.int (nI k)), some (.int (nI o)), some (.int (nI (aln A k (aN A)))), some (.int (nI 0)), none]) (S' := []) rfl (by decide +kernel) rfl ?_
  exact l_X7_costs I J A hV hW k o hk ho hl (aM A + 1) 0 (by omega) (by omega)
end
section
/-! ===== the model: layOrders, order ===== -/

set_option maxRecDepth 100000 in
set_option maxHeartbeats 4000000 in
theorem l_X7_lo1 {sc : Nat × (Nat → Int32)} {d : Nat} (I : Nat → Nat → Int32) (J : Nat → Nat → Int64) (A : zA) (hV : MV (zVm I) A) (hW : WF A) (i : Nat) (hi : i < 2 ^ aM A - 1) (hout : ∀ I2 : Nat → Nat → Int32, zS4 I I2 → lb1 A (aM A) I2 → (∀ x, i ≤ x → x ≤ 2 ^ aM A - 1 → I2 375 x = nI (BT A x)) → Ev sc (d + 7) 0 0 mX7_layOrders 107 [some (.ref 359), some (.int (nI (2 ^ aM A - 1))), some (.int (nI i)), none, none] [] (zz_SH, I2, J) (fun r σ => r = none ∧ ∃ I' : Nat → Nat → Int32, zS4 I I' ∧ lb1 A (aM A) I' ∧ (∀ x, x ≤ 2 ^ aM A - 1 → I' 375 x = nI (BT A x)) ∧ σ = (zz_SH, I', J))) : ∀ (μ : Nat) (k : Nat) (I1 : Nat → Nat → Int32), aM A - k < μ → (k ≤ aM A) → (zS4 I I1) → (lb1 A (aM A) I1) → (∀ x, i < x → x ≤ 2 ^ aM A - 1 → I1 375 x = nI (BT A x)) → (I1 375 i = nI (mov (mno A (BT A) i k))) →  Ev sc (d + 7) 0 0 mX7_layOrders 38 [some (.ref 359), some (.int (nI (2 ^ aM A - 1))), some (.int (nI i)), some (.int (nI k)), none] [] (zz_SH, I1, J) (fun r σ => r = none ∧ ∃ I' : Nat → Nat → Int32, zS4 I I' ∧ lb1 A (aM A) I' ∧ (∀ x, x ≤ 2 ^ aM A - 1 → I' 375 x = nI (BT A x)) ∧ σ = (zz_SH, I', J)) := by
  intro μ
  induction μ with
  | zero => intro k I1 hμ; exact absurd hμ (Nat.not_lt_zero _)
  | succ μ ih =>
    intro k I1 hμ hk hs hl hgt hat
    have w1 := hW.1.1
    have w2 := hW.1.2.1
    have hp : 2 ^ aM A ≤ 1024 := Nat.le_trans (zz_pw2 w2) (by decide)
    have hp1 : 1 ≤ 2 ^ aM A := Nat.pow_pos (by decide)
    have q9 := mov_le hW (done := i) hk
    refine Ev.run [(.iload_n 3, 1), (.aload_n 0, 1), (.getfield 83, 3)] (pc' := 43) (L' := [some (.ref 359), some (.int (nI (2 ^ aM A - 1))), some (.int (nI i)), some (.int (nI k)), none]) (S' := [.int (I1 359 8), .int (nI k)]) rfl (by decide +kernel) rfl ?_
    rw [show I1 359 8 = nI (aM A) from (hs.sc.mv hV).1.2.1]
    refine Ev.icmp_ge (off := 64) (tgt := 107) (by decide +kernel) (by decide) (fun h43 => ?_) (fun h43 => ?_)
    · have h43 : k ≥ (aM A) := zz_bG_t (by omega) (by omega) h43
      have hkM : aM A = k := by omega
      refine Ev.weakL (L' := [some (.ref 359), some (.int (nI (2 ^ aM A - 1))), some (.int (nI i)), none, none]) ⟨rfl, rfl, rfl, trivial⟩ ?_
      refine hout I1 hs hl (fun x hx1 hx2 => ?_)
      by_cases e : x = i
      · subst e; rw [BT_rec w2 hi, hkM]; exact hat
      · exact hgt x (by omega) hx2
    · have h43 : k < (aM A) := zz_bG_f (by omega) (by omega) h43
      refine Ev.run [(.iload_n 2, 1), (.iload_n 3, 1), (.ishr, 1)] (pc' := 49) (L' := [some (.ref 359), some (.int (nI (2 ^ aM A - 1))), some (.int (nI i)), some (.int (nI k)), none]) (S' := [.int ((nI i) >>> (nI k &&& 31))]) rfl (by decide +kernel) rfl ?_
      rw [zz_shr (a := i) (k := k) (by omega) (by omega)]
      refine Ev.run [(.iconst 1, 1)] (pc' := 50) (L' := [some (.ref 359), some (.int (nI (2 ^ aM A - 1))), some (.int (nI i)), some (.int (nI k)), none]) (S' := [.int (nI 1), .int (nI (i / 2 ^ k))]) rfl (by decide +kernel) rfl ?_
      have q1 := zz_tb_le i k
      refine Ev.run [(.iand, 1)] (pc' := 51) (L' := [some (.ref 359), some (.int (nI (2 ^ aM A - 1))), some (.int (nI i)), some (.int (nI k)), none]) (S' := [.int (nI (i / 2 ^ k) &&& nI 1)]) rfl (by decide +kernel) rfl ?_
      rw [zz_and (i / 2 ^ k) 1]
      refine Ev.if_ne (off := 50) (tgt := 101) (by decide +kernel) (by decide) (fun h51 => ?_) (fun h51 => ?_)
      · have h51 : ¬ ((i / 2 ^ k) &&& 1) = 0 := zz_bE_f (by omega) (by omega) h51
        refine Ev.run [(.iinc 3 1, 3)] (pc' := 104) (L' := [some (.ref 359), some (.int (nI (2 ^ aM A - 1))), some (.int (nI i)), some (.int (nI k + 1)), none]) (S' := []) rfl (by decide +kernel) rfl ?_
        rw [nI_1 k]
        refine Ev.goto (off := (-66)) (tgt := 38) (by decide +kernel) (by decide) ?_
        exact ih (k + 1) I1 (by omega) (by omega) hs hl hgt (by rw [mno_t (by cases hq : i.testBit k with | true => rfl | false => exact absurd (zz_tb0.mpr hq) h51)]; exact hat)
      · have h51 : ((i / 2 ^ k) &&& 1) = 0 := zz_bE_t (by omega) (by omega) h51
        refine Ev.run [(.aload_n 0, 1), (.iload_n 3, 1), (.iload_n 2, 1)] (pc' := 57) (L' := [some (.ref 359), some (.int (nI (2 ^ aM A - 1))), some (.int (nI i)), some (.int (nI k)), none]) (S' := [.int (nI i), .int (nI k), .ref 359]) rfl (by decide +kernel) rfl ?_
        refine Ev.callV0 mX7_costs [.int (nI k), .int (nI i)] [] _ rfl lk_RX7_150 (by decide +kernel) (rfl) rfl rfl rfl (Nat.le_of_ble_eq_true rfl) (c_X7_costs I1 J A (hs.sc.mv hV) hW k i (by omega) (by omega) hl) ?_
        rintro _ _ ⟨rfl, rfl⟩
        have q2 := cst_le hW (show k < aM A by omega) i
        have q3 := BT_le hW (i ||| 2 ^ k)
        show Ev _ _ _ _ _ 60 [some (.ref 359), some (.int (nI (2 ^ aM A - 1))), some (.int (nI i)), some (.int (nI k)), none] [.int (nI (cst A k i))] (zz_SH, I1, J) _
        refine Ev.run [(.aload_n 0, 1), (.getfield 55, 3), (.iload_n 2, 1), (.iconst 1, 1), (.iload_n 3, 1), (.ishl, 1)] (pc' := 68) (L' := [some (.ref 359), some (.int (nI (2 ^ aM A - 1))), some (.int (nI i)), some (.int (nI k)), none]) (S' := [.int ((nI 1) <<< (nI k &&& 31)), .int (nI i), .ref 375, .int (nI (cst A k i))]) rfl (by decide +kernel) rfl ?_
        rw [zz_shl1 (k := k) (by omega)]
        refine Ev.run [(.ior, 1)] (pc' := 69) (L' := [some (.ref 359), some (.int (nI (2 ^ aM A - 1))), some (.int (nI i)), some (.int (nI k)), none]) (S' := [.int (nI i ||| nI (2 ^ k)), .ref 375, .int (nI (cst A k i))]) rfl (by decide +kernel) rfl ?_
        rw [zz_or i (2 ^ k)]
        refine Ev.iald (i ||| (2 ^ k)) (by decide +kernel) (rfl) (rfl) (Nat.lt_of_lt_of_le (zz_or_lt (n := aM A) (by omega) (by omega)) hp) (by first | decide | omega) ?_
        dsimp only
        rw [show I1 375 (i ||| 2 ^ k) = nI (BT A (i ||| 2 ^ k)) from hgt _ (zz_or_gt (zz_tb0.mp h51)) (by have := zz_or_lt (a := i) (k := k) (n := aM A) (by omega) (by omega); omega)]
        refine Ev.run [(.iadd, 1)] (pc' := 71) (L' := [some (.ref 359), some (.int (nI (2 ^ aM A - 1))), some (.int (nI i)), some (.int (nI k)), none]) (S' := [.int (nI (cst A k i) + nI (BT A (i ||| 2 ^ k)))]) rfl (by decide +kernel) rfl ?_
        rw [nI_add (cst A k i) (BT A (i ||| 2 ^ k))]
        refine Ev.run [(.istore 4, 2), (.aload_n 0, 1), (.getfield 55, 3), (.iload_n 2, 1), (.iload 4, 2), (.aload_n 0, 1), (.getfield 55, 3), (.iload_n 2, 1)] (pc' := 85) (L' := [some (.ref 359), some (.int (nI (2 ^ aM A - 1))), some (.int (nI i)), some (.int (nI k)), some (.int (nI ((cst A k i) + (BT A (i ||| 2 ^ k)))))]) (S' := [.int (nI i), .ref 375, .int (nI ((cst A k i) + (BT A (i ||| 2 ^ k)))), .int (nI i), .ref 375]) rfl (by decide +kernel) rfl ?_
        refine Ev.iald i (by decide +kernel) (rfl) (rfl) (by omega) (by first | decide | omega) ?_
        dsimp only
        rw [show I1 375 i = nI (mov (mno A (BT A) i k)) from hat]
        refine Ev.icmp_ge (off := 8) (tgt := 94) (by decide +kernel) (by decide) (fun h86 => ?_) (fun h86 => ?_)
        · have h86 : ((cst A k i) + (BT A (i ||| 2 ^ k))) ≥ (mov (mno A (BT A) i k)) := zz_bG_t (by omega) (by omega) h86
          refine Ev.run [(.aload_n 0, 1), (.getfield 55, 3), (.iload_n 2, 1)] (pc' := 99) (L' := [some (.ref 359), some (.int (nI (2 ^ aM A - 1))), some (.int (nI i)), some (.int (nI k)), some (.int (nI ((cst A k i) + (BT A (i ||| 2 ^ k)))))]) (S' := [.int (nI i), .ref 375, .int (nI i), .ref 375]) rfl (by decide +kernel) rfl ?_
          refine Ev.iald i (by decide +kernel) (rfl) (rfl) (by omega) (by first | decide | omega) ?_
          dsimp only
          rw [show I1 375 i = nI (mov (mno A (BT A) i k)) from hat]
          refine Ev.iast i (by decide +kernel) (rfl) (rfl) (by omega) (by first | decide | omega) ?_
          dsimp only
          refine Ev.run [(.iinc 3 1, 3)] (pc' := 104) (L' := [some (.ref 359), some (.int (nI (2 ^ aM A - 1))), some (.int (nI i)), some (.int (nI k + 1)), some (.int (nI ((cst A k i) + (BT A (i ||| 2 ^ k)))))]) (S' := []) rfl (by decide +kernel) rfl ?_
          rw [nI_1 k]
          refine Ev.goto (off := (-66)) (tgt := 38) (by decide +kernel) (by decide) ?_
          refine Ev.weakL (L' := [some (.ref 359), some (.int (nI (2 ^ aM A - 1))), some (.int (nI i)), some (.int (nI (k + 1))), none]) ⟨rfl, rfl, rfl, rfl, trivial⟩ ?_
          refine ih (k + 1) _ (by omega) (by omega) (hs.tr (zS4.up I1 i _)) hl.s4 (fun x hx1 hx2 => ?_) ?_
          · rw [zz_up_eq, zz_upn (by omega)]; exact hgt x hx1 hx2
          · rw [zz_up_eq, zz_ups, ← mov_ge' hW (by omega) (zz_tb0.mp h51) h86]
        · have h86 : ((cst A k i) + (BT A (i ||| 2 ^ k))) < (mov (mno A (BT A) i k)) := zz_bG_f (by omega) (by omega) h86
          refine Ev.run [(.iload 4, 2)] (pc' := 91) (L' := [some (.ref 359), some (.int (nI (2 ^ aM A - 1))), some (.int (nI i)), some (.int (nI k)), some (.int (nI ((cst A k i) + (BT A (i ||| 2 ^ k)))))]) (S' := [.int (nI ((cst A k i) + (BT A (i ||| 2 ^ k)))), .int (nI i), .ref 375]) rfl (by decide +kernel) rfl ?_
          refine Ev.goto (off := 9) (tgt := 100) (by decide +kernel) (by decide) ?_
          refine Ev.iast i (by decide +kernel) (rfl) (rfl) (by omega) (by first | decide | omega) ?_
          dsimp only
          refine Ev.run [(.iinc 3 1, 3)] (pc' := 104) (L' := [some (.ref 359), some (.int (nI (2 ^ aM A - 1))), some (.int (nI i)), some (.int (nI k + 1)), some (.int (nI ((cst A k i) + (BT A (i ||| 2 ^ k)))))]) (S' := []) rfl (by decide +kernel) rfl ?_
          rw [nI_1 k]
          refine Ev.goto (off := (-66)) (tgt := 38) (by decide +kernel) (by decide) ?_
          refine Ev.weakL (L' := [some (.ref 359), some (.int (nI (2 ^ aM A - 1))), some (.int (nI i)), some (.int (nI (k + 1))), none]) ⟨rfl, rfl, rfl, rfl, trivial⟩ ?_
          refine ih (k + 1) _ (by omega) (by omega) (hs.tr (zS4.up I1 i _)) hl.s4 (fun x hx1 hx2 => ?_) ?_
          · rw [zz_up_eq, zz_upn (by omega)]; exact hgt x hx1 hx2
          · rw [zz_up_eq, zz_ups, ← mov_lt' hW (by omega) (zz_tb0.mp h51) h86]

set_option maxRecDepth 100000 in
set_option maxHeartbeats 4000000 in
theorem l_X7_lo2 {sc : Nat × (Nat → Int32)} {d : Nat} (I : Nat → Nat → Int32) (J : Nat → Nat → Int64) (A : zA) (hV : MV (zVm I) A) (hW : WF A) : ∀ (μ : Nat) (i : Nat) (I1 : Nat → Nat → Int32), i < μ → (i < 2 ^ aM A - 1) → (zS4 I I1) → (lb1 A (aM A) I1) → (∀ x, i < x → x ≤ 2 ^ aM A - 1 → I1 375 x = nI (BT A x)) →  Ev sc (d + 7) 0 0 mX7_layOrders 24 [some (.ref 359), some (.int (nI (2 ^ aM A - 1))), some (.int (nI i)), none, none] [] (zz_SH, I1, J) (fun r σ => r = none ∧ ∃ I' : Nat → Nat → Int32, zS4 I I' ∧ lb1 A (aM A) I' ∧ (∀ x, x ≤ 2 ^ aM A - 1 → I' 375 x = nI (BT A x)) ∧ σ = (zz_SH, I', J)) := by
  intro μ
  induction μ with
  | zero => intro i I1 hμ; exact absurd hμ (Nat.not_lt_zero _)
  | succ μ ih =>
    intro i I1 hμ hi hs hl hgt
    have w1 := hW.1.1
    have w2 := hW.1.2.1
    have hp : 2 ^ aM A ≤ 1024 := Nat.le_trans (zz_pw2 w2) (by decide)
    have hp1 : 1 ≤ 2 ^ aM A := Nat.pow_pos (by decide)
    refine Ev.run [(.iload_n 2, 1)] (pc' := 25) (L' := [some (.ref 359), some (.int (nI (2 ^ aM A - 1))), some (.int (nI i)), none, none]) (S' := [.int (nI i)]) rfl (by decide +kernel) rfl ?_
    refine Ev.if_lt (off := 88) (tgt := 113) (by decide +kernel) (by decide) (fun h25 => ?_) (fun h25 => ?_)
    · have h25 : i < 0 := zz_bL_t (by omega) (by omega) h25
      exfalso; omega
    · have h25 : i ≥ 0 := zz_bL_f (by omega) (by omega) h25
      refine Ev.run [(.aload_n 0, 1), (.getfield 55, 3), (.iload_n 2, 1)] (pc' := 33) (L' := [some (.ref 359), some (.int (nI (2 ^ aM A - 1))), some (.int (nI i)), none, none]) (S' := [.int (nI i), .ref 375]) rfl (by decide +kernel) rfl ?_
      refine Ev.ldc (idx := 149) (v := 1000000) (by decide +kernel) (by decide +kernel) ?_
      refine Ev.iast i (by decide +kernel) (rfl) (rfl) (by omega) (by first | decide | omega) ?_
      dsimp only
      refine Ev.run [(.iconst 0, 1), (.istore_n 3, 1)] (pc' := 38) (L' := [some (.ref 359), some (.int (nI (2 ^ aM A - 1))), some (.int (nI i)), some (.int (nI 0)), none]) (S' := []) rfl (by decide +kernel) rfl ?_
      refine l_X7_lo1 I J A hV hW i hi ?_ (aM A + 1) 0 _ (by omega) (by omega) (hs.tr (zS4.up I1 i _)) hl.s4 (fun x hx1 hx2 => ?_) ?_
      rotate_left
      · rw [zz_up_eq, zz_upn (by omega)]; exact hgt x hx1 hx2
      · rw [zz_up_eq, zz_ups]; rfl
      intro I2 hs2 hl2 h2
      show Ev _ _ _ _ _ 107 [some (.ref 359), some (.int (nI (2 ^ aM A - 1))), some (.int (nI i)), none, none] [] (zz_SH, I2, J) _
      refine Ev.run [(.iinc 2 (-1), 3)] (pc' := 110) (L' := [some (.ref 359), some (.int (nI (2 ^ aM A - 1))), some (.int (nI i + (-1))), none, none]) (S' := []) rfl (by decide +kernel) rfl ?_
      refine Ev.goto (off := (-86)) (tgt := 24) (by decide +kernel) (by decide) ?_
      rcases Nat.eq_zero_or_pos i with hi0 | hi0
      · rw [show nI i + (-1) = (-1) from by rw [hi0]; rfl]
        refine Ev.run [(.iload_n 2, 1)] (pc' := 25) (L' := [some (.ref 359), some (.int (nI (2 ^ aM A - 1))), some (.int ((-1))), none, none]) (S' := [.int ((-1))]) rfl (by decide +kernel) rfl ?_
        refine Ev.if_lt (off := 88) (tgt := 113) (by decide +kernel) (by decide) (fun h25 => ?_) (fun h25 => absurd h25 (by decide))
        exact Ev.vret rfl (by decide +kernel) (⟨rfl, I2, hs2, hl2, fun x hx => h2 x (by omega) hx, rfl⟩)
      · rw [show nI i + (-1) = nI (i - 1) from by rw [← pk_m1 (i - 1)]; congr 2; omega]
        exact ih (i - 1) I2 (by omega) (by omega) hs2 hl2 (fun x hx1 hx2 => h2 x (by omega) hx2)

set_option maxRecDepth 100000 in
set_option maxHeartbeats 4000000 in
theorem c_X7_layOrders {sc : Nat × (Nat → Int32)} {d : Nat} (I : Nat → Nat → Int32) (J : Nat → Nat → Int64) (A : zA) (hV : MV (zVm I) A) (hW : WF A) : EvM sc (d + 7) 0 0 mX7_layOrders [.ref 359] (zz_SH, I, J) (fun r σ => r = none ∧ ∃ I' : Nat → Nat → Int32, zS4 I I' ∧ lb1 A (aM A) I' ∧ (∀ x, x ≤ 2 ^ aM A - 1 → I' 375 x = nI (BT A x)) ∧ σ = (zz_SH, I', J)) := by
  have w1 := hW.1.1
  have w2 := hW.1.2.1
  have hp : 2 ^ aM A ≤ 1024 := Nat.le_trans (zz_pw2 w2) (by decide)
  have hp1 : 1 ≤ 2 ^ aM A := Nat.pow_pos (by decide)
  refine EvM.of (by decide) rfl (Nat.le_of_ble_eq_true rfl) ?_
  show Ev _ _ _ _ _ 0 [some (.ref 359), none, none, none, none] [] (zz_SH, I, J) _
  refine Ev.run [(.aload_n 0, 1)] (pc' := 1) (L' := [some (.ref 359), none, none, none, none]) (S' := [.ref 359]) rfl (by decide +kernel) rfl ?_
  refine Ev.callV0 mX7_layBeside [] [] _ rfl lk_RX7_146 (by decide +kernel) (rfl) rfl rfl rfl (Nat.le_of_ble_eq_true rfl) (c_X7_layBeside I J A hV hW) ?_
  rintro _ _ ⟨rfl, I1, hs1, hl1, rfl⟩
  show Ev _ _ _ _ _ 4 [some (.ref 359), none, none, none, none] [] (zz_SH, I1, J) _
  refine Ev.run [(.iconst 1, 1), (.aload_n 0, 1), (.getfield 83, 3)] (pc' := 9) (L' := [some (.ref 359), none, none, none, none]) (S' := [.int (I1 359 8), .int (nI 1)]) rfl (by decide +kernel) rfl ?_
  rw [show I1 359 8 = nI (aM A) from (hs1.mv hV).1.2.1]
  refine Ev.run [(.ishl, 1)] (pc' := 10) (L' := [some (.ref 359), none, none, none, none]) (S' := [.int ((nI 1) <<< (nI (aM A) &&& 31))]) rfl (by decide +kernel) rfl ?_
  rw [zz_shl1 (k := (aM A)) (by omega)]
  refine Ev.run [(.iconst 1, 1), (.isub, 1)] (pc' := 12) (L' := [some (.ref 359), none, none, none, none]) (S' := [.int (nI (2 ^ (aM A)) - nI 1)]) rfl (by decide +kernel) rfl ?_
  rw [show nI (2 ^ (aM A)) - nI 1 = nI (2 ^ aM A - 1) from zz_sub (by omega)]
  refine Ev.run [(.istore_n 1, 1), (.aload_n 0, 1), (.getfield 55, 3), (.iload_n 1, 1), (.iconst 0, 1)] (pc' := 19) (L' := [some (.ref 359), some (.int (nI (2 ^ aM A - 1))), none, none, none]) (S' := [.int (nI 0), .int (nI (2 ^ aM A - 1)), .ref 375]) rfl (by decide +kernel) rfl ?_
  refine Ev.iast (2 ^ aM A - 1) (by decide +kernel) (rfl) (rfl) (by omega) (by first | decide | omega) ?_
  dsimp only
  refine Ev.run [(.iload_n 1, 1), (.iconst 1, 1), (.isub, 1), (.istore_n 2, 1)] (pc' := 24) (L' := [some (.ref 359), some (.int (nI (2 ^ aM A - 1))), some (.int (nI (2 ^ aM A - 1) - nI 1)), none, none]) (S' := []) rfl (by decide +kernel) rfl ?_
  rcases Nat.eq_zero_or_pos (2 ^ aM A - 1) with h0 | h0
  · rw [show nI (2 ^ aM A - 1) - nI 1 = (-1) from by rw [h0]; rfl]
    refine Ev.run [(.iload_n 2, 1)] (pc' := 25) (L' := [some (.ref 359), some (.int (nI (2 ^ aM A - 1))), some (.int ((-1))), none, none]) (S' := [.int ((-1))]) rfl (by decide +kernel) rfl ?_
    refine Ev.if_lt (off := 88) (tgt := 113) (by decide +kernel) (by decide) (fun h25 => ?_) (fun h25 => absurd h25 (by decide))
    exact Ev.vret rfl (by decide +kernel) (⟨rfl, _, hs1.s4.tr (zS4.up I1 _ _), hl1.s4, fun x hx => by rw [show x = 2 ^ aM A - 1 by omega, zz_up_eq, zz_ups, BT_all], rfl⟩)
  · rw [show nI (2 ^ aM A - 1) - nI 1 = nI (2 ^ aM A - 1 - 1) from zz_sub (by omega)]
    refine l_X7_lo2 I J A hV hW (2 ^ aM A - 1) (2 ^ aM A - 1 - 1) _ (by omega) (by omega) (hs1.s4.tr (zS4.up I1 _ _)) hl1.s4 (fun x hx1 hx2 => ?_)
    rw [show x = 2 ^ aM A - 1 by omega, zz_up_eq, zz_ups, BT_all]

set_option maxRecDepth 100000 in
set_option maxHeartbeats 4000000 in
theorem c_X7_order_l {sc : Nat × (Nat → Int32)} {d : Nat} (I : Nat → Nat → Int32) (J : Nat → Nat → Int64) (A : zA) (hV : MV (zVm I) A) (hW : WF A) : EvM sc (d + 8) 0 0 mX7_order [.ref 359, .int ((-1))] (zz_SH, I, J) (fun r σ => r = some (.int (nI (BT A 0))) ∧ ∃ I' : Nat → Nat → Int32, zSc I I' ∧ σ = (zz_SH, I', J)) := by
  have w1 := hW.1.1
  have w2 := hW.1.2.1
  have hp : 2 ^ aM A ≤ 1024 := Nat.le_trans (zz_pw2 w2) (by decide)
  have hp1 : 1 ≤ 2 ^ aM A := Nat.pow_pos (by decide)
  refine EvM.of (by decide) rfl (Nat.le_of_ble_eq_true rfl) ?_
  show Ev _ _ _ _ _ 0 [some (.ref 359), some (.int ((-1))), none, none, none, none, none] [] (zz_SH, I, J) _
  refine Ev.run [(.aload_n 0, 1)] (pc' := 1) (L' := [some (.ref 359), some (.int ((-1))), none, none, none, none, none]) (S' := [.ref 359]) rfl (by decide +kernel) rfl ?_
  refine Ev.callV0 mX7_layOrders [] [] _ rfl lk_RX7_153 (by decide +kernel) (rfl) rfl rfl rfl (Nat.le_of_ble_eq_true rfl) (c_X7_layOrders I J A hV hW) ?_
  rintro _ _ ⟨rfl, I1, hs1, hl1, hb1, rfl⟩
  show Ev _ _ _ _ _ 4 [some (.ref 359), some (.int ((-1))), none, none, none, none, none] [] (zz_SH, I1, J) _
  refine Ev.run [(.iload_n 1, 1), (.iconst (-1), 1)] (pc' := 6) (L' := [some (.ref 359), some (.int ((-1))), none, none, none, none, none]) (S' := [.int ((-1)), .int ((-1))]) rfl (by decide +kernel) rfl ?_
  refine Ev.icmp_ne (off := 10) (tgt := 16) (by decide +kernel) (by decide) (fun h6 => absurd h6 (fun q => q rfl)) (fun h6 => ?_)
  refine Ev.run [(.aload_n 0, 1), (.getfield 55, 3), (.iconst 0, 1)] (pc' := 14) (L' := [some (.ref 359), some (.int ((-1))), none, none, none, none, none]) (S' := [.int (nI 0), .ref 375]) rfl (by decide +kernel) rfl ?_
  refine Ev.iald 0 (by decide +kernel) (rfl) (rfl) (by omega) (by first | decide | omega) ?_
  dsimp only
  rw [show I1 375 0 = nI (BT A 0) from hb1 0 (by omega)]
  exact Ev.iret rfl (by decide +kernel) (⟨rfl, I1, hs1.sc, rfl⟩)

set_option maxRecDepth 100000 in
set_option maxHeartbeats 4000000 in
theorem c_X7_order_o {sc : Nat × (Nat → Int32)} {d : Nat} (I : Nat → Nat → Int32) (J : Nat → Nat → Int64) (A : zA) (hV : MV (zVm I) A) (hW : WF A) (y : Int32) (hy1 : ¬ y = (-1)) (hy : ¬ zz_ix y (aM A)) : EvM sc (d + 8) 0 0 mX7_order [.ref 359, .int y] (zz_SH, I, J) (fun r σ => r = some (.int (-6)) ∧ ∃ I' : Nat → Nat → Int32, zSc I I' ∧ σ = (zz_SH, I', J)) := by
  have w1 := hW.1.1
  have w2 := hW.1.2.1
  have hp : 2 ^ aM A ≤ 1024 := Nat.le_trans (zz_pw2 w2) (by decide)
  have hp1 : 1 ≤ 2 ^ aM A := Nat.pow_pos (by decide)
  refine EvM.of (by decide) rfl (Nat.le_of_ble_eq_true rfl) ?_
  show Ev _ _ _ _ _ 0 [some (.ref 359), some (.int y), none, none, none, none, none] [] (zz_SH, I, J) _
  refine Ev.run [(.aload_n 0, 1)] (pc' := 1) (L' := [some (.ref 359), some (.int y), none, none, none, none, none]) (S' := [.ref 359]) rfl (by decide +kernel) rfl ?_
  refine Ev.callV0 mX7_layOrders [] [] _ rfl lk_RX7_153 (by decide +kernel) (rfl) rfl rfl rfl (Nat.le_of_ble_eq_true rfl) (c_X7_layOrders I J A hV hW) ?_
  rintro _ _ ⟨rfl, I1, hs1, hl1, hb1, rfl⟩
  show Ev _ _ _ _ _ 4 [some (.ref 359), some (.int y), none, none, none, none, none] [] (zz_SH, I1, J) _
  refine Ev.run [(.iload_n 1, 1), (.iconst (-1), 1)] (pc' := 6) (L' := [some (.ref 359), some (.int y), none, none, none, none, none]) (S' := [.int ((-1)), .int y]) rfl (by decide +kernel) rfl ?_
  refine Ev.icmp_ne (off := 10) (tgt := 16) (by decide +kernel) (by decide) (fun h6 => ?_) (fun h6 => absurd h6 hy1)
  refine Ev.run [(.aload_n 0, 1), (.iload_n 1, 1)] (pc' := 18) (L' := [some (.ref 359), some (.int y), none, none, none, none, none]) (S' := [.int y, .ref 359]) rfl (by decide +kernel) rfl ?_
  refine Ev.callV0 mX7_isSentence [.int y] [] _ rfl lk_RX7_107 (by decide +kernel) (rfl) rfl rfl rfl (Nat.le_of_ble_eq_true rfl) (c_X7_isSentence I1 J (aM A) y (hs1.sc.mv hV).1.2.1 (by omega)) ?_
  rintro _ _ ⟨rfl, ⟨rfl, h18⟩ | ⟨rfl, h18⟩⟩
  · exact absurd h18 hy
  · show Ev _ _ _ _ _ 21 [some (.ref 359), some (.int y), none, none, none, none, none] [.int (nI 0)] (zz_SH, I1, J) _
    refine Ev.if_ne (off := 6) (tgt := 27) (by decide +kernel) (by decide) (fun h21 => absurd h21 (by decide)) (fun h21 => ?_)
    refine Ev.run [(.bipush (-6), 2)] (pc' := 26) (L' := [some (.ref 359), some (.int y), none, none, none, none, none]) (S' := [.int ((-6))]) rfl (by decide +kernel) rfl ?_
    exact Ev.iret rfl (by decide +kernel) (⟨rfl, I1, hs1.sc, rfl⟩)

def fpr (A : zA) (i : Nat) : Int32 := match i with
  | 0 => -6
  | i + 1 => nI (nxt A (dn A i))

set_option maxRecDepth 100000 in
set_option maxHeartbeats 4000000 in
theorem l_X7_or2 {sc : Nat × (Nat → Int32)} {d : Nat} (I : Nat → Nat → Int32) (J : Nat → Nat → Int64) (A : zA) (hV : MV (zVm I) A) (hW : WF A) (w : Nat) (hw : w < aM A) (I1 : Nat → Nat → Int32) (hs1 : zS4 I I1) (hl1 : lb1 A (aM A) I1) (hb1 : ∀ x, x ≤ 2 ^ aM A - 1 → I1 375 x = nI (BT A x)) (o i : Nat) (ho : o < 2 ^ aM A) (hm : ∃ k, k < aM A ∧ o.testBit k = false) (hout : Ev sc (d + 8) 0 0 mX7_order 122 [some (.ref 359), some (.int (nI w)), some (.int (nI o)), some (.int (nI (nxt A o))), some (.int (nI i)), none, none] [] (zz_SH, I1, J) (fun r σ => r = some (.int (nI (nxt A (dn A w)))) ∧ ∃ I' : Nat → Nat → Int32, zSc I I' ∧ σ = (zz_SH, I', J))) : ∀ (μ : Nat) (k : Nat), aM A - k < μ → (k ≤ nxt A o) →  Ev sc (d + 8) 0 0 mX7_order 47 [some (.ref 359), some (.int (nI w)), some (.int (nI o)), some (.int ((-6))), some (.int (nI i)), some (.int (nI k)), none] [] (zz_SH, I1, J) (fun r σ => r = some (.int (nI (nxt A (dn A w)))) ∧ ∃ I' : Nat → Nat → Int32, zSc I I' ∧ σ = (zz_SH, I', J)) := by
  intro μ
  induction μ with
  | zero => intro k hμ; exact absurd hμ (Nat.not_lt_zero _)
  | succ μ ih =>
    intro k hμ hk
    have w1 := hW.1.1
    have w2 := hW.1.2.1
    have hp : 2 ^ aM A ≤ 1024 := Nat.le_trans (zz_pw2 w2) (by decide)
    have hp1 : 1 ≤ 2 ^ aM A := Nat.pow_pos (by decide)
    obtain ⟨w9, n1, n2, n3, n4, n5⟩ := nxt_spec hm
    have hB : BT A o = w9 := by rw [BT_rec w2 (zz_full ho hm), n1]; rfl
    refine Ev.run [(.iload 5, 2), (.aload_n 0, 1), (.getfield 83, 3)] (pc' := 53) (L' := [some (.ref 359), some (.int (nI w)), some (.int (nI o)), some (.int ((-6))), some (.int (nI i)), some (.int (nI k)), none]) (S' := [.int (I1 359 8), .int (nI k)]) rfl (by decide +kernel) rfl ?_
    rw [show I1 359 8 = nI (aM A) from (hs1.sc.mv hV).1.2.1]
    refine Ev.icmp_ge (off := 69) (tgt := 122) (by decide +kernel) (by decide) (fun h53 => ?_) (fun h53 => ?_)
    · have h53 : k ≥ (aM A) := zz_bG_t (by omega) (by omega) h53
      exfalso; omega
    · have h53 : k < (aM A) := zz_bG_f (by omega) (by omega) h53
      refine Ev.run [(.iload_n 3, 1)] (pc' := 57) (L' := [some (.ref 359), some (.int (nI w)), some (.int (nI o)), some (.int ((-6))), some (.int (nI i)), some (.int (nI k)), none]) (S' := [.int ((-6))]) rfl (by decide +kernel) rfl ?_
      refine Ev.if_ge (off := 65) (tgt := 122) (by decide +kernel) (by decide) (fun h57 => absurd h57 (by decide)) (fun h57 => ?_)
      refine Ev.run [(.iload_n 2, 1), (.iload 5, 2), (.ishr, 1)] (pc' := 64) (L' := [some (.ref 359), some (.int (nI w)), some (.int (nI o)), some (.int ((-6))), some (.int (nI i)), some (.int (nI k)), none]) (S' := [.int ((nI o) >>> (nI k &&& 31))]) rfl (by decide +kernel) rfl ?_
      rw [zz_shr (a := o) (k := k) (by omega) (by omega)]
      refine Ev.run [(.iconst 1, 1)] (pc' := 65) (L' := [some (.ref 359), some (.int (nI w)), some (.int (nI o)), some (.int ((-6))), some (.int (nI i)), some (.int (nI k)), none]) (S' := [.int (nI 1), .int (nI (o / 2 ^ k))]) rfl (by decide +kernel) rfl ?_
      have q1 := zz_tb_le o k
      refine Ev.run [(.iand, 1)] (pc' := 66) (L' := [some (.ref 359), some (.int (nI w)), some (.int (nI o)), some (.int ((-6))), some (.int (nI i)), some (.int (nI k)), none]) (S' := [.int (nI (o / 2 ^ k) &&& nI 1)]) rfl (by decide +kernel) rfl ?_
      rw [zz_and (o / 2 ^ k) 1]
      refine Ev.if_ne (off := 35) (tgt := 101) (by decide +kernel) (by decide) (fun h66 => ?_) (fun h66 => ?_)
      · have h66 : ¬ ((o / 2 ^ k) &&& 1) = 0 := zz_bE_f (by omega) (by omega) h66
        refine Ev.run [(.iconst 0, 1), (.istore 6, 2), (.iload 6, 2)] (pc' := 106) (L' := [some (.ref 359), some (.int (nI w)), some (.int (nI o)), some (.int ((-6))), some (.int (nI i)), some (.int (nI k)), some (.int (nI 0))]) (S' := [.int (nI 0)]) rfl (by decide +kernel) rfl ?_
        refine Ev.if_eq (off := 8) (tgt := 114) (by decide +kernel) (by decide) (fun h106 => ?_) (fun h106 => absurd h106 (by decide))
        refine Ev.run [(.iload_n 3, 1), (.istore_n 3, 1), (.iinc 5 1, 3)] (pc' := 119) (L' := [some (.ref 359), some (.int (nI w)), some (.int (nI o)), some (.int ((-6))), some (.int (nI i)), some (.int (nI k + 1)), some (.int (nI 0))]) (S' := []) rfl (by decide +kernel) rfl ?_
        rw [nI_1 k]
        refine Ev.goto (off := (-72)) (tgt := 47) (by decide +kernel) (by decide) ?_
        refine Ev.weakL (L' := [some (.ref 359), some (.int (nI w)), some (.int (nI o)), some (.int ((-6))), some (.int (nI i)), some (.int (nI (k + 1))), none]) ⟨rfl, rfl, rfl, rfl, rfl, rfl, trivial⟩ ?_
        have hne : k ≠ nxt A o := fun e => h66 (zz_tb0.mpr (by rw [e]; exact n3))
        exact ih (k + 1) (by omega) (by omega)
      · have h66 : ((o / 2 ^ k) &&& 1) = 0 := zz_bE_t (by omega) (by omega) h66
        refine Ev.run [(.aload_n 0, 1), (.iload 5, 2), (.iload_n 2, 1)] (pc' := 73) (L' := [some (.ref 359), some (.int (nI w)), some (.int (nI o)), some (.int ((-6))), some (.int (nI i)), some (.int (nI k)), none]) (S' := [.int (nI o), .int (nI k), .ref 359]) rfl (by decide +kernel) rfl ?_
        refine Ev.callV0 mX7_costs [.int (nI k), .int (nI o)] [] _ rfl lk_RX7_150 (by decide +kernel) (rfl) rfl rfl rfl (Nat.le_of_ble_eq_true rfl) (c_X7_costs I1 J A (hs1.sc.mv hV) hW k o (by omega) (by omega) hl1) ?_
        rintro _ _ ⟨rfl, rfl⟩
        have q2 := cst_le hW (show k < aM A by omega) o
        have q3 := BT_le hW (o ||| 2 ^ k)
        have q4 := BT_le hW o
        show Ev _ _ _ _ _ 76 [some (.ref 359), some (.int (nI w)), some (.int (nI o)), some (.int ((-6))), some (.int (nI i)), some (.int (nI k)), none] [.int (nI (cst A k o))] (zz_SH, I1, J) _
        refine Ev.run [(.aload_n 0, 1), (.getfield 55, 3), (.iload_n 2, 1), (.iconst 1, 1), (.iload 5, 2), (.ishl, 1)] (pc' := 85) (L' := [some (.ref 359), some (.int (nI w)), some (.int (nI o)), some (.int ((-6))), some (.int (nI i)), some (.int (nI k)), none]) (S' := [.int ((nI 1) <<< (nI k &&& 31)), .int (nI o), .ref 375, .int (nI (cst A k o))]) rfl (by decide +kernel) rfl ?_
        rw [zz_shl1 (k := k) (by omega)]
        refine Ev.run [(.ior, 1)] (pc' := 86) (L' := [some (.ref 359), some (.int (nI w)), some (.int (nI o)), some (.int ((-6))), some (.int (nI i)), some (.int (nI k)), none]) (S' := [.int (nI o ||| nI (2 ^ k)), .ref 375, .int (nI (cst A k o))]) rfl (by decide +kernel) rfl ?_
        rw [zz_or o (2 ^ k)]
        refine Ev.iald (o ||| (2 ^ k)) (by decide +kernel) (rfl) (rfl) (Nat.lt_of_lt_of_le (zz_or_lt (n := aM A) (by omega) (by omega)) hp) (by first | decide | omega) ?_
        dsimp only
        rw [show I1 375 (o ||| 2 ^ k) = nI (BT A (o ||| 2 ^ k)) from hb1 _ (by have := zz_or_lt (a := o) (k := k) (n := aM A) (by omega) (by omega); omega)]
        refine Ev.run [(.iadd, 1)] (pc' := 88) (L' := [some (.ref 359), some (.int (nI w)), some (.int (nI o)), some (.int ((-6))), some (.int (nI i)), some (.int (nI k)), none]) (S' := [.int (nI (cst A k o) + nI (BT A (o ||| 2 ^ k)))]) rfl (by decide +kernel) rfl ?_
        rw [nI_add (cst A k o) (BT A (o ||| 2 ^ k))]
        refine Ev.run [(.aload_n 0, 1), (.getfield 55, 3), (.iload_n 2, 1)] (pc' := 93) (L' := [some (.ref 359), some (.int (nI w)), some (.int (nI o)), some (.int ((-6))), some (.int (nI i)), some (.int (nI k)), none]) (S' := [.int (nI o), .ref 375, .int (nI ((cst A k o) + (BT A (o ||| 2 ^ k))))]) rfl (by decide +kernel) rfl ?_
        refine Ev.iald o (by decide +kernel) (rfl) (rfl) (by omega) (by first | decide | omega) ?_
        dsimp only
        rw [show I1 375 o = nI (BT A o) from hb1 o (by omega)]
        refine Ev.icmp_ne (off := 7) (tgt := 101) (by decide +kernel) (by decide) (fun h94 => ?_) (fun h94 => ?_)
        · have h94 : ¬ ((cst A k o) + (BT A (o ||| 2 ^ k))) = (BT A o) := zz_bE_f (by omega) (by omega) h94
          refine Ev.run [(.iconst 0, 1), (.istore 6, 2), (.iload 6, 2)] (pc' := 106) (L' := [some (.ref 359), some (.int (nI w)), some (.int (nI o)), some (.int ((-6))), some (.int (nI i)), some (.int (nI k)), some (.int (nI 0))]) (S' := [.int (nI 0)]) rfl (by decide +kernel) rfl ?_
          refine Ev.if_eq (off := 8) (tgt := 114) (by decide +kernel) (by decide) (fun h106 => ?_) (fun h106 => absurd h106 (by decide))
          refine Ev.run [(.iload_n 3, 1), (.istore_n 3, 1), (.iinc 5 1, 3)] (pc' := 119) (L' := [some (.ref 359), some (.int (nI w)), some (.int (nI o)), some (.int ((-6))), some (.int (nI i)), some (.int (nI k + 1)), some (.int (nI 0))]) (S' := []) rfl (by decide +kernel) rfl ?_
          rw [nI_1 k]
          refine Ev.goto (off := (-72)) (tgt := 47) (by decide +kernel) (by decide) ?_
          refine Ev.weakL (L' := [some (.ref 359), some (.int (nI w)), some (.int (nI o)), some (.int ((-6))), some (.int (nI i)), some (.int (nI (k + 1))), none]) ⟨rfl, rfl, rfl, rfl, rfl, rfl, trivial⟩ ?_
          have hne : k ≠ nxt A o := fun e => h94 (by rw [hB, n4, e])
          exact ih (k + 1) (by omega) (by omega)
        · have h94 : ((cst A k o) + (BT A (o ||| 2 ^ k))) = (BT A o) := zz_bE_t (by omega) (by omega) h94
          have hkx : k = nxt A o := by
            rcases Nat.lt_or_ge k (nxt A o) with q | q
            · have := n5 k q (zz_tb0.mp h66); omega
            · omega
          refine Ev.run [(.iconst 1, 1)] (pc' := 98) (L' := [some (.ref 359), some (.int (nI w)), some (.int (nI o)), some (.int ((-6))), some (.int (nI i)), some (.int (nI k)), none]) (S' := [.int (nI 1)]) rfl (by decide +kernel) rfl ?_
          refine Ev.goto (off := 4) (tgt := 102) (by decide +kernel) (by decide) ?_
          refine Ev.run [(.istore 6, 2), (.iload 6, 2)] (pc' := 106) (L' := [some (.ref 359), some (.int (nI w)), some (.int (nI o)), some (.int ((-6))), some (.int (nI i)), some (.int (nI k)), some (.int (nI 1))]) (S' := [.int (nI 1)]) rfl (by decide +kernel) rfl ?_
          refine Ev.if_eq (off := 8) (tgt := 114) (by decide +kernel) (by decide) (fun h106 => absurd h106 (by decide)) (fun h106 => ?_)
          refine Ev.run [(.iload 5, 2)] (pc' := 111) (L' := [some (.ref 359), some (.int (nI w)), some (.int (nI o)), some (.int ((-6))), some (.int (nI i)), some (.int (nI k)), some (.int (nI 1))]) (S' := [.int (nI k)]) rfl (by decide +kernel) rfl ?_
          refine Ev.goto (off := 4) (tgt := 115) (by decide +kernel) (by decide) ?_
          refine Ev.run [(.istore_n 3, 1), (.iinc 5 1, 3)] (pc' := 119) (L' := [some (.ref 359), some (.int (nI w)), some (.int (nI o)), some (.int (nI k)), some (.int (nI i)), some (.int (nI k + 1)), some (.int (nI 1))]) (S' := []) rfl (by decide +kernel) rfl ?_
          rw [nI_1 k]
          refine Ev.goto (off := (-72)) (tgt := 47) (by decide +kernel) (by decide) ?_
          refine Ev.run [(.iload 5, 2), (.aload_n 0, 1), (.getfield 83, 3)] (pc' := 53) (L' := [some (.ref 359), some (.int (nI w)), some (.int (nI o)), some (.int (nI k)), some (.int (nI i)), some (.int (nI (k + 1))), some (.int (nI 1))]) (S' := [.int (I1 359 8), .int (nI (k + 1))]) rfl (by decide +kernel) rfl ?_
          rw [show I1 359 8 = nI (aM A) from (hs1.sc.mv hV).1.2.1]
          refine Ev.icmp_ge (off := 69) (tgt := 122) (by decide +kernel) (by decide) (fun g53 => ?_) (fun g53 => ?_)
          · have g53 : (k + 1) ≥ (aM A) := zz_bG_t (by omega) (by omega) g53
            refine Ev.weakL (L' := [some (.ref 359), some (.int (nI w)), some (.int (nI o)), some (.int (nI k)), some (.int (nI i)), none, none]) ⟨rfl, rfl, rfl, rfl, rfl, trivial⟩ ?_
            rw [hkx]
            exact hout
          · have g53 : (k + 1) < (aM A) := zz_bG_f (by omega) (by omega) g53
            refine Ev.run [(.iload_n 3, 1)] (pc' := 57) (L' := [some (.ref 359), some (.int (nI w)), some (.int (nI o)), some (.int (nI k)), some (.int (nI i)), some (.int (nI (k + 1))), some (.int (nI 1))]) (S' := [.int (nI k)]) rfl (by decide +kernel) rfl ?_
            refine Ev.if_ge (off := 65) (tgt := 122) (by decide +kernel) (by decide) (fun g57 => ?_) (fun g57 => ?_)
            · have g57 : k ≥ 0 := zz_bG_t (by omega) (by omega) g57
              refine Ev.weakL (L' := [some (.ref 359), some (.int (nI w)), some (.int (nI o)), some (.int (nI k)), some (.int (nI i)), none, none]) ⟨rfl, rfl, rfl, rfl, rfl, trivial⟩ ?_
              rw [hkx]
              exact hout
            · have g57 : k < 0 := zz_bG_f (by omega) (by omega) g57
              exfalso; omega

set_option maxRecDepth 100000 in
set_option maxHeartbeats 4000000 in
theorem l_X7_or1 {sc : Nat × (Nat → Int32)} {d : Nat} (I : Nat → Nat → Int32) (J : Nat → Nat → Int64) (A : zA) (hV : MV (zVm I) A) (hW : WF A) (w : Nat) (hw : w < aM A) (I1 : Nat → Nat → Int32) (hs1 : zS4 I I1) (hl1 : lb1 A (aM A) I1) (hb1 : ∀ x, x ≤ 2 ^ aM A - 1 → I1 375 x = nI (BT A x)) : ∀ (μ : Nat) (i : Nat), w + 1 - i < μ → (i ≤ w + 1) →  Ev sc (d + 8) 0 0 mX7_order 35 [some (.ref 359), some (.int (nI w)), some (.int (nI (dn A i))), some (.int (fpr A i)), some (.int (nI i)), none, none] [] (zz_SH, I1, J) (fun r σ => r = some (.int (nI (nxt A (dn A w)))) ∧ ∃ I' : Nat → Nat → Int32, zSc I I' ∧ σ = (zz_SH, I', J)) := by
  intro μ
  induction μ with
  | zero => intro i hμ; exact absurd hμ (Nat.not_lt_zero _)
  | succ μ ih =>
    intro i hμ hi
    have w1 := hW.1.1
    have w2 := hW.1.2.1
    have hp : 2 ^ aM A ≤ 1024 := Nat.le_trans (zz_pw2 w2) (by decide)
    have hp1 : 1 ≤ 2 ^ aM A := Nat.pow_pos (by decide)
    refine Ev.run [(.iload 4, 2), (.iload_n 1, 1)] (pc' := 38) (L' := [some (.ref 359), some (.int (nI w)), some (.int (nI (dn A i))), some (.int (fpr A i)), some (.int (nI i)), none, none]) (S' := [.int (nI w), .int (nI i)]) rfl (by decide +kernel) rfl ?_
    refine Ev.icmp_gt (off := 96) (tgt := 134) (by decide +kernel) (by decide) (fun h38 => ?_) (fun h38 => ?_)
    · have h38 : i > w := zz_bL'_t (by omega) (by omega) h38
      have hiw : i = w + 1 := by omega
      refine Ev.run [(.iload_n 3, 1)] (pc' := 135) (L' := [some (.ref 359), some (.int (nI w)), some (.int (nI (dn A i))), some (.int (fpr A i)), some (.int (nI i)), none, none]) (S' := [.int (fpr A i)]) rfl (by decide +kernel) rfl ?_
      exact Ev.iret rfl (by decide +kernel) (⟨by rw [hiw]; rfl, I1, hs1.sc, rfl⟩)
    · have h38 : i ≤ w := zz_bL'_f (by omega) (by omega) h38
      refine Ev.run [(.bipush (-6), 2), (.istore_n 3, 1), (.iconst 0, 1), (.istore 5, 2)] (pc' := 47) (L' := [some (.ref 359), some (.int (nI w)), some (.int (nI (dn A i))), some (.int ((-6))), some (.int (nI i)), some (.int (nI 0)), none]) (S' := []) rfl (by decide +kernel) rfl ?_
      obtain ⟨d1, d2⟩ := dn_spec A i (by omega)
      refine l_X7_or2 I J A hV hW w hw I1 hs1 hl1 hb1 (dn A i) i d1 (dn_miss A (by omega)) ?_ (aM A + 1) 0 (by omega) (by omega)
      obtain ⟨w9, n1, n2, n3, n4, n5⟩ := nxt_spec (A := A) (dn_miss A (show i < aM A by omega))
      show Ev _ _ _ _ _ 122 [some (.ref 359), some (.int (nI w)), some (.int (nI (dn A i))), some (.int (nI (nxt A (dn A i)))), some (.int (nI i)), none, none] [] (zz_SH, I1, J) _
      refine Ev.run [(.iload_n 2, 1), (.iconst 1, 1), (.iload_n 3, 1), (.ishl, 1)] (pc' := 126) (L' := [some (.ref 359), some (.int (nI w)), some (.int (nI (dn A i))), some (.int (nI (nxt A (dn A i)))), some (.int (nI i)), none, none]) (S' := [.int ((nI 1) <<< (nI (nxt A (dn A i)) &&& 31)), .int (nI (dn A i))]) rfl (by decide +kernel) rfl ?_
      rw [zz_shl1 (k := (nxt A (dn A i))) (by omega)]
      refine Ev.run [(.ior, 1)] (pc' := 127) (L' := [some (.ref 359), some (.int (nI w)), some (.int (nI (dn A i))), some (.int (nI (nxt A (dn A i)))), some (.int (nI i)), none, none]) (S' := [.int (nI (dn A i) ||| nI (2 ^ (nxt A (dn A i))))]) rfl (by decide +kernel) rfl ?_
      rw [zz_or (dn A i) (2 ^ (nxt A (dn A i)))]
      refine Ev.run [(.istore_n 2, 1), (.iinc 4 1, 3)] (pc' := 131) (L' := [some (.ref 359), some (.int (nI w)), some (.int (nI ((dn A i) ||| (2 ^ (nxt A (dn A i)))))), some (.int (nI (nxt A (dn A i)))), some (.int (nI i + 1)), none, none]) (S' := []) rfl (by decide +kernel) rfl ?_
      rw [nI_1 i]
      refine Ev.goto (off := (-96)) (tgt := 35) (by decide +kernel) (by decide) ?_
      rw [show dn A i ||| 2 ^ nxt A (dn A i) = dn A (i + 1) from by rw [dn]]
      exact ih (i + 1) (by omega) (by omega)

set_option maxRecDepth 100000 in
set_option maxHeartbeats 4000000 in
theorem c_X7_order_i {sc : Nat × (Nat → Int32)} {d : Nat} (I : Nat → Nat → Int32) (J : Nat → Nat → Int64) (A : zA) (hV : MV (zVm I) A) (hW : WF A) (w : Nat) (hw : w < aM A) : EvM sc (d + 8) 0 0 mX7_order [.ref 359, .int (nI w)] (zz_SH, I, J) (fun r σ => r = some (.int (nI (nxt A (dn A w)))) ∧ ∃ I' : Nat → Nat → Int32, zSc I I' ∧ σ = (zz_SH, I', J)) := by
  have w1 := hW.1.1
  have w2 := hW.1.2.1
  have hp : 2 ^ aM A ≤ 1024 := Nat.le_trans (zz_pw2 w2) (by decide)
  have hp1 : 1 ≤ 2 ^ aM A := Nat.pow_pos (by decide)
  refine EvM.of (by decide) rfl (Nat.le_of_ble_eq_true rfl) ?_
  show Ev _ _ _ _ _ 0 [some (.ref 359), some (.int (nI w)), none, none, none, none, none] [] (zz_SH, I, J) _
  refine Ev.run [(.aload_n 0, 1)] (pc' := 1) (L' := [some (.ref 359), some (.int (nI w)), none, none, none, none, none]) (S' := [.ref 359]) rfl (by decide +kernel) rfl ?_
  refine Ev.callV0 mX7_layOrders [] [] _ rfl lk_RX7_153 (by decide +kernel) (rfl) rfl rfl rfl (Nat.le_of_ble_eq_true rfl) (c_X7_layOrders I J A hV hW) ?_
  rintro _ _ ⟨rfl, I1, hs1, hl1, hb1, rfl⟩
  show Ev _ _ _ _ _ 4 [some (.ref 359), some (.int (nI w)), none, none, none, none, none] [] (zz_SH, I1, J) _
  refine Ev.run [(.iload_n 1, 1), (.iconst (-1), 1)] (pc' := 6) (L' := [some (.ref 359), some (.int (nI w)), none, none, none, none, none]) (S' := [.int ((-1)), .int (nI w)]) rfl (by decide +kernel) rfl ?_
  refine Ev.icmp_ne (off := 10) (tgt := 16) (by decide +kernel) (by decide) (fun h6 => ?_) (fun h6 => absurd h6 (zz_nm w (by omega)))
  refine Ev.run [(.aload_n 0, 1), (.iload_n 1, 1)] (pc' := 18) (L' := [some (.ref 359), some (.int (nI w)), none, none, none, none, none]) (S' := [.int (nI w), .ref 359]) rfl (by decide +kernel) rfl ?_
  refine Ev.callV0 mX7_isSentence [.int (nI w)] [] _ rfl lk_RX7_107 (by decide +kernel) (rfl) rfl rfl rfl (Nat.le_of_ble_eq_true rfl) (c_X7_isSentence I1 J (aM A) (nI w) (hs1.sc.mv hV).1.2.1 (by omega)) ?_
  rintro _ _ ⟨rfl, ⟨rfl, h18⟩ | ⟨rfl, h18⟩⟩
  · show Ev _ _ _ _ _ 21 [some (.ref 359), some (.int (nI w)), none, none, none, none, none] [.int (nI 1)] (zz_SH, I1, J) _
    refine Ev.if_ne (off := 6) (tgt := 27) (by decide +kernel) (by decide) (fun h21 => ?_) (fun h21 => absurd h21 (by decide))
    refine Ev.run [(.iconst 0, 1), (.istore_n 2, 1), (.bipush (-6), 2), (.istore_n 3, 1), (.iconst 0, 1), (.istore 4, 2)] (pc' := 35) (L' := [some (.ref 359), some (.int (nI w)), some (.int (nI 0)), some (.int ((-6))), some (.int (nI 0)), none, none]) (S' := []) rfl (by decide +kernel) rfl ?_
    exact l_X7_or1 I J A hV hW w hw I1 hs1 hl1 hb1 (w + 2) 0 (by omega) (by omega)
  · exact absurd ⟨w, hw, rfl⟩ h18
end
section
/-! ===== the model: needs, kept ===== -/
def bcn (s : Nat) : Nat → Nat
  | 0 => 0
  | n + 1 => bcn s n + (s / 2 ^ n &&& 1)
theorem bcn_le (s : Nat) : ∀ n, bcn s n ≤ n
  | 0 => Nat.le_refl _
  | n + 1 => by have := bcn_le s n; have := zz_tb_le s n; rw [bcn]; omega
def ned (A : zA) (k : Nat) : Nat → Nat
  | 0 => 0
  | n + 1 => if bfd A k < 4 ∧ bnd (mtc A k n) = bfd A k then ned A k n ||| 2 ^ n else ned A k n
theorem ned_4 {A : zA} {k : Nat} (h : 4 ≤ bfd A k) : ∀ n, ned A k n = 0
  | 0 => rfl
  | n + 1 => by rw [ned, if_neg (by omega), ned_4 h n]
theorem ned_lt (A : zA) (k : Nat) : ∀ n, ned A k n < 2 ^ n
  | 0 => Nat.zero_lt_one
  | n + 1 => by
    have h := ned_lt A k n
    have h2 : (2 : Nat) ^ n < 2 ^ (n + 1) := zz_pw (Nat.lt_succ_self n)
    rw [ned]
    split
    · exact zz_or_lt (Nat.lt_trans h h2) (Nat.lt_succ_self n)
    · exact Nat.lt_trans h h2
def en (A : zA) (s : Nat) : Nat → Bool
  | 0 => true
  | n + 1 => en A s n && (ned A n (aN A) == 0 || (ned A n (aN A) &&& s) != 0)
theorem en_iff {A : zA} {s : Nat} : ∀ n, en A s n = true ↔ ∀ k, k < n → ned A k (aN A) = 0 ∨ ¬ (ned A k (aN A) &&& s) = 0
  | 0 => ⟨fun _ k hk => absurd hk (Nat.not_lt_zero k), fun _ => rfl⟩
  | n + 1 => by
    rw [en, Bool.and_eq_true, en_iff n]
    constructor
    · rintro ⟨h1, h2⟩ k hk
      by_cases e : k = n
      · subst e
        simpa using h2
      · exact h1 k (by omega)
    · intro h
      refine ⟨fun k hk => h k (by omega), ?_⟩
      have := h n (by omega)
      simpa using this
def kps (A : zA) : Nat → Option Nat
  | 0 => none
  | s + 1 => match kps A s with
    | none => if en A s (aM A) = true then some s else none
    | some f => if bcn s 12 < bcn f 12 ∧ en A s (aM A) = true then some s else some f
theorem kps_lt {A : zA} : ∀ s f, kps A s = some f → f < s
  | 0, f, h => by cases h
  | s + 1, f, h => by
    rw [kps] at h
    split at h
    · split at h
      · cases h; omega
      · cases h
    · next g hg =>
      have := kps_lt s g hg
      split at h
      · cases h; omega
      · cases h; omega
def zS5 (I I' : Nat → Nat → Int32) : Prop := (∀ c, c ≠ 372 → c ≠ 359 → c ≠ 376 → I' c = I c) ∧ ∀ j, j ≠ 17 → I' 359 j = I 359 j
theorem zS5.rf (I : Nat → Nat → Int32) : zS5 I I := ⟨fun _ _ _ _ => rfl, fun _ _ => rfl⟩
theorem zS5.tr {I I' I'' : Nat → Nat → Int32} (h : zS5 I I') (h' : zS5 I' I'') : zS5 I I'' := ⟨fun c h1 h2 h3 => (h'.1 c h1 h2 h3).trans (h.1 c h1 h2 h3), fun j hj => (h'.2 j hj).trans (h.2 j hj)⟩
theorem zS2.s5 {I I' : Nat → Nat → Int32} (h : zS2 I I') : zS5 I I' := ⟨fun c h1 h2 _ => h.1 c h1 h2, h.2⟩
theorem zS5.up (I : Nat → Nat → Int32) (j : Nat) (v : Int32) : zS5 I (zz_up I 376 j v) := ⟨fun c _ _ h3 => zz_up_ne h3, fun j _ => by rw [zz_up_ne (by decide)]⟩
theorem zS5.sc {I I' : Nat → Nat → Int32} (h : zS5 I I') : zSc I I' := ⟨fun c hc => h.1 c (by omega) (by omega) (by omega), h.1 360 (by decide) (by decide) (by decide), fun c h1 h2 => h.1 c (by omega) (by omega) (by omega), h.1 379 (by decide) (by decide) (by decide), h.1 380 (by decide) (by decide) (by decide), h.2 0 (by decide), h.2 2 (by decide), h.2 8 (by decide)⟩
theorem zS5.mv {I I' : Nat → Nat → Int32} {A : zA} (h : zS5 I I') (hV : MV (zVm I) A) : MV (zVm I') A := h.sc.mv hV

set_option maxRecDepth 100000 in
set_option maxHeartbeats 4000000 in
theorem l_X7_bits {sc : Nat × (Nat → Int32)} {d : Nat} (I : Nat → Nat → Int32) (J : Nat → Nat → Int64) (s : Nat) (hs : s < 4096) : ∀ (μ : Nat) (k : Nat), 12 - k < μ → (k ≤ 12) →  Ev sc (d) 0 0 mX7_bits 4 [some (.int (nI s)), some (.int (nI (bcn s k))), some (.int (nI k))] [] (zz_SH, I, J) (zz_is (.int (nI (bcn s 12))) (zz_SH, I, J)) := by
  intro μ
  induction μ with
  | zero => intro k hμ; exact absurd hμ (Nat.not_lt_zero _)
  | succ μ ih =>
    intro k hμ hk
    have q0 := bcn_le s k
    refine Ev.run [(.iload_n 2, 1), (.bipush 12, 2)] (pc' := 7) (L' := [some (.int (nI s)), some (.int (nI (bcn s k))), some (.int (nI k))]) (S' := [.int (nI 12), .int (nI k)]) rfl (by decide +kernel) rfl ?_
    refine Ev.icmp_ge (off := 17) (tgt := 24) (by decide +kernel) (by decide) (fun h7 => ?_) (fun h7 => ?_)
    · have h7 : k ≥ 12 := zz_bG_t (by omega) (by omega) h7
      have hk12 : k = 12 := by omega
      refine Ev.run [(.iload_n 1, 1)] (pc' := 25) (L' := [some (.int (nI s)), some (.int (nI (bcn s k))), some (.int (nI k))]) (S' := [.int (nI (bcn s k))]) rfl (by decide +kernel) rfl ?_
      exact Ev.iret rfl (by decide +kernel) (⟨by rw [hk12], rfl⟩)
    · have h7 : k < 12 := zz_bG_f (by omega) (by omega) h7
      refine Ev.run [(.iload_n 1, 1), (.iload_n 0, 1), (.iload_n 2, 1), (.ishr, 1)] (pc' := 14) (L' := [some (.int (nI s)), some (.int (nI (bcn s k))), some (.int (nI k))]) (S' := [.int ((nI s) >>> (nI k &&& 31)), .int (nI (bcn s k))]) rfl (by decide +kernel) rfl ?_
      rw [zz_shr (a := s) (k := k) (by omega) (by omega)]
      refine Ev.run [(.iconst 1, 1)] (pc' := 15) (L' := [some (.int (nI s)), some (.int (nI (bcn s k))), some (.int (nI k))]) (S' := [.int (nI 1), .int (nI (s / 2 ^ k)), .int (nI (bcn s k))]) rfl (by decide +kernel) rfl ?_
      have q1 := zz_tb_le s k
      refine Ev.run [(.iand, 1)] (pc' := 16) (L' := [some (.int (nI s)), some (.int (nI (bcn s k))), some (.int (nI k))]) (S' := [.int (nI (s / 2 ^ k) &&& nI 1), .int (nI (bcn s k))]) rfl (by decide +kernel) rfl ?_
      rw [zz_and (s / 2 ^ k) 1]
      refine Ev.run [(.iadd, 1)] (pc' := 17) (L' := [some (.int (nI s)), some (.int (nI (bcn s k))), some (.int (nI k))]) (S' := [.int (nI (bcn s k) + nI ((s / 2 ^ k) &&& 1))]) rfl (by decide +kernel) rfl ?_
      rw [nI_add (bcn s k) ((s / 2 ^ k) &&& 1)]
      refine Ev.run [(.istore_n 1, 1), (.iinc 2 1, 3)] (pc' := 21) (L' := [some (.int (nI s)), some (.int (nI ((bcn s k) + ((s / 2 ^ k) &&& 1)))), some (.int (nI k + 1))]) (S' := []) rfl (by decide +kernel) rfl ?_
      rw [nI_1 k]
      refine Ev.goto (off := (-17)) (tgt := 4) (by decide +kernel) (by decide) ?_
      exact ih (k + 1) (by omega) (by omega)

set_option maxRecDepth 100000 in
set_option maxHeartbeats 4000000 in
theorem c_X7_bits {sc : Nat × (Nat → Int32)} {d : Nat} (I : Nat → Nat → Int32) (J : Nat → Nat → Int64) (s : Nat) (hs : s < 4096) : EvM sc (d) 0 0 mX7_bits [.int (nI s)] (zz_SH, I, J) (zz_is (.int (nI (bcn s 12))) (zz_SH, I, J)) := by
  refine EvM.of (by decide) rfl (Nat.le_of_ble_eq_true rfl) ?_
  show Ev _ _ _ _ _ 0 [some (.int (nI s)), none, none] [] (zz_SH, I, J) _
  refine Ev.run [(.iconst 0, 1), (.istore_n 1, 1), (.iconst 0, 1), (.istore_n 2, 1)] (pc' := 4) (L' := [some (.int (nI s)), some (.int (nI 0)), some (.int (nI 0))]) (S' := []) rfl (by decide +kernel) rfl ?_
  exact l_X7_bits I J s hs 13 0 (by omega) (by omega)

set_option maxRecDepth 100000 in
set_option maxHeartbeats 4000000 in
theorem l_X7_ln1 {sc : Nat × (Nat → Int32)} {d : Nat} (I : Nat → Nat → Int32) (J : Nat → Nat → Int64) (A : zA) (hV : MV (zVm I) A) (hW : WF A) (k u : Nat) (hk : k < aM A) (hu : u = bfd A k) (hout : ∀ I2 : Nat → Nat → Int32, zS5 I I2 → (∀ t, t < k → I2 376 t = nI (ned A t (aN A))) → I2 376 k = nI (ned A k (aN A)) → Ev sc (d + 7) 0 0 mX7_layNeeds 93 [some (.ref 359), some (.int (nI k)), none, none, none] [] (zz_SH, I2, J) (fun r σ => r = none ∧ ∃ I' : Nat → Nat → Int32, zS5 I I' ∧ (∀ t, t < aM A → I' 376 t = nI (ned A t (aN A))) ∧ σ = (zz_SH, I', J))) : ∀ (μ : Nat) (q : Nat) (I1 : Nat → Nat → Int32), aN A - q < μ → (q ≤ aN A) → (zS5 I I1) → (∀ t, t < k → I1 376 t = nI (ned A t (aN A))) → (I1 376 k = nI (ned A k q)) →  Ev sc (d + 7) 0 0 mX7_layNeeds 42 [some (.ref 359), some (.int (nI k)), none, some (.int (nI u)), some (.int (nI q))] [] (zz_SH, I1, J) (fun r σ => r = none ∧ ∃ I' : Nat → Nat → Int32, zS5 I I' ∧ (∀ t, t < aM A → I' 376 t = nI (ned A t (aN A))) ∧ σ = (zz_SH, I', J)) := by
  intro μ
  induction μ with
  | zero => intro q I1 hμ; exact absurd hμ (Nat.not_lt_zero _)
  | succ μ ih =>
    intro q I1 hμ hq hs hl ha
    have w1 := hW.1.1
    have w2 := hW.1.2.1
    have u1 := bfd_lt A k
    refine Ev.run [(.iload 4, 2), (.aload_n 0, 1), (.getfield 75, 3)] (pc' := 48) (L' := [some (.ref 359), some (.int (nI k)), none, some (.int (nI u)), some (.int (nI q))]) (S' := [.int (I1 359 2), .int (nI q)]) rfl (by decide +kernel) rfl ?_
    rw [show I1 359 2 = nI (aN A) from (hs.mv hV).1.1]
    refine Ev.icmp_ge (off := 45) (tgt := 93) (by decide +kernel) (by decide) (fun h48 => ?_) (fun h48 => ?_)
    · have h48 : q ≥ (aN A) := zz_bG_t (by omega) (by omega) h48
      have hqN : aN A = q := by omega
      refine Ev.weakL (L' := [some (.ref 359), some (.int (nI k)), none, none, none]) ⟨rfl, rfl, trivial⟩ ?_
      exact hout I1 hs hl (by rw [hqN]; exact ha)
    · have h48 : q < (aN A) := zz_bG_f (by omega) (by omega) h48
      refine Ev.run [(.iload_n 3, 1), (.iconst 4, 1)] (pc' := 53) (L' := [some (.ref 359), some (.int (nI k)), none, some (.int (nI u)), some (.int (nI q))]) (S' := [.int (nI 4), .int (nI u)]) rfl (by decide +kernel) rfl ?_
      refine Ev.icmp_ge (off := 40) (tgt := 93) (by decide +kernel) (by decide) (fun h53 => ?_) (fun h53 => ?_)
      · have h53 : u ≥ 4 := zz_bG_t (by omega) (by omega) h53
        refine Ev.weakL (L' := [some (.ref 359), some (.int (nI k)), none, none, none]) ⟨rfl, rfl, trivial⟩ ?_
        exact hout I1 hs hl (by rw [ha, ned_4 (by omega), ned_4 (by omega)])
      · have h53 : u < 4 := zz_bG_f (by omega) (by omega) h53
        refine Ev.run [(.aload_n 0, 1), (.getfield 58, 3), (.iload_n 1, 1), (.dup2, 1)] (pc' := 62) (L' := [some (.ref 359), some (.int (nI k)), none, some (.int (nI u)), some (.int (nI q))]) (S' := [.int (nI k), .ref 376, .int (nI k), .ref 376]) rfl (by decide +kernel) rfl ?_
        refine Ev.iald k (by decide +kernel) (rfl) (rfl) (by omega) (by first | decide | omega) ?_
        dsimp only
        rw [show I1 376 k = nI (ned A k q) from ha]
        refine Ev.run [(.aload_n 0, 1), (.iload_n 1, 1), (.iload 4, 2)] (pc' := 67) (L' := [some (.ref 359), some (.int (nI k)), none, some (.int (nI u)), some (.int (nI q))]) (S' := [.int (nI q), .int (nI k), .ref 359, .int (nI (ned A k q)), .int (nI k), .ref 376]) rfl (by decide +kernel) rfl ?_
        refine Ev.callV0 mX7_matchOf [.int (nI k), .int (nI q)] [.int (nI (ned A k q)), .int (nI k), .ref 376] _ rfl lk_RX7_124 (by decide +kernel) (rfl) rfl rfl rfl (Nat.le_of_ble_eq_true rfl) (c_X7_matchOf I1 J A (hs.mv hV) hW k q hk (by omega)) ?_
        rintro _ _ ⟨rfl, I2, hs2, rfl⟩
        show Ev _ _ _ _ _ 70 [some (.ref 359), some (.int (nI k)), none, some (.int (nI u)), some (.int (nI q))] [.int (nI (mtc A k q)), .int (nI (ned A k q)), .int (nI k), .ref 376] (zz_SH, I2, J) _
        refine Ev.callS0 mX7_band [.int (nI (mtc A k q))] [.int (nI (ned A k q)), .int (nI k), .ref 376] _ rfl lk_RX7_137 (by decide +kernel) rfl (Nat.le_of_ble_eq_true rfl) (c_X7_band I2 J (mtc A k q) (by have := mtc_le A k q; omega)) ?_
        rintro _ _ ⟨rfl, rfl⟩
        have b9 := bnd_lt (mtc A k q)
        show Ev _ _ _ _ _ 73 [some (.ref 359), some (.int (nI k)), none, some (.int (nI u)), some (.int (nI q))] [.int (nI (bnd (mtc A k q))), .int (nI (ned A k q)), .int (nI k), .ref 376] (zz_SH, I2, J) _
        refine Ev.run [(.iload_n 3, 1)] (pc' := 74) (L' := [some (.ref 359), some (.int (nI k)), none, some (.int (nI u)), some (.int (nI q))]) (S' := [.int (nI u), .int (nI (bnd (mtc A k q))), .int (nI (ned A k q)), .int (nI k), .ref 376]) rfl (by decide +kernel) rfl ?_
        refine Ev.icmp_ne (off := 10) (tgt := 84) (by decide +kernel) (by decide) (fun h74 => ?_) (fun h74 => ?_)
        · have h74 : ¬ (bnd (mtc A k q)) = u := zz_bE_f (by omega) (by omega) h74
          refine Ev.run [(.iconst 0, 1), (.ior, 1)] (pc' := 86) (L' := [some (.ref 359), some (.int (nI k)), none, some (.int (nI u)), some (.int (nI q))]) (S' := [.int (nI (ned A k q) ||| nI 0), .int (nI k), .ref 376]) rfl (by decide +kernel) rfl ?_
          rw [zz_or (ned A k q) 0]
          refine Ev.iast k (by decide +kernel) (rfl) (rfl) (by omega) (by first | decide | omega) ?_
          dsimp only
          refine Ev.run [(.iinc 4 1, 3)] (pc' := 90) (L' := [some (.ref 359), some (.int (nI k)), none, some (.int (nI u)), some (.int (nI q + 1))]) (S' := []) rfl (by decide +kernel) rfl ?_
          rw [nI_1 q]
          refine Ev.goto (off := (-48)) (tgt := 42) (by decide +kernel) (by decide) ?_
          refine ih (q + 1) _ (by omega) (by omega) ((hs.tr hs2.s2.s5).tr (zS5.up I2 k _)) (fun t ht => ?_) ?_
          · rw [zz_up_eq, zz_upn (by omega), hs2 376 (by decide)]; exact hl t ht
          · rw [zz_up_eq, zz_ups, ned, if_neg (by omega), Nat.or_zero]
        · have h74 : (bnd (mtc A k q)) = u := zz_bE_t (by omega) (by omega) h74
          refine Ev.run [(.iconst 1, 1), (.iload 4, 2), (.ishl, 1)] (pc' := 81) (L' := [some (.ref 359), some (.int (nI k)), none, some (.int (nI u)), some (.int (nI q))]) (S' := [.int ((nI 1) <<< (nI q &&& 31)), .int (nI (ned A k q)), .int (nI k), .ref 376]) rfl (by decide +kernel) rfl ?_
          rw [zz_shl1 (k := q) (by omega)]
          refine Ev.goto (off := 4) (tgt := 85) (by decide +kernel) (by decide) ?_
          refine Ev.run [(.ior, 1)] (pc' := 86) (L' := [some (.ref 359), some (.int (nI k)), none, some (.int (nI u)), some (.int (nI q))]) (S' := [.int (nI (ned A k q) ||| nI (2 ^ q)), .int (nI k), .ref 376]) rfl (by decide +kernel) rfl ?_
          rw [zz_or (ned A k q) (2 ^ q)]
          refine Ev.iast k (by decide +kernel) (rfl) (rfl) (by omega) (by first | decide | omega) ?_
          dsimp only
          refine Ev.run [(.iinc 4 1, 3)] (pc' := 90) (L' := [some (.ref 359), some (.int (nI k)), none, some (.int (nI u)), some (.int (nI q + 1))]) (S' := []) rfl (by decide +kernel) rfl ?_
          rw [nI_1 q]
          refine Ev.goto (off := (-48)) (tgt := 42) (by decide +kernel) (by decide) ?_
          refine ih (q + 1) _ (by omega) (by omega) ((hs.tr hs2.s2.s5).tr (zS5.up I2 k _)) (fun t ht => ?_) ?_
          · rw [zz_up_eq, zz_upn (by omega), hs2 376 (by decide)]; exact hl t ht
          · rw [zz_up_eq, zz_ups, ned, if_pos (by omega)]

set_option maxRecDepth 100000 in
set_option maxHeartbeats 4000000 in
theorem l_X7_ln2 {sc : Nat × (Nat → Int32)} {d : Nat} (I : Nat → Nat → Int32) (J : Nat → Nat → Int64) (A : zA) (hV : MV (zVm I) A) (hW : WF A) : ∀ (μ : Nat) (k : Nat) (I1 : Nat → Nat → Int32), aM A - k < μ → (k ≤ aM A) → (zS5 I I1) → (∀ t, t < k → I1 376 t = nI (ned A t (aN A))) →  Ev sc (d + 7) 0 0 mX7_layNeeds 2 [some (.ref 359), some (.int (nI k)), none, none, none] [] (zz_SH, I1, J) (fun r σ => r = none ∧ ∃ I' : Nat → Nat → Int32, zS5 I I' ∧ (∀ t, t < aM A → I' 376 t = nI (ned A t (aN A))) ∧ σ = (zz_SH, I', J)) := by
  intro μ
  induction μ with
  | zero => intro k I1 hμ; exact absurd hμ (Nat.not_lt_zero _)
  | succ μ ih =>
    intro k I1 hμ hk hs hl
    have w1 := hW.1.1
    have w2 := hW.1.2.1
    refine Ev.run [(.iload_n 1, 1), (.aload_n 0, 1), (.getfield 83, 3)] (pc' := 7) (L' := [some (.ref 359), some (.int (nI k)), none, none, none]) (S' := [.int (I1 359 8), .int (nI k)]) rfl (by decide +kernel) rfl ?_
    rw [show I1 359 8 = nI (aM A) from (hs.mv hV).1.2.1]
    refine Ev.icmp_ge (off := 92) (tgt := 99) (by decide +kernel) (by decide) (fun h7 => ?_) (fun h7 => ?_)
    · have h7 : k ≥ (aM A) := zz_bG_t (by omega) (by omega) h7
      have hkM : aM A = k := by omega
      exact Ev.vret rfl (by decide +kernel) (⟨rfl, I1, hs, fun t ht => hl t (by omega), rfl⟩)
    · have h7 : k < (aM A) := zz_bG_f (by omega) (by omega) h7
      refine Ev.run [(.aload_n 0, 1), (.iload_n 1, 1)] (pc' := 12) (L' := [some (.ref 359), some (.int (nI k)), none, none, none]) (S' := [.int (nI k), .ref 359]) rfl (by decide +kernel) rfl ?_
      refine Ev.callV0 mX7_foundOf [.int (nI k)] [] _ rfl lk_RX7_130 (by decide +kernel) (rfl) rfl rfl rfl (Nat.le_of_ble_eq_true rfl) (c_X7_foundOf I1 J A (hs.mv hV) hW k (by omega)) ?_
      rintro _ _ ⟨rfl, I2, hs2, hf, rfl⟩
      rcases hx : fnd A k (aN A) with _ | ⟨p9, v9⟩
      all_goals rw [hx] at hf
      · show Ev _ _ _ _ _ 15 [some (.ref 359), some (.int (nI k)), none, none, none] [.int ((-6))] (zz_SH, I2, J) _
        refine Ev.run [(.istore_n 2, 1), (.iload_n 2, 1)] (pc' := 17) (L' := [some (.ref 359), some (.int (nI k)), some (.int ((-6))), none, none]) (S' := [.int ((-6))]) rfl (by decide +kernel) rfl ?_
        refine Ev.if_ge (off := 7) (tgt := 24) (by decide +kernel) (by decide) (fun h17 => absurd h17 (by decide)) (fun h17 => ?_)
        refine Ev.run [(.iconst 4, 1)] (pc' := 21) (L' := [some (.ref 359), some (.int (nI k)), some (.int ((-6))), none, none]) (S' := [.int (nI 4)]) rfl (by decide +kernel) rfl ?_
        refine Ev.goto (off := 10) (tgt := 31) (by decide +kernel) (by decide) ?_
        refine Ev.run [(.istore_n 3, 1), (.aload_n 0, 1), (.getfield 58, 3), (.iload_n 1, 1), (.iconst 0, 1)] (pc' := 38) (L' := [some (.ref 359), some (.int (nI k)), some (.int ((-6))), some (.int (nI 4)), none]) (S' := [.int (nI 0), .int (nI k), .ref 376]) rfl (by decide +kernel) rfl ?_
        refine Ev.iast k (by decide +kernel) (rfl) (rfl) (by omega) (by first | decide | omega) ?_
        dsimp only
        refine Ev.run [(.iconst 0, 1), (.istore 4, 2)] (pc' := 42) (L' := [some (.ref 359), some (.int (nI k)), some (.int ((-6))), some (.int (nI 4)), some (.int (nI 0))]) (S' := []) rfl (by decide +kernel) rfl ?_
        refine Ev.weakL (L' := [some (.ref 359), some (.int (nI k)), none, some (.int (nI 4)), some (.int (nI 0))]) ⟨rfl, rfl, rfl, rfl, trivial⟩ ?_
        refine l_X7_ln1 I J A hV hW k 4 (by omega) (by rw [bfd, hx]) ?_ (aN A + 1) 0 _ (by omega) (by omega) ((hs.tr hs2.s5).tr (zS5.up I2 k _)) (fun t ht => ?_) ?_
        rotate_left
        · rw [zz_up_eq, zz_upn (by omega), hs2.1 376 (by decide) (by decide)]; exact hl t ht
        · rw [zz_up_eq, zz_ups]; rfl
        intro I3 hs3 hl3 ha3
        show Ev _ _ _ _ _ 93 [some (.ref 359), some (.int (nI k)), none, none, none] [] (zz_SH, I3, J) _
        refine Ev.run [(.iinc 1 1, 3)] (pc' := 96) (L' := [some (.ref 359), some (.int (nI k + 1)), none, none, none]) (S' := []) rfl (by decide +kernel) rfl ?_
        rw [nI_1 k]
        refine Ev.goto (off := (-94)) (tgt := 2) (by decide +kernel) (by decide) ?_
        refine ih (k + 1) I3 (by omega) (by omega) hs3 (fun t ht => ?_)
        by_cases e : t = k
        · subst e; exact ha3
        · exact hl3 t (by omega)
      · show Ev _ _ _ _ _ 15 [some (.ref 359), some (.int (nI k)), none, none, none] [.int (nI p9)] (zz_SH, I2, J) _
        obtain ⟨hp9, hv9⟩ := fnd_ok A k _ p9 v9 hx
        have hm9 := mtc_le A k p9
        refine Ev.run [(.istore_n 2, 1), (.iload_n 2, 1)] (pc' := 17) (L' := [some (.ref 359), some (.int (nI k)), some (.int (nI p9)), none, none]) (S' := [.int (nI p9)]) rfl (by decide +kernel) rfl ?_
        refine Ev.if_ge (off := 7) (tgt := 24) (by decide +kernel) (by decide) (fun h17 => ?_) (fun h17 => ?_)
        · have h17 : p9 ≥ 0 := zz_bG_t (by omega) (by omega) h17
          refine Ev.run [(.aload_n 0, 1), (.getfield 127, 3)] (pc' := 28) (L' := [some (.ref 359), some (.int (nI k)), some (.int (nI p9)), none, none]) (S' := [.int (I2 359 17)]) rfl (by decide +kernel) rfl ?_
          rw [show I2 359 17 = nI v9 from hf]
          refine Ev.callS0 mX7_band [.int (nI v9)] [] _ rfl lk_RX7_137 (by decide +kernel) rfl (Nat.le_of_ble_eq_true rfl) (c_X7_band I2 J v9 (by omega)) ?_
          rintro _ _ ⟨rfl, rfl⟩
          show Ev _ _ _ _ _ 31 [some (.ref 359), some (.int (nI k)), some (.int (nI p9)), none, none] [.int (nI (bnd v9))] (zz_SH, I2, J) _
          refine Ev.run [(.istore_n 3, 1), (.aload_n 0, 1), (.getfield 58, 3), (.iload_n 1, 1), (.iconst 0, 1)] (pc' := 38) (L' := [some (.ref 359), some (.int (nI k)), some (.int (nI p9)), some (.int (nI (bnd v9))), none]) (S' := [.int (nI 0), .int (nI k), .ref 376]) rfl (by decide +kernel) rfl ?_
          refine Ev.iast k (by decide +kernel) (rfl) (rfl) (by omega) (by first | decide | omega) ?_
          dsimp only
          refine Ev.run [(.iconst 0, 1), (.istore 4, 2)] (pc' := 42) (L' := [some (.ref 359), some (.int (nI k)), some (.int (nI p9)), some (.int (nI (bnd v9))), some (.int (nI 0))]) (S' := []) rfl (by decide +kernel) rfl ?_
          refine Ev.weakL (L' := [some (.ref 359), some (.int (nI k)), none, some (.int (nI (bnd v9))), some (.int (nI 0))]) ⟨rfl, rfl, rfl, rfl, trivial⟩ ?_
          refine l_X7_ln1 I J A hV hW k (bnd v9) (by omega) (by rw [bfd, hx]) ?_ (aN A + 1) 0 _ (by omega) (by omega) ((hs.tr hs2.s5).tr (zS5.up I2 k _)) (fun t ht => ?_) ?_
          rotate_left
          · rw [zz_up_eq, zz_upn (by omega), hs2.1 376 (by decide) (by decide)]; exact hl t ht
          · rw [zz_up_eq, zz_ups]; rfl
          intro I3 hs3 hl3 ha3
          show Ev _ _ _ _ _ 93 [some (.ref 359), some (.int (nI k)), none, none, none] [] (zz_SH, I3, J) _
          refine Ev.run [(.iinc 1 1, 3)] (pc' := 96) (L' := [some (.ref 359), some (.int (nI k + 1)), none, none, none]) (S' := []) rfl (by decide +kernel) rfl ?_
          rw [nI_1 k]
          refine Ev.goto (off := (-94)) (tgt := 2) (by decide +kernel) (by decide) ?_
          refine ih (k + 1) I3 (by omega) (by omega) hs3 (fun t ht => ?_)
          by_cases e : t = k
          · subst e; exact ha3
          · exact hl3 t (by omega)
        · have h17 : p9 < 0 := zz_bG_f (by omega) (by omega) h17
          exfalso; omega

set_option maxRecDepth 100000 in
set_option maxHeartbeats 4000000 in
theorem c_X7_layNeeds {sc : Nat × (Nat → Int32)} {d : Nat} (I : Nat → Nat → Int32) (J : Nat → Nat → Int64) (A : zA) (hV : MV (zVm I) A) (hW : WF A) : EvM sc (d + 7) 0 0 mX7_layNeeds [.ref 359] (zz_SH, I, J) (fun r σ => r = none ∧ ∃ I' : Nat → Nat → Int32, zS5 I I' ∧ (∀ t, t < aM A → I' 376 t = nI (ned A t (aN A))) ∧ σ = (zz_SH, I', J)) := by
  have w1 := hW.1.1
  have w2 := hW.1.2.1
  refine EvM.of (by decide) rfl (Nat.le_of_ble_eq_true rfl) ?_
  show Ev _ _ _ _ _ 0 [some (.ref 359), none, none, none, none] [] (zz_SH, I, J) _
  refine Ev.run [(.iconst 0, 1), (.istore_n 1, 1)] (pc' := 2) (L' := [some (.ref 359), some (.int (nI 0)), none, none, none]) (S' := []) rfl (by decide +kernel) rfl ?_
  exact l_X7_ln2 I J A hV hW (aM A + 1) 0 I (by omega) (by omega) (zS5.rf I) (fun t ht => absurd ht (Nat.not_lt_zero t))

set_option maxRecDepth 100000 in
set_option maxHeartbeats 4000000 in
theorem l_X7_kp2 {sc : Nat × (Nat → Int32)} {d : Nat} (I : Nat → Nat → Int32) (J : Nat → Nat → Int64) (A : zA) (hV : MV (zVm I) A) (hW : WF A) (I1 : Nat → Nat → Int32) (hs1 : zS5 I I1) (hn1 : ∀ t, t < aM A → I1 376 t = nI (ned A t (aN A))) (s : Nat) (hs : s < 4096) (x : Int32) (hout1 : en A s (aM A) = true → Ev sc (d + 8) 0 0 mX7_kept 86 [some (.ref 359), some (.int x), some (.int (nI s)), some (.int (nI 1)), none] [] (zz_SH, I1, J) (fun r σ => r = some (.int (ob (kps A (2 ^ aN A)))) ∧ ∃ I' : Nat → Nat → Int32, zSc I I' ∧ σ = (zz_SH, I', J))) (hout0 : en A s (aM A) = false → Ev sc (d + 8) 0 0 mX7_kept 86 [some (.ref 359), some (.int x), some (.int (nI s)), some (.int (nI 0)), none] [] (zz_SH, I1, J) (fun r σ => r = some (.int (ob (kps A (2 ^ aN A)))) ∧ ∃ I' : Nat → Nat → Int32, zSc I I' ∧ σ = (zz_SH, I', J))) : ∀ (μ : Nat) (k : Nat), aM A - k < μ → (k ≤ aM A) → (∀ t, t < k → ned A t (aN A) = 0 ∨ ¬ (ned A t (aN A) &&& s) = 0) →  Ev sc (d + 8) 0 0 mX7_kept 39 [some (.ref 359), some (.int x), some (.int (nI s)), some (.int (nI 1)), some (.int (nI k))] [] (zz_SH, I1, J) (fun r σ => r = some (.int (ob (kps A (2 ^ aN A)))) ∧ ∃ I' : Nat → Nat → Int32, zSc I I' ∧ σ = (zz_SH, I', J)) := by
  intro μ
  induction μ with
  | zero => intro k hμ; exact absurd hμ (Nat.not_lt_zero _)
  | succ μ ih =>
    intro k hμ hk hal
    have w1 := hW.1.1
    have w2 := hW.1.2.1
    have hp : 2 ^ aN A ≤ 4096 := Nat.le_trans (zz_pw2 w1) (by decide)
    have q6 : ned A k (aN A) < 4096 := Nat.lt_of_lt_of_le (ned_lt A k _) hp
    refine Ev.run [(.iload 4, 2), (.aload_n 0, 1), (.getfield 83, 3)] (pc' := 45) (L' := [some (.ref 359), some (.int x), some (.int (nI s)), some (.int (nI 1)), some (.int (nI k))]) (S' := [.int (I1 359 8), .int (nI k)]) rfl (by decide +kernel) rfl ?_
    rw [show I1 359 8 = nI (aM A) from (hs1.mv hV).1.2.1]
    refine Ev.icmp_ge (off := 41) (tgt := 86) (by decide +kernel) (by decide) (fun h45 => ?_) (fun h45 => ?_)
    · have h45 : k ≥ (aM A) := zz_bG_t (by omega) (by omega) h45
      refine Ev.weakL (L' := [some (.ref 359), some (.int x), some (.int (nI s)), some (.int (nI 1)), none]) ⟨rfl, rfl, rfl, rfl, trivial⟩ ?_
      exact hout1 ((en_iff _).mpr (fun t ht => hal t (by omega)))
    · have h45 : k < (aM A) := zz_bG_f (by omega) (by omega) h45
      refine Ev.run [(.iload_n 3, 1)] (pc' := 49) (L' := [some (.ref 359), some (.int x), some (.int (nI s)), some (.int (nI 1)), some (.int (nI k))]) (S' := [.int (nI 1)]) rfl (by decide +kernel) rfl ?_
      refine Ev.if_eq (off := 37) (tgt := 86) (by decide +kernel) (by decide) (fun h49 => absurd h49 (by decide)) (fun h49 => ?_)
      refine Ev.run [(.aload_n 0, 1), (.getfield 58, 3), (.iload 4, 2)] (pc' := 58) (L' := [some (.ref 359), some (.int x), some (.int (nI s)), some (.int (nI 1)), some (.int (nI k))]) (S' := [.int (nI k), .ref 376]) rfl (by decide +kernel) rfl ?_
      refine Ev.iald k (by decide +kernel) (rfl) (rfl) (by omega) (by first | decide | omega) ?_
      dsimp only
      rw [show I1 376 k = nI (ned A k (aN A)) from hn1 k (by omega)]
      refine Ev.if_eq (off := 15) (tgt := 74) (by decide +kernel) (by decide) (fun h59 => ?_) (fun h59 => ?_)
      · have h59 : (ned A k (aN A)) = 0 := zz_bE_t (by omega) (by omega) h59
        refine Ev.run [(.iconst 1, 1)] (pc' := 75) (L' := [some (.ref 359), some (.int x), some (.int (nI s)), some (.int (nI 1)), some (.int (nI k))]) (S' := [.int (nI 1)]) rfl (by decide +kernel) rfl ?_
        refine Ev.goto (off := 4) (tgt := 79) (by decide +kernel) (by decide) ?_
        refine Ev.run [(.istore_n 3, 1), (.iinc 4 1, 3)] (pc' := 83) (L' := [some (.ref 359), some (.int x), some (.int (nI s)), some (.int (nI 1)), some (.int (nI k + 1))]) (S' := []) rfl (by decide +kernel) rfl ?_
        rw [nI_1 k]
        refine Ev.goto (off := (-44)) (tgt := 39) (by decide +kernel) (by decide) ?_
        exact ih (k + 1) (by omega) (by omega) (lt_s hal (Or.inl h59))
      · have h59 : ¬ (ned A k (aN A)) = 0 := zz_bE_f (by omega) (by omega) h59
        refine Ev.run [(.aload_n 0, 1), (.getfield 58, 3), (.iload 4, 2)] (pc' := 68) (L' := [some (.ref 359), some (.int x), some (.int (nI s)), some (.int (nI 1)), some (.int (nI k))]) (S' := [.int (nI k), .ref 376]) rfl (by decide +kernel) rfl ?_
        refine Ev.iald k (by decide +kernel) (rfl) (rfl) (by omega) (by first | decide | omega) ?_
        dsimp only
        rw [show I1 376 k = nI (ned A k (aN A)) from hn1 k (by omega)]
        refine Ev.run [(.iload_n 2, 1)] (pc' := 70) (L' := [some (.ref 359), some (.int x), some (.int (nI s)), some (.int (nI 1)), some (.int (nI k))]) (S' := [.int (nI s), .int (nI (ned A k (aN A)))]) rfl (by decide +kernel) rfl ?_
        have q5 : ned A k (aN A) &&& s ≤ s := Nat.and_le_right
        refine Ev.run [(.iand, 1)] (pc' := 71) (L' := [some (.ref 359), some (.int x), some (.int (nI s)), some (.int (nI 1)), some (.int (nI k))]) (S' := [.int (nI (ned A k (aN A)) &&& nI s)]) rfl (by decide +kernel) rfl ?_
        rw [zz_and (ned A k (aN A)) s]
        refine Ev.if_eq (off := 7) (tgt := 78) (by decide +kernel) (by decide) (fun h71 => ?_) (fun h71 => ?_)
        · have h71 : ((ned A k (aN A)) &&& s) = 0 := zz_bE_t (by omega) (by omega) h71
          refine Ev.run [(.iconst 0, 1), (.istore_n 3, 1), (.iinc 4 1, 3)] (pc' := 83) (L' := [some (.ref 359), some (.int x), some (.int (nI s)), some (.int (nI 0)), some (.int (nI k + 1))]) (S' := []) rfl (by decide +kernel) rfl ?_
          rw [nI_1 k]
          refine Ev.goto (off := (-44)) (tgt := 39) (by decide +kernel) (by decide) ?_
          refine Ev.run [(.iload 4, 2), (.aload_n 0, 1), (.getfield 83, 3)] (pc' := 45) (L' := [some (.ref 359), some (.int x), some (.int (nI s)), some (.int (nI 0)), some (.int (nI (k + 1)))]) (S' := [.int (I1 359 8), .int (nI (k + 1))]) rfl (by decide +kernel) rfl ?_
          rw [show I1 359 8 = nI (aM A) from (hs1.mv hV).1.2.1]
          refine Ev.icmp_ge (off := 41) (tgt := 86) (by decide +kernel) (by decide) (fun g45 => ?_) (fun g45 => ?_)
          · have g45 : (k + 1) ≥ (aM A) := zz_bG_t (by omega) (by omega) g45
            refine Ev.weakL (L' := [some (.ref 359), some (.int x), some (.int (nI s)), some (.int (nI 0)), none]) ⟨rfl, rfl, rfl, rfl, trivial⟩ ?_
            exact hout0 (by cases hq : en A s (aM A) with | false => rfl | true => exact absurd ((en_iff _).mp hq k (by omega)) (fun q => q.elim h59 (fun q => q h71)))
          · have g45 : (k + 1) < (aM A) := zz_bG_f (by omega) (by omega) g45
            refine Ev.run [(.iload_n 3, 1)] (pc' := 49) (L' := [some (.ref 359), some (.int x), some (.int (nI s)), some (.int (nI 0)), some (.int (nI (k + 1)))]) (S' := [.int (nI 0)]) rfl (by decide +kernel) rfl ?_
            refine Ev.if_eq (off := 37) (tgt := 86) (by decide +kernel) (by decide) (fun h49 => ?_) (fun h49 => absurd h49 (by decide))
            refine Ev.weakL (L' := [some (.ref 359), some (.int x), some (.int (nI s)), some (.int (nI 0)), none]) ⟨rfl, rfl, rfl, rfl, trivial⟩ ?_
            exact hout0 (by cases hq : en A s (aM A) with | false => rfl | true => exact absurd ((en_iff _).mp hq k (by omega)) (fun q => q.elim h59 (fun q => q h71)))
        · have h71 : ¬ ((ned A k (aN A)) &&& s) = 0 := zz_bE_f (by omega) (by omega) h71
          refine Ev.run [(.iconst 1, 1)] (pc' := 75) (L' := [some (.ref 359), some (.int x), some (.int (nI s)), some (.int (nI 1)), some (.int (nI k))]) (S' := [.int (nI 1)]) rfl (by decide +kernel) rfl ?_
          refine Ev.goto (off := 4) (tgt := 79) (by decide +kernel) (by decide) ?_
          refine Ev.run [(.istore_n 3, 1), (.iinc 4 1, 3)] (pc' := 83) (L' := [some (.ref 359), some (.int x), some (.int (nI s)), some (.int (nI 1)), some (.int (nI k + 1))]) (S' := []) rfl (by decide +kernel) rfl ?_
          rw [nI_1 k]
          refine Ev.goto (off := (-44)) (tgt := 39) (by decide +kernel) (by decide) ?_
          exact ih (k + 1) (by omega) (by omega) (lt_s hal (Or.inr h71))

set_option maxRecDepth 100000 in
set_option maxHeartbeats 4000000 in
theorem l_X7_kp1 {sc : Nat × (Nat → Int32)} {d : Nat} (I : Nat → Nat → Int32) (J : Nat → Nat → Int64) (A : zA) (hV : MV (zVm I) A) (hW : WF A) (I1 : Nat → Nat → Int32) (hs1 : zS5 I I1) (hn1 : ∀ t, t < aM A → I1 376 t = nI (ned A t (aN A))) : ∀ (μ : Nat) (s : Nat) (x : Option Nat), 2 ^ aN A - s < μ → (s ≤ 2 ^ aN A) → (x = kps A s) →  Ev sc (d + 8) 0 0 mX7_kept 9 [some (.ref 359), some (.int (ob x)), some (.int (nI s)), none, none] [] (zz_SH, I1, J) (fun r σ => r = some (.int (ob (kps A (2 ^ aN A)))) ∧ ∃ I' : Nat → Nat → Int32, zSc I I' ∧ σ = (zz_SH, I', J)) := by
  intro μ
  induction μ with
  | zero => intro s x hμ; exact absurd hμ (Nat.not_lt_zero _)
  | succ μ ih =>
    intro s x hμ hs hx0
    have w1 := hW.1.1
    have w2 := hW.1.2.1
    have hp : 2 ^ aN A ≤ 4096 := Nat.le_trans (zz_pw2 w1) (by decide)
    subst hx0
    rcases hx : kps A s with _ | f
    · show Ev _ _ _ _ _ 9 [some (.ref 359), some (.int ((-6))), some (.int (nI s)), none, none] [] (zz_SH, I1, J) _
      refine Ev.run [(.iload_n 2, 1), (.iconst 1, 1), (.aload_n 0, 1), (.getfield 75, 3)] (pc' := 15) (L' := [some (.ref 359), some (.int ((-6))), some (.int (nI s)), none, none]) (S' := [.int (I1 359 2), .int (nI 1), .int (nI s)]) rfl (by decide +kernel) rfl ?_
      rw [show I1 359 2 = nI (aN A) from (hs1.mv hV).1.1]
      refine Ev.run [(.ishl, 1)] (pc' := 16) (L' := [some (.ref 359), some (.int ((-6))), some (.int (nI s)), none, none]) (S' := [.int ((nI 1) <<< (nI (aN A) &&& 31)), .int (nI s)]) rfl (by decide +kernel) rfl ?_
      rw [zz_shl1 (k := (aN A)) (by omega)]
      refine Ev.icmp_ge (off := 86) (tgt := 102) (by decide +kernel) (by decide) (fun h16 => ?_) (fun h16 => ?_)
      · have h16 : s ≥ (2 ^ (aN A)) := zz_bG_t (by omega) (by omega) h16
        have hsN : 2 ^ aN A = s := by omega
        refine Ev.run [(.iload_n 1, 1)] (pc' := 103) (L' := [some (.ref 359), some (.int ((-6))), some (.int (nI s)), none, none]) (S' := [.int ((-6))]) rfl (by decide +kernel) rfl ?_
        exact Ev.iret rfl (by decide +kernel) (⟨by rw [hsN, hx]; rfl, I1, hs1.sc, rfl⟩)
      · have h16 : s < (2 ^ (aN A)) := zz_bG_f (by omega) (by omega) h16
        refine Ev.run [(.iload_n 1, 1)] (pc' := 20) (L' := [some (.ref 359), some (.int ((-6))), some (.int (nI s)), none, none]) (S' := [.int ((-6))]) rfl (by decide +kernel) rfl ?_
        refine Ev.if_lt (off := 14) (tgt := 34) (by decide +kernel) (by decide) (fun h20 => ?_) (fun h20 => absurd h20 (by decide))
        refine Ev.run [(.iconst 1, 1), (.istore_n 3, 1), (.iconst 0, 1), (.istore 4, 2)] (pc' := 39) (L' := [some (.ref 359), some (.int ((-6))), some (.int (nI s)), some (.int (nI 1)), some (.int (nI 0))]) (S' := []) rfl (by decide +kernel) rfl ?_
        refine l_X7_kp2 I J A hV hW I1 hs1 hn1 s (by omega) (-6) ?_ ?_ (aM A + 1) 0 (by omega) (by omega) (fun t ht => absurd ht (Nat.not_lt_zero t))
        · intro hen
          show Ev _ _ _ _ _ 86 [some (.ref 359), some (.int ((-6))), some (.int (nI s)), some (.int (nI 1)), none] [] (zz_SH, I1, J) _
          refine Ev.run [(.iload_n 3, 1)] (pc' := 87) (L' := [some (.ref 359), some (.int ((-6))), some (.int (nI s)), some (.int (nI 1)), none]) (S' := [.int (nI 1)]) rfl (by decide +kernel) rfl ?_
          refine Ev.if_eq (off := 7) (tgt := 94) (by decide +kernel) (by decide) (fun h87 => absurd h87 (by decide)) (fun h87 => ?_)
          refine Ev.run [(.iload_n 2, 1)] (pc' := 91) (L' := [some (.ref 359), some (.int ((-6))), some (.int (nI s)), some (.int (nI 1)), none]) (S' := [.int (nI s)]) rfl (by decide +kernel) rfl ?_
          refine Ev.goto (off := 4) (tgt := 95) (by decide +kernel) (by decide) ?_
          refine Ev.run [(.istore_n 1, 1), (.iinc 2 1, 3)] (pc' := 99) (L' := [some (.ref 359), some (.int (nI s)), some (.int (nI s + 1)), some (.int (nI 1)), none]) (S' := []) rfl (by decide +kernel) rfl ?_
          rw [nI_1 s]
          refine Ev.goto (off := (-90)) (tgt := 9) (by decide +kernel) (by decide) ?_
          refine Ev.weakL (L' := [some (.ref 359), some (.int (nI s)), some (.int (nI (s + 1))), none, none]) ⟨rfl, rfl, rfl, trivial⟩ ?_
          have e9 : kps A (s + 1) = some s := by rw [kps, hx]; exact if_pos hen
          exact ih (s + 1) (some s) (by omega) (by omega) e9.symm
        · intro hen
          show Ev _ _ _ _ _ 86 [some (.ref 359), some (.int ((-6))), some (.int (nI s)), some (.int (nI 0)), none] [] (zz_SH, I1, J) _
          refine Ev.run [(.iload_n 3, 1)] (pc' := 87) (L' := [some (.ref 359), some (.int ((-6))), some (.int (nI s)), some (.int (nI 0)), none]) (S' := [.int (nI 0)]) rfl (by decide +kernel) rfl ?_
          refine Ev.if_eq (off := 7) (tgt := 94) (by decide +kernel) (by decide) (fun h87 => ?_) (fun h87 => absurd h87 (by decide))
          refine Ev.run [(.iload_n 1, 1), (.istore_n 1, 1), (.iinc 2 1, 3)] (pc' := 99) (L' := [some (.ref 359), some (.int ((-6))), some (.int (nI s + 1)), some (.int (nI 0)), none]) (S' := []) rfl (by decide +kernel) rfl ?_
          rw [nI_1 s]
          refine Ev.goto (off := (-90)) (tgt := 9) (by decide +kernel) (by decide) ?_
          refine Ev.weakL (L' := [some (.ref 359), some (.int ((-6))), some (.int (nI (s + 1))), none, none]) ⟨rfl, rfl, rfl, trivial⟩ ?_
          have e9 : kps A (s + 1) = none := by rw [kps, hx]; exact if_neg (fun q => by rw [hen] at q; simp at q)
          exact ih (s + 1) _ (by omega) (by omega) e9.symm
    · have hf := kps_lt s f hx
      show Ev _ _ _ _ _ 9 [some (.ref 359), some (.int (nI f)), some (.int (nI s)), none, none] [] (zz_SH, I1, J) _
      refine Ev.run [(.iload_n 2, 1), (.iconst 1, 1), (.aload_n 0, 1), (.getfield 75, 3)] (pc' := 15) (L' := [some (.ref 359), some (.int (nI f)), some (.int (nI s)), none, none]) (S' := [.int (I1 359 2), .int (nI 1), .int (nI s)]) rfl (by decide +kernel) rfl ?_
      rw [show I1 359 2 = nI (aN A) from (hs1.mv hV).1.1]
      refine Ev.run [(.ishl, 1)] (pc' := 16) (L' := [some (.ref 359), some (.int (nI f)), some (.int (nI s)), none, none]) (S' := [.int ((nI 1) <<< (nI (aN A) &&& 31)), .int (nI s)]) rfl (by decide +kernel) rfl ?_
      rw [zz_shl1 (k := (aN A)) (by omega)]
      refine Ev.icmp_ge (off := 86) (tgt := 102) (by decide +kernel) (by decide) (fun h16 => ?_) (fun h16 => ?_)
      · have h16 : s ≥ (2 ^ (aN A)) := zz_bG_t (by omega) (by omega) h16
        have hsN : 2 ^ aN A = s := by omega
        refine Ev.run [(.iload_n 1, 1)] (pc' := 103) (L' := [some (.ref 359), some (.int (nI f)), some (.int (nI s)), none, none]) (S' := [.int (nI f)]) rfl (by decide +kernel) rfl ?_
        exact Ev.iret rfl (by decide +kernel) (⟨by rw [hsN, hx]; rfl, I1, hs1.sc, rfl⟩)
      · have h16 : s < (2 ^ (aN A)) := zz_bG_f (by omega) (by omega) h16
        refine Ev.run [(.iload_n 1, 1)] (pc' := 20) (L' := [some (.ref 359), some (.int (nI f)), some (.int (nI s)), none, none]) (S' := [.int (nI f)]) rfl (by decide +kernel) rfl ?_
        refine Ev.if_lt (off := 14) (tgt := 34) (by decide +kernel) (by decide) (fun h20 => ?_) (fun h20 => ?_)
        · have h20 : f < 0 := zz_bL_t (by omega) (by omega) h20
          exfalso; omega
        · have h20 : f ≥ 0 := zz_bL_f (by omega) (by omega) h20
          refine Ev.run [(.iload_n 2, 1)] (pc' := 24) (L' := [some (.ref 359), some (.int (nI f)), some (.int (nI s)), none, none]) (S' := [.int (nI s)]) rfl (by decide +kernel) rfl ?_
          refine Ev.callS0 mX7_bits [.int (nI s)] [] _ rfl lk_RX7_159 (by decide +kernel) rfl (Nat.le_of_ble_eq_true rfl) (c_X7_bits I1 J s (by omega)) ?_
          rintro _ _ ⟨rfl, rfl⟩
          have q_s := bcn_le s 12
          show Ev _ _ _ _ _ 27 [some (.ref 359), some (.int (nI f)), some (.int (nI s)), none, none] [.int (nI (bcn s 12))] (zz_SH, I1, J) _
          refine Ev.run [(.iload_n 1, 1)] (pc' := 28) (L' := [some (.ref 359), some (.int (nI f)), some (.int (nI s)), none, none]) (S' := [.int (nI f), .int (nI (bcn s 12))]) rfl (by decide +kernel) rfl ?_
          refine Ev.callS0 mX7_bits [.int (nI f)] [.int (nI (bcn s 12))] _ rfl lk_RX7_159 (by decide +kernel) rfl (Nat.le_of_ble_eq_true rfl) (c_X7_bits I1 J f (by omega)) ?_
          rintro _ _ ⟨rfl, rfl⟩
          have q_f := bcn_le f 12
          show Ev _ _ _ _ _ 31 [some (.ref 359), some (.int (nI f)), some (.int (nI s)), none, none] [.int (nI (bcn f 12)), .int (nI (bcn s 12))] (zz_SH, I1, J) _
          refine Ev.icmp_ge (off := 65) (tgt := 96) (by decide +kernel) (by decide) (fun h31 => ?_) (fun h31 => ?_)
          · have h31 : (bcn s 12) ≥ (bcn f 12) := zz_bG_t (by omega) (by omega) h31
            refine Ev.run [(.iinc 2 1, 3)] (pc' := 99) (L' := [some (.ref 359), some (.int (nI f)), some (.int (nI s + 1)), none, none]) (S' := []) rfl (by decide +kernel) rfl ?_
            rw [nI_1 s]
            refine Ev.goto (off := (-90)) (tgt := 9) (by decide +kernel) (by decide) ?_
            have e9 : kps A (s + 1) = some f := by rw [kps, hx]; exact if_neg (fun q => absurd q.1 (by omega))
            exact ih (s + 1) _ (by omega) (by omega) e9.symm
          · have h31 : (bcn s 12) < (bcn f 12) := zz_bG_f (by omega) (by omega) h31
            refine Ev.run [(.iconst 1, 1), (.istore_n 3, 1), (.iconst 0, 1), (.istore 4, 2)] (pc' := 39) (L' := [some (.ref 359), some (.int (nI f)), some (.int (nI s)), some (.int (nI 1)), some (.int (nI 0))]) (S' := []) rfl (by decide +kernel) rfl ?_
            refine l_X7_kp2 I J A hV hW I1 hs1 hn1 s (by omega) (nI f) ?_ ?_ (aM A + 1) 0 (by omega) (by omega) (fun t ht => absurd ht (Nat.not_lt_zero t))
            · intro hen
              show Ev _ _ _ _ _ 86 [some (.ref 359), some (.int (nI f)), some (.int (nI s)), some (.int (nI 1)), none] [] (zz_SH, I1, J) _
              refine Ev.run [(.iload_n 3, 1)] (pc' := 87) (L' := [some (.ref 359), some (.int (nI f)), some (.int (nI s)), some (.int (nI 1)), none]) (S' := [.int (nI 1)]) rfl (by decide +kernel) rfl ?_
              refine Ev.if_eq (off := 7) (tgt := 94) (by decide +kernel) (by decide) (fun h87 => absurd h87 (by decide)) (fun h87 => ?_)
              refine Ev.run [(.iload_n 2, 1)] (pc' := 91) (L' := [some (.ref 359), some (.int (nI f)), some (.int (nI s)), some (.int (nI 1)), none]) (S' := [.int (nI s)]) rfl (by decide +kernel) rfl ?_
              refine Ev.goto (off := 4) (tgt := 95) (by decide +kernel) (by decide) ?_
              refine Ev.run [(.istore_n 1, 1), (.iinc 2 1, 3)] (pc' := 99) (L' := [some (.ref 359), some (.int (nI s)), some (.int (nI s + 1)), some (.int (nI 1)), none]) (S' := []) rfl (by decide +kernel) rfl ?_
              rw [nI_1 s]
              refine Ev.goto (off := (-90)) (tgt := 9) (by decide +kernel) (by decide) ?_
              refine Ev.weakL (L' := [some (.ref 359), some (.int (nI s)), some (.int (nI (s + 1))), none, none]) ⟨rfl, rfl, rfl, trivial⟩ ?_
              have e9 : kps A (s + 1) = some s := by rw [kps, hx]; exact if_pos ⟨h31, hen⟩
              exact ih (s + 1) (some s) (by omega) (by omega) e9.symm
            · intro hen
              show Ev _ _ _ _ _ 86 [some (.ref 359), some (.int (nI f)), some (.int (nI s)), some (.int (nI 0)), none] [] (zz_SH, I1, J) _
              refine Ev.run [(.iload_n 3, 1)] (pc' := 87) (L' := [some (.ref 359), some (.int (nI f)), some (.int (nI s)), some (.int (nI 0)), none]) (S' := [.int (nI 0)]) rfl (by decide +kernel) rfl ?_
              refine Ev.if_eq (off := 7) (tgt := 94) (by decide +kernel) (by decide) (fun h87 => ?_) (fun h87 => absurd h87 (by decide))
              refine Ev.run [(.iload_n 1, 1), (.istore_n 1, 1), (.iinc 2 1, 3)] (pc' := 99) (L' := [some (.ref 359), some (.int (nI f)), some (.int (nI s + 1)), some (.int (nI 0)), none]) (S' := []) rfl (by decide +kernel) rfl ?_
              rw [nI_1 s]
              refine Ev.goto (off := (-90)) (tgt := 9) (by decide +kernel) (by decide) ?_
              refine Ev.weakL (L' := [some (.ref 359), some (.int (nI f)), some (.int (nI (s + 1))), none, none]) ⟨rfl, rfl, rfl, trivial⟩ ?_
              have e9 : kps A (s + 1) = some f := by rw [kps, hx]; exact if_neg (fun q => by rw [hen] at q; simp at q)
              exact ih (s + 1) _ (by omega) (by omega) e9.symm

set_option maxRecDepth 100000 in
set_option maxHeartbeats 4000000 in
theorem c_X7_kept {sc : Nat × (Nat → Int32)} {d : Nat} (I : Nat → Nat → Int32) (J : Nat → Nat → Int64) (A : zA) (hV : MV (zVm I) A) (hW : WF A) : EvM sc (d + 8) 0 0 mX7_kept [.ref 359] (zz_SH, I, J) (fun r σ => r = some (.int (ob (kps A (2 ^ aN A)))) ∧ ∃ I' : Nat → Nat → Int32, zSc I I' ∧ σ = (zz_SH, I', J)) := by
  have w1 := hW.1.1
  have w2 := hW.1.2.1
  have hp : 2 ^ aN A ≤ 4096 := Nat.le_trans (zz_pw2 w1) (by decide)
  refine EvM.of (by decide) rfl (Nat.le_of_ble_eq_true rfl) ?_
  show Ev _ _ _ _ _ 0 [some (.ref 359), none, none, none, none] [] (zz_SH, I, J) _
  refine Ev.run [(.aload_n 0, 1)] (pc' := 1) (L' := [some (.ref 359), none, none, none, none]) (S' := [.ref 359]) rfl (by decide +kernel) rfl ?_
  refine Ev.callV0 mX7_layNeeds [] [] _ rfl lk_RX7_156 (by decide +kernel) (rfl) rfl rfl rfl (Nat.le_of_ble_eq_true rfl) (c_X7_layNeeds I J A hV hW) ?_
  rintro _ _ ⟨rfl, I1, hs1, hn1, rfl⟩
  show Ev _ _ _ _ _ 4 [some (.ref 359), none, none, none, none] [] (zz_SH, I1, J) _
  refine Ev.run [(.bipush (-6), 2), (.istore_n 1, 1), (.iconst 0, 1), (.istore_n 2, 1)] (pc' := 9) (L' := [some (.ref 359), some (.int ((-6))), some (.int (nI 0)), none, none]) (S' := []) rfl (by decide +kernel) rfl ?_
  exact l_X7_kp1 I J A hV hW I1 hs1 hn1 (2 ^ aN A + 1) 0 none (Nat.lt_succ_of_le (Nat.sub_le _ _)) (Nat.zero_le _) rfl
end
section
/-! ===== the model: words ===== -/
def ctN (f : Nat → Nat) (v : Nat) : Nat → Nat
  | 0 => 0
  | n + 1 => ctN f v n + (if f n = v then 1 else 0)
theorem ctN_le (f : Nat → Nat) (v : Nat) : ∀ n, ctN f v n ≤ n
  | 0 => Nat.le_refl _
  | n + 1 => by have := ctN_le f v n; rw [ctN]; split <;> omega
def cF (A : zA) (p w : Nat) : Nat := ctN (ff A p) (97 + w) (fz A p)
def cG (A : zA) (p v : Nat) : Nat := ctN (gg A p) (65 + v) (gz A p)
theorem cF_le {A : zA} (hW : WF A) {p : Nat} (hp : p < aN A) (w : Nat) : cF A p w ≤ 12 := Nat.le_trans (ctN_le _ _ _) (hW.2.1 p hp).1.2.1
theorem cG_le {A : zA} (hW : WF A) {p : Nat} (hp : p < aN A) (w : Nat) : cG A p w ≤ 12 := Nat.le_trans (ctN_le _ _ _) (hW.2.1 p hp).1.2.2.2
theorem ob_eq {x : Option Nat} {v : Nat} (hv : v < 1000) (hx : ∀ q, x = some q → q < 1000) : ob x = nI v ↔ x = some v := by
  cases x with
  | none =>
    constructor
    · intro h
      exfalso
      have h1 := congrArg Int32.toInt h
      rw [nI_toInt (by omega)] at h1
      have h2 : (ob none).toInt = -6 := by decide
      omega
    · intro h; cases h
  | some q =>
    have := hx q rfl
    constructor
    · intro h
      rw [(nI_eq (by omega) (by omega)).mp h]
    · intro h; cases h; rfl
def ms (A : zA) (v : Nat) : Nat → Nat
  | 0 => 0
  | n + 1 => if ms A v n ≠ 0 ∨ mu A n = some v then 1 else 0
def due (A : zA) (p v : Nat) : Nat → Nat
  | 0 => 0
  | n + 1 => due A p v n + if mu A n = some v then cF A p n else 0
theorem ms_le (A : zA) (v : Nat) : ∀ n, ms A v n ≤ 1
  | 0 => Nat.zero_le 1
  | n + 1 => by rw [ms]; split <;> omega
theorem due_le {A : zA} (hW : WF A) {p : Nat} (hp : p < aN A) (v : Nat) : ∀ n, due A p v n ≤ 12 * n
  | 0 => Nat.le_refl _
  | n + 1 => by have := due_le hW hp v n; have := cF_le hW hp n; rw [due]; split <;> omega
def wb (A : zA) (p : Nat) : Nat → Nat
  | 0 => 0
  | n + 1 => if wb A p n ≠ 0 ∨ (ms A n 16 ≠ 0 ∧ due A p n 16 ≠ cG A p n) then 1 else 0
theorem wb_le (A : zA) (p : Nat) : ∀ n, wb A p n ≤ 1
  | 0 => Nat.zero_le 1
  | n + 1 => by rw [wb]; split <;> omega
theorem wb_01 (A : zA) (p n : Nat) : nI (wb A p n) = 0 ∨ nI (wb A p n) = 1 := by
  have := wb_le A p n
  rcases (show wb A p n = 0 ∨ wb A p n = 1 by omega) with e | e
  · rw [e]; exact Or.inl rfl
  · rw [e]; exact Or.inr rfl
def wrs (A : zA) : Nat → Nat
  | 0 => 0
  | n + 1 => wrs A n ||| (if wb A n 16 = 0 then 0 else 2 ^ n)
theorem wrs_lt (A : zA) : ∀ n, wrs A n < 2 ^ n
  | 0 => Nat.zero_lt_one
  | n + 1 => by
    have h := wrs_lt A n
    have h2 : (2 : Nat) ^ n < 2 ^ (n + 1) := zz_pw (Nat.lt_succ_self n)
    rw [wrs]
    split
    · rw [Nat.or_zero]; exact Nat.lt_trans h h2
    · exact zz_or_lt (Nat.lt_trans h h2) (Nat.lt_succ_self n)
def pbo (A : zA) (w v : Nat) : Nat → Nat
  | 0 => 0
  | n + 1 => pbo A w v n + if 0 < cF A n w ∧ 0 < cG A n v then 1 else 0
def pei (A : zA) (w v : Nat) : Nat → Nat
  | 0 => 0
  | n + 1 => pei A w v n + ((if 0 < cF A n w then 1 else 0) + if 0 < cG A n v then 1 else 0)
theorem pbo_le (A : zA) (w v : Nat) : ∀ n, pbo A w v n ≤ n
  | 0 => Nat.le_refl _
  | n + 1 => by have := pbo_le A w v n; rw [pbo]; split <;> omega
theorem pei_le (A : zA) (w v : Nat) : ∀ n, pei A w v n ≤ 2 * n
  | 0 => Nat.le_refl _
  | n + 1 => by have := pei_le A w v n; rw [pei]; split <;> split <;> omega
theorem pbo_pei (A : zA) (w v : Nat) : ∀ n, 2 * pbo A w v n ≤ pei A w v n
  | 0 => Nat.le_refl _
  | n + 1 => by
    have := pbo_pei A w v n
    rw [pbo, pei]
    by_cases h1 : 0 < cF A n w <;> by_cases h2 : 0 < cG A n v <;> simp only [h1, h2, and_self, and_true, and_false, if_true, if_false] <;> omega

set_option maxRecDepth 100000 in
set_option maxHeartbeats 4000000 in
theorem l_X7_inFirst {sc : Nat × (Nat → Int32)} {d : Nat} (I : Nat → Nat → Int32) (J : Nat → Nat → Int64) (A : zA) (hV : MV (zVm I) A) (hW : WF A) (p w : Nat) (hp : p < aN A) (hw : w < 16) : ∀ (μ : Nat) (j : Nat), fz A p - j < μ → (j ≤ fz A p) →  Ev sc (d) 0 0 mX7_inFirst 5 [some (.ref 359), some (.int (nI p)), some (.int (nI w)), some (.int (nI (ctN (ff A p) (97 + w) j))), some (.int (nI j))] [] (zz_SH, I, J) (zz_is (.int (nI (cF A p w))) (zz_SH, I, J)) := by
  intro μ
  induction μ with
  | zero => intro j hμ; exact absurd hμ (Nat.not_lt_zero _)
  | succ μ ih =>
    intro j hμ hj
    have w1 := hW.1.1
    have w2 := hW.1.2.1
    have z1 := (hW.2.1 p hp).1
    have c0 := ctN_le (ff A p) (97 + w) j
    refine Ev.run [(.iload 4, 2), (.aload_n 0, 1), (.getfield 16, 3), (.iload_n 1, 1)] (pc' := 12) (L' := [some (.ref 359), some (.int (nI p)), some (.int (nI w)), some (.int (nI (ctN (ff A p) (97 + w) j))), some (.int (nI j))]) (S' := [.int (nI p), .ref 362, .int (nI j)]) rfl (by decide +kernel) rfl ?_
    refine Ev.iald p (by decide +kernel) (rfl) (rfl) (by omega) (by first | decide | omega) ?_
    dsimp only
    rw [show I 362 p = nI (fz A p) from (hV.2.1 p hp).2.1]
    refine Ev.icmp_ge (off := 36) (tgt := 49) (by decide +kernel) (by decide) (fun h13 => ?_) (fun h13 => ?_)
    · have h13 : j ≥ (fz A p) := zz_bG_t (by omega) (by omega) h13
      have hjz : fz A p = j := by omega
      refine Ev.run [(.iload_n 3, 1)] (pc' := 50) (L' := [some (.ref 359), some (.int (nI p)), some (.int (nI w)), some (.int (nI (ctN (ff A p) (97 + w) j))), some (.int (nI j))]) (S' := [.int (nI (ctN (ff A p) (97 + w) j))]) rfl (by decide +kernel) rfl ?_
      exact Ev.iret rfl (by decide +kernel) (⟨by rw [cF, hjz], rfl⟩)
    · have h13 : j < (fz A p) := zz_bG_f (by omega) (by omega) h13
      have g1 := ((hW.2.1 p hp).2.1 j (by omega)).2
      refine Ev.run [(.iload_n 3, 1), (.aload_n 0, 1), (.getfield 22, 3), (.bipush 12, 2), (.iload_n 1, 1), (.imul, 1)] (pc' := 25) (L' := [some (.ref 359), some (.int (nI p)), some (.int (nI w)), some (.int (nI (ctN (ff A p) (97 + w) j))), some (.int (nI j))]) (S' := [.int (nI 12 * nI p), .ref 364, .int (nI (ctN (ff A p) (97 + w) j))]) rfl (by decide +kernel) rfl ?_
      rw [pk_mul 12 p]
      refine Ev.run [(.iload 4, 2), (.iadd, 1)] (pc' := 28) (L' := [some (.ref 359), some (.int (nI p)), some (.int (nI w)), some (.int (nI (ctN (ff A p) (97 + w) j))), some (.int (nI j))]) (S' := [.int (nI (12 * p) + nI j), .ref 364, .int (nI (ctN (ff A p) (97 + w) j))]) rfl (by decide +kernel) rfl ?_
      rw [nI_add (12 * p) j]
      refine Ev.iald ((12 * p) + j) (by decide +kernel) (rfl) (rfl) (by omega) (by first | decide | omega) ?_
      dsimp only
      rw [show I 364 (12 * p + j) = nI (ff A p j) from (hV.2.1 p hp).2.2.2.1 j (by omega)]
      refine Ev.run [(.bipush 97, 2), (.iload_n 2, 1), (.iadd, 1)] (pc' := 33) (L' := [some (.ref 359), some (.int (nI p)), some (.int (nI w)), some (.int (nI (ctN (ff A p) (97 + w) j))), some (.int (nI j))]) (S' := [.int (nI 97 + nI w), .int (nI (ff A p j)), .int (nI (ctN (ff A p) (97 + w) j))]) rfl (by decide +kernel) rfl ?_
      rw [nI_add 97 w]
      refine Ev.icmp_ne (off := 7) (tgt := 40) (by decide +kernel) (by decide) (fun h33 => ?_) (fun h33 => ?_)
      · have h33 : ¬ (ff A p j) = (97 + w) := zz_bE_f (by omega) (by omega) h33
        refine Ev.run [(.iconst 0, 1), (.iadd, 1)] (pc' := 42) (L' := [some (.ref 359), some (.int (nI p)), some (.int (nI w)), some (.int (nI (ctN (ff A p) (97 + w) j))), some (.int (nI j))]) (S' := [.int (nI (ctN (ff A p) (97 + w) j) + nI 0)]) rfl (by decide +kernel) rfl ?_
        rw [nI_add (ctN (ff A p) (97 + w) j) 0]
        refine Ev.run [(.istore_n 3, 1), (.iinc 4 1, 3)] (pc' := 46) (L' := [some (.ref 359), some (.int (nI p)), some (.int (nI w)), some (.int (nI ((ctN (ff A p) (97 + w) j) + 0))), some (.int (nI j + 1))]) (S' := []) rfl (by decide +kernel) rfl ?_
        rw [nI_1 j]
        refine Ev.goto (off := (-41)) (tgt := 5) (by decide +kernel) (by decide) ?_
        have h9 := ih (j + 1) (by omega) (by omega)
        rw [ctN, if_neg h33] at h9
        exact h9
      · have h33 : (ff A p j) = (97 + w) := zz_bE_t (by omega) (by omega) h33
        refine Ev.run [(.iconst 1, 1)] (pc' := 37) (L' := [some (.ref 359), some (.int (nI p)), some (.int (nI w)), some (.int (nI (ctN (ff A p) (97 + w) j))), some (.int (nI j))]) (S' := [.int (nI 1), .int (nI (ctN (ff A p) (97 + w) j))]) rfl (by decide +kernel) rfl ?_
        refine Ev.goto (off := 4) (tgt := 41) (by decide +kernel) (by decide) ?_
        refine Ev.run [(.iadd, 1)] (pc' := 42) (L' := [some (.ref 359), some (.int (nI p)), some (.int (nI w)), some (.int (nI (ctN (ff A p) (97 + w) j))), some (.int (nI j))]) (S' := [.int (nI (ctN (ff A p) (97 + w) j) + nI 1)]) rfl (by decide +kernel) rfl ?_
        rw [nI_add (ctN (ff A p) (97 + w) j) 1]
        refine Ev.run [(.istore_n 3, 1), (.iinc 4 1, 3)] (pc' := 46) (L' := [some (.ref 359), some (.int (nI p)), some (.int (nI w)), some (.int (nI ((ctN (ff A p) (97 + w) j) + 1))), some (.int (nI j + 1))]) (S' := []) rfl (by decide +kernel) rfl ?_
        rw [nI_1 j]
        refine Ev.goto (off := (-41)) (tgt := 5) (by decide +kernel) (by decide) ?_
        have h9 := ih (j + 1) (by omega) (by omega)
        rw [ctN, if_pos h33] at h9
        exact h9

set_option maxRecDepth 100000 in
set_option maxHeartbeats 4000000 in
theorem c_X7_inFirst {sc : Nat × (Nat → Int32)} {d : Nat} (I : Nat → Nat → Int32) (J : Nat → Nat → Int64) (A : zA) (hV : MV (zVm I) A) (hW : WF A) (p w : Nat) (hp : p < aN A) (hw : w < 16) : EvM sc (d) 0 0 mX7_inFirst [.ref 359, .int (nI p), .int (nI w)] (zz_SH, I, J) (zz_is (.int (nI (cF A p w))) (zz_SH, I, J)) := by
  have w1 := hW.1.1
  have w2 := hW.1.2.1
  refine EvM.of (by decide) rfl (Nat.le_of_ble_eq_true rfl) ?_
  show Ev _ _ _ _ _ 0 [some (.ref 359), some (.int (nI p)), some (.int (nI w)), none, none] [] (zz_SH, I, J) _
  refine Ev.run [(.iconst 0, 1), (.istore_n 3, 1), (.iconst 0, 1), (.istore 4, 2)] (pc' := 5) (L' := [some (.ref 359), some (.int (nI p)), some (.int (nI w)), some (.int (nI 0)), some (.int (nI 0))]) (S' := []) rfl (by decide +kernel) rfl ?_
  exact l_X7_inFirst I J A hV hW p w hp hw (fz A p + 1) 0 (by omega) (by omega)

set_option maxRecDepth 100000 in
set_option maxHeartbeats 4000000 in
theorem l_X7_inSecond {sc : Nat × (Nat → Int32)} {d : Nat} (I : Nat → Nat → Int32) (J : Nat → Nat → Int64) (A : zA) (hV : MV (zVm I) A) (hW : WF A) (p w : Nat) (hp : p < aN A) (hw : w < 16) : ∀ (μ : Nat) (j : Nat), gz A p - j < μ → (j ≤ gz A p) →  Ev sc (d) 0 0 mX7_inSecond 5 [some (.ref 359), some (.int (nI p)), some (.int (nI w)), some (.int (nI (ctN (gg A p) (65 + w) j))), some (.int (nI j))] [] (zz_SH, I, J) (zz_is (.int (nI (cG A p w))) (zz_SH, I, J)) := by
  intro μ
  induction μ with
  | zero => intro j hμ; exact absurd hμ (Nat.not_lt_zero _)
  | succ μ ih =>
    intro j hμ hj
    have w1 := hW.1.1
    have w2 := hW.1.2.1
    have z1 := (hW.2.1 p hp).1
    have c0 := ctN_le (gg A p) (65 + w) j
    refine Ev.run [(.iload 4, 2), (.aload_n 0, 1), (.getfield 19, 3), (.iload_n 1, 1)] (pc' := 12) (L' := [some (.ref 359), some (.int (nI p)), some (.int (nI w)), some (.int (nI (ctN (gg A p) (65 + w) j))), some (.int (nI j))]) (S' := [.int (nI p), .ref 363, .int (nI j)]) rfl (by decide +kernel) rfl ?_
    refine Ev.iald p (by decide +kernel) (rfl) (rfl) (by omega) (by first | decide | omega) ?_
    dsimp only
    rw [show I 363 p = nI (gz A p) from (hV.2.1 p hp).2.2.1]
    refine Ev.icmp_ge (off := 36) (tgt := 49) (by decide +kernel) (by decide) (fun h13 => ?_) (fun h13 => ?_)
    · have h13 : j ≥ (gz A p) := zz_bG_t (by omega) (by omega) h13
      have hjz : gz A p = j := by omega
      refine Ev.run [(.iload_n 3, 1)] (pc' := 50) (L' := [some (.ref 359), some (.int (nI p)), some (.int (nI w)), some (.int (nI (ctN (gg A p) (65 + w) j))), some (.int (nI j))]) (S' := [.int (nI (ctN (gg A p) (65 + w) j))]) rfl (by decide +kernel) rfl ?_
      exact Ev.iret rfl (by decide +kernel) (⟨by rw [cG, hjz], rfl⟩)
    · have h13 : j < (gz A p) := zz_bG_f (by omega) (by omega) h13
      have g1 := ((hW.2.1 p hp).2.2.1 j (by omega)).2
      refine Ev.run [(.iload_n 3, 1), (.aload_n 0, 1), (.getfield 25, 3), (.bipush 12, 2), (.iload_n 1, 1), (.imul, 1)] (pc' := 25) (L' := [some (.ref 359), some (.int (nI p)), some (.int (nI w)), some (.int (nI (ctN (gg A p) (65 + w) j))), some (.int (nI j))]) (S' := [.int (nI 12 * nI p), .ref 365, .int (nI (ctN (gg A p) (65 + w) j))]) rfl (by decide +kernel) rfl ?_
      rw [pk_mul 12 p]
      refine Ev.run [(.iload 4, 2), (.iadd, 1)] (pc' := 28) (L' := [some (.ref 359), some (.int (nI p)), some (.int (nI w)), some (.int (nI (ctN (gg A p) (65 + w) j))), some (.int (nI j))]) (S' := [.int (nI (12 * p) + nI j), .ref 365, .int (nI (ctN (gg A p) (65 + w) j))]) rfl (by decide +kernel) rfl ?_
      rw [nI_add (12 * p) j]
      refine Ev.iald ((12 * p) + j) (by decide +kernel) (rfl) (rfl) (by omega) (by first | decide | omega) ?_
      dsimp only
      rw [show I 365 (12 * p + j) = nI (gg A p j) from (hV.2.1 p hp).2.2.2.2 j (by omega)]
      refine Ev.run [(.bipush 65, 2), (.iload_n 2, 1), (.iadd, 1)] (pc' := 33) (L' := [some (.ref 359), some (.int (nI p)), some (.int (nI w)), some (.int (nI (ctN (gg A p) (65 + w) j))), some (.int (nI j))]) (S' := [.int (nI 65 + nI w), .int (nI (gg A p j)), .int (nI (ctN (gg A p) (65 + w) j))]) rfl (by decide +kernel) rfl ?_
      rw [nI_add 65 w]
      refine Ev.icmp_ne (off := 7) (tgt := 40) (by decide +kernel) (by decide) (fun h33 => ?_) (fun h33 => ?_)
      · have h33 : ¬ (gg A p j) = (65 + w) := zz_bE_f (by omega) (by omega) h33
        refine Ev.run [(.iconst 0, 1), (.iadd, 1)] (pc' := 42) (L' := [some (.ref 359), some (.int (nI p)), some (.int (nI w)), some (.int (nI (ctN (gg A p) (65 + w) j))), some (.int (nI j))]) (S' := [.int (nI (ctN (gg A p) (65 + w) j) + nI 0)]) rfl (by decide +kernel) rfl ?_
        rw [nI_add (ctN (gg A p) (65 + w) j) 0]
        refine Ev.run [(.istore_n 3, 1), (.iinc 4 1, 3)] (pc' := 46) (L' := [some (.ref 359), some (.int (nI p)), some (.int (nI w)), some (.int (nI ((ctN (gg A p) (65 + w) j) + 0))), some (.int (nI j + 1))]) (S' := []) rfl (by decide +kernel) rfl ?_
        rw [nI_1 j]
        refine Ev.goto (off := (-41)) (tgt := 5) (by decide +kernel) (by decide) ?_
        have h9 := ih (j + 1) (by omega) (by omega)
        rw [ctN, if_neg h33] at h9
        exact h9
      · have h33 : (gg A p j) = (65 + w) := zz_bE_t (by omega) (by omega) h33
        refine Ev.run [(.iconst 1, 1)] (pc' := 37) (L' := [some (.ref 359), some (.int (nI p)), some (.int (nI w)), some (.int (nI (ctN (gg A p) (65 + w) j))), some (.int (nI j))]) (S' := [.int (nI 1), .int (nI (ctN (gg A p) (65 + w) j))]) rfl (by decide +kernel) rfl ?_
        refine Ev.goto (off := 4) (tgt := 41) (by decide +kernel) (by decide) ?_
        refine Ev.run [(.iadd, 1)] (pc' := 42) (L' := [some (.ref 359), some (.int (nI p)), some (.int (nI w)), some (.int (nI (ctN (gg A p) (65 + w) j))), some (.int (nI j))]) (S' := [.int (nI (ctN (gg A p) (65 + w) j) + nI 1)]) rfl (by decide +kernel) rfl ?_
        rw [nI_add (ctN (gg A p) (65 + w) j) 1]
        refine Ev.run [(.istore_n 3, 1), (.iinc 4 1, 3)] (pc' := 46) (L' := [some (.ref 359), some (.int (nI p)), some (.int (nI w)), some (.int (nI ((ctN (gg A p) (65 + w) j) + 1))), some (.int (nI j + 1))]) (S' := []) rfl (by decide +kernel) rfl ?_
        rw [nI_1 j]
        refine Ev.goto (off := (-41)) (tgt := 5) (by decide +kernel) (by decide) ?_
        have h9 := ih (j + 1) (by omega) (by omega)
        rw [ctN, if_pos h33] at h9
        exact h9

set_option maxRecDepth 100000 in
set_option maxHeartbeats 4000000 in
theorem c_X7_inSecond {sc : Nat × (Nat → Int32)} {d : Nat} (I : Nat → Nat → Int32) (J : Nat → Nat → Int64) (A : zA) (hV : MV (zVm I) A) (hW : WF A) (p w : Nat) (hp : p < aN A) (hw : w < 16) : EvM sc (d) 0 0 mX7_inSecond [.ref 359, .int (nI p), .int (nI w)] (zz_SH, I, J) (zz_is (.int (nI (cG A p w))) (zz_SH, I, J)) := by
  have w1 := hW.1.1
  have w2 := hW.1.2.1
  refine EvM.of (by decide) rfl (Nat.le_of_ble_eq_true rfl) ?_
  show Ev _ _ _ _ _ 0 [some (.ref 359), some (.int (nI p)), some (.int (nI w)), none, none] [] (zz_SH, I, J) _
  refine Ev.run [(.iconst 0, 1), (.istore_n 3, 1), (.iconst 0, 1), (.istore 4, 2)] (pc' := 5) (L' := [some (.ref 359), some (.int (nI p)), some (.int (nI w)), some (.int (nI 0)), some (.int (nI 0))]) (S' := []) rfl (by decide +kernel) rfl ?_
  exact l_X7_inSecond I J A hV hW p w hp hw (gz A p + 1) 0 (by omega) (by omega)

set_option maxRecDepth 100000 in
set_option maxHeartbeats 4000000 in
theorem l_X7_iw1 {sc : Nat × (Nat → Int32)} {d : Nat} (I : Nat → Nat → Int32) (J : Nat → Nat → Int64) (A : zA) (hV : MV (zVm I) A) (hW : WF A) (p : Nat) (hp : p < aN A) (v : Nat) (hv : v < 16) (hout : Ev sc (d + 1) 0 0 mX7_isWrong 82 [some (.ref 359), some (.int (nI p)), some (.int (nI (wb A p v))), some (.int (nI v)), some (.int (nI (due A p v 16))), some (.int (nI (ms A v 16))), none] [] (zz_SH, I, J) (zz_is (.int (nI (wb A p 16))) (zz_SH, I, J))) : ∀ (μ : Nat) (w : Nat), 16 - w < μ → (w ≤ 16) →  Ev sc (d + 1) 0 0 mX7_isWrong 19 [some (.ref 359), some (.int (nI p)), some (.int (nI (wb A p v))), some (.int (nI v)), some (.int (nI (due A p v w))), some (.int (nI (ms A v w))), some (.int (nI w))] [] (zz_SH, I, J) (zz_is (.int (nI (wb A p 16))) (zz_SH, I, J)) := by
  intro μ
  induction μ with
  | zero => intro w hμ; exact absurd hμ (Nat.not_lt_zero _)
  | succ μ ih =>
    intro w hμ hw
    have w1 := hW.1.1
    have w2 := hW.1.2.1
    have c1 := ms_le A v w
    have c2 := due_le hW hp v w
    refine Ev.run [(.iload 6, 2), (.bipush 16, 2)] (pc' := 23) (L' := [some (.ref 359), some (.int (nI p)), some (.int (nI (wb A p v))), some (.int (nI v)), some (.int (nI (due A p v w))), some (.int (nI (ms A v w))), some (.int (nI w))]) (S' := [.int (nI 16), .int (nI w)]) rfl (by decide +kernel) rfl ?_
    refine Ev.icmp_ge (off := 59) (tgt := 82) (by decide +kernel) (by decide) (fun h23 => ?_) (fun h23 => ?_)
    · have h23 : w ≥ 16 := zz_bG_t (by omega) (by omega) h23
      have hw16 : w = 16 := by omega
      refine Ev.weakL (L' := [some (.ref 359), some (.int (nI p)), some (.int (nI (wb A p v))), some (.int (nI v)), some (.int (nI (due A p v w))), some (.int (nI (ms A v w))), none]) ⟨rfl, rfl, rfl, rfl, rfl, rfl, trivial⟩ ?_
      rw [hw16]
      exact hout
    · have h23 : w < 16 := zz_bG_f (by omega) (by omega) h23
      refine Ev.run [(.iload 5, 2)] (pc' := 28) (L' := [some (.ref 359), some (.int (nI p)), some (.int (nI (wb A p v))), some (.int (nI v)), some (.int (nI (due A p v w))), some (.int (nI (ms A v w))), some (.int (nI w))]) (S' := [.int (nI (ms A v w))]) rfl (by decide +kernel) rfl ?_
      refine Ev.if_ne (off := 14) (tgt := 42) (by decide +kernel) (by decide) (fun h28 => ?_) (fun h28 => ?_)
      · have h28 : ¬ (ms A v w) = 0 := zz_bE_f (by omega) (by omega) h28
        refine Ev.run [(.iconst 1, 1)] (pc' := 43) (L' := [some (.ref 359), some (.int (nI p)), some (.int (nI (wb A p v))), some (.int (nI v)), some (.int (nI (due A p v w))), some (.int (nI (ms A v w))), some (.int (nI w))]) (S' := [.int (nI 1)]) rfl (by decide +kernel) rfl ?_
        refine Ev.goto (off := 4) (tgt := 47) (by decide +kernel) (by decide) ?_
        refine Ev.run [(.istore 5, 2), (.iload 4, 2), (.aload_n 0, 1), (.getfield 37, 3), (.iload 6, 2)] (pc' := 57) (L' := [some (.ref 359), some (.int (nI p)), some (.int (nI (wb A p v))), some (.int (nI v)), some (.int (nI (due A p v w))), some (.int (nI 1)), some (.int (nI w))]) (S' := [.int (nI w), .ref 369, .int (nI (due A p v w))]) rfl (by decide +kernel) rfl ?_
        refine Ev.iald w (by decide +kernel) (rfl) (rfl) (by omega) (by first | decide | omega) ?_
        dsimp only
        rw [show I 369 w = ob (mu A w) from hV.2.2.2.2.1 w (by omega)]
        refine Ev.run [(.iload_n 3, 1)] (pc' := 59) (L' := [some (.ref 359), some (.int (nI p)), some (.int (nI (wb A p v))), some (.int (nI v)), some (.int (nI (due A p v w))), some (.int (nI 1)), some (.int (nI w))]) (S' := [.int (nI v), .int (ob (mu A w)), .int (nI (due A p v w))]) rfl (by decide +kernel) rfl ?_
        refine Ev.icmp_ne (off := 13) (tgt := 72) (by decide +kernel) (by decide) (fun h59 => ?_) (fun h59 => ?_)
        · refine Ev.run [(.iconst 0, 1), (.iadd, 1)] (pc' := 74) (L' := [some (.ref 359), some (.int (nI p)), some (.int (nI (wb A p v))), some (.int (nI v)), some (.int (nI (due A p v w))), some (.int (nI 1)), some (.int (nI w))]) (S' := [.int (nI (due A p v w) + nI 0)]) rfl (by decide +kernel) rfl ?_
          rw [nI_add (due A p v w) 0]
          refine Ev.run [(.istore 4, 2), (.iinc 6 1, 3)] (pc' := 79) (L' := [some (.ref 359), some (.int (nI p)), some (.int (nI (wb A p v))), some (.int (nI v)), some (.int (nI ((due A p v w) + 0))), some (.int (nI 1)), some (.int (nI w + 1))]) (S' := []) rfl (by decide +kernel) rfl ?_
          rw [nI_1 w]
          refine Ev.goto (off := (-60)) (tgt := 19) (by decide +kernel) (by decide) ?_
          have h9 := ih (w + 1) (by omega) (by omega)
          rw [ms, if_pos (Or.inl h28)] at h9
          rw [due, if_neg (fun q => h59 ((ob_eq (x := mu A w) (v := v) (by omega) (fun q hq => by have := hW.2.2.2.2.1 w (by omega) q hq; omega)).mpr q))] at h9
          exact h9
        · refine Ev.run [(.aload_n 0, 1), (.iload_n 1, 1), (.iload 6, 2)] (pc' := 66) (L' := [some (.ref 359), some (.int (nI p)), some (.int (nI (wb A p v))), some (.int (nI v)), some (.int (nI (due A p v w))), some (.int (nI 1)), some (.int (nI w))]) (S' := [.int (nI w), .int (nI p), .ref 359, .int (nI (due A p v w))]) rfl (by decide +kernel) rfl ?_
          refine Ev.callV0 mX7_inFirst [.int (nI p), .int (nI w)] [.int (nI (due A p v w))] _ rfl lk_RX7_165 (by decide +kernel) (rfl) rfl rfl rfl (Nat.le_of_ble_eq_true rfl) (c_X7_inFirst I J A hV hW p w hp (by omega)) ?_
          rintro _ _ ⟨rfl, rfl⟩
          have c9 := cF_le hW hp w
          show Ev _ _ _ _ _ 69 [some (.ref 359), some (.int (nI p)), some (.int (nI (wb A p v))), some (.int (nI v)), some (.int (nI (due A p v w))), some (.int (nI 1)), some (.int (nI w))] [.int (nI (cF A p w)), .int (nI (due A p v w))] (zz_SH, I, J) _
          refine Ev.goto (off := 4) (tgt := 73) (by decide +kernel) (by decide) ?_
          refine Ev.run [(.iadd, 1)] (pc' := 74) (L' := [some (.ref 359), some (.int (nI p)), some (.int (nI (wb A p v))), some (.int (nI v)), some (.int (nI (due A p v w))), some (.int (nI 1)), some (.int (nI w))]) (S' := [.int (nI (due A p v w) + nI (cF A p w))]) rfl (by decide +kernel) rfl ?_
          rw [nI_add (due A p v w) (cF A p w)]
          refine Ev.run [(.istore 4, 2), (.iinc 6 1, 3)] (pc' := 79) (L' := [some (.ref 359), some (.int (nI p)), some (.int (nI (wb A p v))), some (.int (nI v)), some (.int (nI ((due A p v w) + (cF A p w)))), some (.int (nI 1)), some (.int (nI w + 1))]) (S' := []) rfl (by decide +kernel) rfl ?_
          rw [nI_1 w]
          refine Ev.goto (off := (-60)) (tgt := 19) (by decide +kernel) (by decide) ?_
          have h9 := ih (w + 1) (by omega) (by omega)
          rw [ms, if_pos (Or.inl h28)] at h9
          rw [due, if_pos ((ob_eq (x := mu A w) (v := v) (by omega) (fun q hq => by have := hW.2.2.2.2.1 w (by omega) q hq; omega)).mp h59)] at h9
          exact h9
      · have h28 : (ms A v w) = 0 := zz_bE_t (by omega) (by omega) h28
        refine Ev.run [(.aload_n 0, 1), (.getfield 37, 3), (.iload 6, 2)] (pc' := 37) (L' := [some (.ref 359), some (.int (nI p)), some (.int (nI (wb A p v))), some (.int (nI v)), some (.int (nI (due A p v w))), some (.int (nI (ms A v w))), some (.int (nI w))]) (S' := [.int (nI w), .ref 369]) rfl (by decide +kernel) rfl ?_
        refine Ev.iald w (by decide +kernel) (rfl) (rfl) (by omega) (by first | decide | omega) ?_
        dsimp only
        rw [show I 369 w = ob (mu A w) from hV.2.2.2.2.1 w (by omega)]
        refine Ev.run [(.iload_n 3, 1)] (pc' := 39) (L' := [some (.ref 359), some (.int (nI p)), some (.int (nI (wb A p v))), some (.int (nI v)), some (.int (nI (due A p v w))), some (.int (nI (ms A v w))), some (.int (nI w))]) (S' := [.int (nI v), .int (ob (mu A w))]) rfl (by decide +kernel) rfl ?_
        refine Ev.icmp_ne (off := 7) (tgt := 46) (by decide +kernel) (by decide) (fun h39 => ?_) (fun h39 => ?_)
        · refine Ev.run [(.iconst 0, 1), (.istore 5, 2), (.iload 4, 2), (.aload_n 0, 1), (.getfield 37, 3), (.iload 6, 2)] (pc' := 57) (L' := [some (.ref 359), some (.int (nI p)), some (.int (nI (wb A p v))), some (.int (nI v)), some (.int (nI (due A p v w))), some (.int (nI 0)), some (.int (nI w))]) (S' := [.int (nI w), .ref 369, .int (nI (due A p v w))]) rfl (by decide +kernel) rfl ?_
          refine Ev.iald w (by decide +kernel) (rfl) (rfl) (by omega) (by first | decide | omega) ?_
          dsimp only
          rw [show I 369 w = ob (mu A w) from hV.2.2.2.2.1 w (by omega)]
          refine Ev.run [(.iload_n 3, 1)] (pc' := 59) (L' := [some (.ref 359), some (.int (nI p)), some (.int (nI (wb A p v))), some (.int (nI v)), some (.int (nI (due A p v w))), some (.int (nI 0)), some (.int (nI w))]) (S' := [.int (nI v), .int (ob (mu A w)), .int (nI (due A p v w))]) rfl (by decide +kernel) rfl ?_
          refine Ev.icmp_ne (off := 13) (tgt := 72) (by decide +kernel) (by decide) (fun h59 => ?_) (fun h59 => ?_)
          · refine Ev.run [(.iconst 0, 1), (.iadd, 1)] (pc' := 74) (L' := [some (.ref 359), some (.int (nI p)), some (.int (nI (wb A p v))), some (.int (nI v)), some (.int (nI (due A p v w))), some (.int (nI 0)), some (.int (nI w))]) (S' := [.int (nI (due A p v w) + nI 0)]) rfl (by decide +kernel) rfl ?_
            rw [nI_add (due A p v w) 0]
            refine Ev.run [(.istore 4, 2), (.iinc 6 1, 3)] (pc' := 79) (L' := [some (.ref 359), some (.int (nI p)), some (.int (nI (wb A p v))), some (.int (nI v)), some (.int (nI ((due A p v w) + 0))), some (.int (nI 0)), some (.int (nI w + 1))]) (S' := []) rfl (by decide +kernel) rfl ?_
            rw [nI_1 w]
            refine Ev.goto (off := (-60)) (tgt := 19) (by decide +kernel) (by decide) ?_
            have h9 := ih (w + 1) (by omega) (by omega)
            rw [ms, if_neg (fun q => q.elim (fun q => q h28) (fun q => h39 ((ob_eq (x := mu A w) (v := v) (by omega) (fun q hq => by have := hW.2.2.2.2.1 w (by omega) q hq; omega)).mpr q)))] at h9
            rw [due, if_neg (fun q => h59 ((ob_eq (x := mu A w) (v := v) (by omega) (fun q hq => by have := hW.2.2.2.2.1 w (by omega) q hq; omega)).mpr q))] at h9
            exact h9
          · refine Ev.run [(.aload_n 0, 1), (.iload_n 1, 1), (.iload 6, 2)] (pc' := 66) (L' := [some (.ref 359), some (.int (nI p)), some (.int (nI (wb A p v))), some (.int (nI v)), some (.int (nI (due A p v w))), some (.int (nI 0)), some (.int (nI w))]) (S' := [.int (nI w), .int (nI p), .ref 359, .int (nI (due A p v w))]) rfl (by decide +kernel) rfl ?_
            refine Ev.callV0 mX7_inFirst [.int (nI p), .int (nI w)] [.int (nI (due A p v w))] _ rfl lk_RX7_165 (by decide +kernel) (rfl) rfl rfl rfl (Nat.le_of_ble_eq_true rfl) (c_X7_inFirst I J A hV hW p w hp (by omega)) ?_
            rintro _ _ ⟨rfl, rfl⟩
            have c9 := cF_le hW hp w
            show Ev _ _ _ _ _ 69 [some (.ref 359), some (.int (nI p)), some (.int (nI (wb A p v))), some (.int (nI v)), some (.int (nI (due A p v w))), some (.int (nI 0)), some (.int (nI w))] [.int (nI (cF A p w)), .int (nI (due A p v w))] (zz_SH, I, J) _
            refine Ev.goto (off := 4) (tgt := 73) (by decide +kernel) (by decide) ?_
            refine Ev.run [(.iadd, 1)] (pc' := 74) (L' := [some (.ref 359), some (.int (nI p)), some (.int (nI (wb A p v))), some (.int (nI v)), some (.int (nI (due A p v w))), some (.int (nI 0)), some (.int (nI w))]) (S' := [.int (nI (due A p v w) + nI (cF A p w))]) rfl (by decide +kernel) rfl ?_
            rw [nI_add (due A p v w) (cF A p w)]
            refine Ev.run [(.istore 4, 2), (.iinc 6 1, 3)] (pc' := 79) (L' := [some (.ref 359), some (.int (nI p)), some (.int (nI (wb A p v))), some (.int (nI v)), some (.int (nI ((due A p v w) + (cF A p w)))), some (.int (nI 0)), some (.int (nI w + 1))]) (S' := []) rfl (by decide +kernel) rfl ?_
            rw [nI_1 w]
            refine Ev.goto (off := (-60)) (tgt := 19) (by decide +kernel) (by decide) ?_
            have h9 := ih (w + 1) (by omega) (by omega)
            rw [ms, if_neg (fun q => q.elim (fun q => q h28) (fun q => h39 ((ob_eq (x := mu A w) (v := v) (by omega) (fun q hq => by have := hW.2.2.2.2.1 w (by omega) q hq; omega)).mpr q)))] at h9
            rw [due, if_pos ((ob_eq (x := mu A w) (v := v) (by omega) (fun q hq => by have := hW.2.2.2.2.1 w (by omega) q hq; omega)).mp h59)] at h9
            exact h9
        · refine Ev.run [(.iconst 1, 1)] (pc' := 43) (L' := [some (.ref 359), some (.int (nI p)), some (.int (nI (wb A p v))), some (.int (nI v)), some (.int (nI (due A p v w))), some (.int (nI (ms A v w))), some (.int (nI w))]) (S' := [.int (nI 1)]) rfl (by decide +kernel) rfl ?_
          refine Ev.goto (off := 4) (tgt := 47) (by decide +kernel) (by decide) ?_
          refine Ev.run [(.istore 5, 2), (.iload 4, 2), (.aload_n 0, 1), (.getfield 37, 3), (.iload 6, 2)] (pc' := 57) (L' := [some (.ref 359), some (.int (nI p)), some (.int (nI (wb A p v))), some (.int (nI v)), some (.int (nI (due A p v w))), some (.int (nI 1)), some (.int (nI w))]) (S' := [.int (nI w), .ref 369, .int (nI (due A p v w))]) rfl (by decide +kernel) rfl ?_
          refine Ev.iald w (by decide +kernel) (rfl) (rfl) (by omega) (by first | decide | omega) ?_
          dsimp only
          rw [show I 369 w = ob (mu A w) from hV.2.2.2.2.1 w (by omega)]
          refine Ev.run [(.iload_n 3, 1)] (pc' := 59) (L' := [some (.ref 359), some (.int (nI p)), some (.int (nI (wb A p v))), some (.int (nI v)), some (.int (nI (due A p v w))), some (.int (nI 1)), some (.int (nI w))]) (S' := [.int (nI v), .int (ob (mu A w)), .int (nI (due A p v w))]) rfl (by decide +kernel) rfl ?_
          refine Ev.icmp_ne (off := 13) (tgt := 72) (by decide +kernel) (by decide) (fun h59 => ?_) (fun h59 => ?_)
          · refine Ev.run [(.iconst 0, 1), (.iadd, 1)] (pc' := 74) (L' := [some (.ref 359), some (.int (nI p)), some (.int (nI (wb A p v))), some (.int (nI v)), some (.int (nI (due A p v w))), some (.int (nI 1)), some (.int (nI w))]) (S' := [.int (nI (due A p v w) + nI 0)]) rfl (by decide +kernel) rfl ?_
            rw [nI_add (due A p v w) 0]
            refine Ev.run [(.istore 4, 2), (.iinc 6 1, 3)] (pc' := 79) (L' := [some (.ref 359), some (.int (nI p)), some (.int (nI (wb A p v))), some (.int (nI v)), some (.int (nI ((due A p v w) + 0))), some (.int (nI 1)), some (.int (nI w + 1))]) (S' := []) rfl (by decide +kernel) rfl ?_
            rw [nI_1 w]
            refine Ev.goto (off := (-60)) (tgt := 19) (by decide +kernel) (by decide) ?_
            have h9 := ih (w + 1) (by omega) (by omega)
            rw [ms, if_pos (Or.inr ((ob_eq (x := mu A w) (v := v) (by omega) (fun q hq => by have := hW.2.2.2.2.1 w (by omega) q hq; omega)).mp h39))] at h9
            rw [due, if_neg (fun q => h59 ((ob_eq (x := mu A w) (v := v) (by omega) (fun q hq => by have := hW.2.2.2.2.1 w (by omega) q hq; omega)).mpr q))] at h9
            exact h9
          · refine Ev.run [(.aload_n 0, 1), (.iload_n 1, 1), (.iload 6, 2)] (pc' := 66) (L' := [some (.ref 359), some (.int (nI p)), some (.int (nI (wb A p v))), some (.int (nI v)), some (.int (nI (due A p v w))), some (.int (nI 1)), some (.int (nI w))]) (S' := [.int (nI w), .int (nI p), .ref 359, .int (nI (due A p v w))]) rfl (by decide +kernel) rfl ?_
            refine Ev.callV0 mX7_inFirst [.int (nI p), .int (nI w)] [.int (nI (due A p v w))] _ rfl lk_RX7_165 (by decide +kernel) (rfl) rfl rfl rfl (Nat.le_of_ble_eq_true rfl) (c_X7_inFirst I J A hV hW p w hp (by omega)) ?_
            rintro _ _ ⟨rfl, rfl⟩
            have c9 := cF_le hW hp w
            show Ev _ _ _ _ _ 69 [some (.ref 359), some (.int (nI p)), some (.int (nI (wb A p v))), some (.int (nI v)), some (.int (nI (due A p v w))), some (.int (nI 1)), some (.int (nI w))] [.int (nI (cF A p w)), .int (nI (due A p v w))] (zz_SH, I, J) _
            refine Ev.goto (off := 4) (tgt := 73) (by decide +kernel) (by decide) ?_
            refine Ev.run [(.iadd, 1)] (pc' := 74) (L' := [some (.ref 359), some (.int (nI p)), some (.int (nI (wb A p v))), some (.int (nI v)), some (.int (nI (due A p v w))), some (.int (nI 1)), some (.int (nI w))]) (S' := [.int (nI (due A p v w) + nI (cF A p w))]) rfl (by decide +kernel) rfl ?_
            rw [nI_add (due A p v w) (cF A p w)]
            refine Ev.run [(.istore 4, 2), (.iinc 6 1, 3)] (pc' := 79) (L' := [some (.ref 359), some (.int (nI p)), some (.int (nI (wb A p v))), some (.int (nI v)), some (.int (nI ((due A p v w) + (cF A p w)))), some (.int (nI 1)), some (.int (nI w + 1))]) (S' := []) rfl (by decide +kernel) rfl ?_
            rw [nI_1 w]
            refine Ev.goto (off := (-60)) (tgt := 19) (by decide +kernel) (by decide) ?_
            have h9 := ih (w + 1) (by omega) (by omega)
            rw [ms, if_pos (Or.inr ((ob_eq (x := mu A w) (v := v) (by omega) (fun q hq => by have := hW.2.2.2.2.1 w (by omega) q hq; omega)).mp h39))] at h9
            rw [due, if_pos ((ob_eq (x := mu A w) (v := v) (by omega) (fun q hq => by have := hW.2.2.2.2.1 w (by omega) q hq; omega)).mp h59)] at h9
            exact h9

set_option maxRecDepth 100000 in
set_option maxHeartbeats 4000000 in
theorem l_X7_iw2 {sc : Nat × (Nat → Int32)} {d : Nat} (I : Nat → Nat → Int32) (J : Nat → Nat → Int64) (A : zA) (hV : MV (zVm I) A) (hW : WF A) (p : Nat) (hp : p < aN A) : ∀ (μ : Nat) (v : Nat), 16 - v < μ → (v ≤ 16) →  Ev sc (d + 1) 0 0 mX7_isWrong 4 [some (.ref 359), some (.int (nI p)), some (.int (nI (wb A p v))), some (.int (nI v)), none, none, none] [] (zz_SH, I, J) (zz_is (.int (nI (wb A p 16))) (zz_SH, I, J)) := by
  intro μ
  induction μ with
  | zero => intro v hμ; exact absurd hμ (Nat.not_lt_zero _)
  | succ μ ih =>
    intro v hμ hv
    have w1 := hW.1.1
    have w2 := hW.1.2.1
    have c1 := wb_le A p v
    refine Ev.run [(.iload_n 3, 1), (.bipush 16, 2)] (pc' := 7) (L' := [some (.ref 359), some (.int (nI p)), some (.int (nI (wb A p v))), some (.int (nI v)), none, none, none]) (S' := [.int (nI 16), .int (nI v)]) rfl (by decide +kernel) rfl ?_
    refine Ev.icmp_ge (off := 107) (tgt := 114) (by decide +kernel) (by decide) (fun h7 => ?_) (fun h7 => ?_)
    · have h7 : v ≥ 16 := zz_bG_t (by omega) (by omega) h7
      have hv16 : v = 16 := by omega
      refine Ev.run [(.iload_n 2, 1)] (pc' := 115) (L' := [some (.ref 359), some (.int (nI p)), some (.int (nI (wb A p v))), some (.int (nI v)), none, none, none]) (S' := [.int (nI (wb A p v))]) rfl (by decide +kernel) rfl ?_
      exact Ev.zret rfl (by decide +kernel) (wb_01 A p v) (⟨by rw [hv16], rfl⟩)
    · have h7 : v < 16 := zz_bG_f (by omega) (by omega) h7
      refine Ev.run [(.iconst 0, 1), (.istore 4, 2), (.iconst 0, 1), (.istore 5, 2), (.iconst 0, 1), (.istore 6, 2)] (pc' := 19) (L' := [some (.ref 359), some (.int (nI p)), some (.int (nI (wb A p v))), some (.int (nI v)), some (.int (nI 0)), some (.int (nI 0)), some (.int (nI 0))]) (S' := []) rfl (by decide +kernel) rfl ?_
      refine l_X7_iw1 I J A hV hW p hp v (by omega) ?_ 17 0 (by omega) (by omega)
      show Ev _ _ _ _ _ 82 [some (.ref 359), some (.int (nI p)), some (.int (nI (wb A p v))), some (.int (nI v)), some (.int (nI (due A p v 16))), some (.int (nI (ms A v 16))), none] [] (zz_SH, I, J) _
      refine Ev.run [(.iload_n 2, 1)] (pc' := 83) (L' := [some (.ref 359), some (.int (nI p)), some (.int (nI (wb A p v))), some (.int (nI v)), some (.int (nI (due A p v 16))), some (.int (nI (ms A v 16))), none]) (S' := [.int (nI (wb A p v))]) rfl (by decide +kernel) rfl ?_
      have c3 := ms_le A v 16
      have c4 := due_le hW hp v 16
      refine Ev.if_ne (off := 19) (tgt := 102) (by decide +kernel) (by decide) (fun h83 => ?_) (fun h83 => ?_)
      · have h83 : ¬ (wb A p v) = 0 := zz_bE_f (by omega) (by omega) h83
        refine Ev.run [(.iconst 1, 1)] (pc' := 103) (L' := [some (.ref 359), some (.int (nI p)), some (.int (nI (wb A p v))), some (.int (nI v)), some (.int (nI (due A p v 16))), some (.int (nI (ms A v 16))), none]) (S' := [.int (nI 1)]) rfl (by decide +kernel) rfl ?_
        refine Ev.goto (off := 4) (tgt := 107) (by decide +kernel) (by decide) ?_
        refine Ev.run [(.istore_n 2, 1), (.iinc 3 1, 3)] (pc' := 111) (L' := [some (.ref 359), some (.int (nI p)), some (.int (nI 1)), some (.int (nI v + 1)), some (.int (nI (due A p v 16))), some (.int (nI (ms A v 16))), none]) (S' := []) rfl (by decide +kernel) rfl ?_
        rw [nI_1 v]
        refine Ev.goto (off := (-107)) (tgt := 4) (by decide +kernel) (by decide) ?_
        refine Ev.weakL (L' := [some (.ref 359), some (.int (nI p)), some (.int (nI 1)), some (.int (nI (v + 1))), none, none, none]) ⟨rfl, rfl, rfl, rfl, trivial⟩ ?_
        have h9 := ih (v + 1) (by omega) (by omega)
        rw [wb, if_pos (Or.inl h83)] at h9
        exact h9
      · have h83 : (wb A p v) = 0 := zz_bE_t (by omega) (by omega) h83
        refine Ev.run [(.iload 5, 2)] (pc' := 88) (L' := [some (.ref 359), some (.int (nI p)), some (.int (nI (wb A p v))), some (.int (nI v)), some (.int (nI (due A p v 16))), some (.int (nI (ms A v 16))), none]) (S' := [.int (nI (ms A v 16))]) rfl (by decide +kernel) rfl ?_
        refine Ev.if_eq (off := 18) (tgt := 106) (by decide +kernel) (by decide) (fun h88 => ?_) (fun h88 => ?_)
        · have h88 : (ms A v 16) = 0 := zz_bE_t (by omega) (by omega) h88
          refine Ev.run [(.iconst 0, 1), (.istore_n 2, 1), (.iinc 3 1, 3)] (pc' := 111) (L' := [some (.ref 359), some (.int (nI p)), some (.int (nI 0)), some (.int (nI v + 1)), some (.int (nI (due A p v 16))), some (.int (nI (ms A v 16))), none]) (S' := []) rfl (by decide +kernel) rfl ?_
          rw [nI_1 v]
          refine Ev.goto (off := (-107)) (tgt := 4) (by decide +kernel) (by decide) ?_
          refine Ev.weakL (L' := [some (.ref 359), some (.int (nI p)), some (.int (nI 0)), some (.int (nI (v + 1))), none, none, none]) ⟨rfl, rfl, rfl, rfl, trivial⟩ ?_
          have h9 := ih (v + 1) (by omega) (by omega)
          rw [wb, if_neg (fun q => q.elim (fun q => q h83) (fun q => q.1 h88))] at h9
          exact h9
        · have h88 : ¬ (ms A v 16) = 0 := zz_bE_f (by omega) (by omega) h88
          refine Ev.run [(.iload 4, 2), (.aload_n 0, 1), (.iload_n 1, 1), (.iload_n 3, 1)] (pc' := 96) (L' := [some (.ref 359), some (.int (nI p)), some (.int (nI (wb A p v))), some (.int (nI v)), some (.int (nI (due A p v 16))), some (.int (nI (ms A v 16))), none]) (S' := [.int (nI v), .int (nI p), .ref 359, .int (nI (due A p v 16))]) rfl (by decide +kernel) rfl ?_
          refine Ev.callV0 mX7_inSecond [.int (nI p), .int (nI v)] [.int (nI (due A p v 16))] _ rfl lk_RX7_168 (by decide +kernel) (rfl) rfl rfl rfl (Nat.le_of_ble_eq_true rfl) (c_X7_inSecond I J A hV hW p v hp (by omega)) ?_
          rintro _ _ ⟨rfl, rfl⟩
          have c9 := cG_le hW hp v
          show Ev _ _ _ _ _ 99 [some (.ref 359), some (.int (nI p)), some (.int (nI (wb A p v))), some (.int (nI v)), some (.int (nI (due A p v 16))), some (.int (nI (ms A v 16))), none] [.int (nI (cG A p v)), .int (nI (due A p v 16))] (zz_SH, I, J) _
          refine Ev.icmp_eq (off := 7) (tgt := 106) (by decide +kernel) (by decide) (fun h99 => ?_) (fun h99 => ?_)
          · have h99 : (due A p v 16) = (cG A p v) := zz_bE_t (by omega) (by omega) h99
            refine Ev.run [(.iconst 0, 1), (.istore_n 2, 1), (.iinc 3 1, 3)] (pc' := 111) (L' := [some (.ref 359), some (.int (nI p)), some (.int (nI 0)), some (.int (nI v + 1)), some (.int (nI (due A p v 16))), some (.int (nI (ms A v 16))), none]) (S' := []) rfl (by decide +kernel) rfl ?_
            rw [nI_1 v]
            refine Ev.goto (off := (-107)) (tgt := 4) (by decide +kernel) (by decide) ?_
            refine Ev.weakL (L' := [some (.ref 359), some (.int (nI p)), some (.int (nI 0)), some (.int (nI (v + 1))), none, none, none]) ⟨rfl, rfl, rfl, rfl, trivial⟩ ?_
            have h9 := ih (v + 1) (by omega) (by omega)
            rw [wb, if_neg (fun q => q.elim (fun q => q h83) (fun q => q.2 h99))] at h9
            exact h9
          · have h99 : ¬ (due A p v 16) = (cG A p v) := zz_bE_f (by omega) (by omega) h99
            refine Ev.run [(.iconst 1, 1)] (pc' := 103) (L' := [some (.ref 359), some (.int (nI p)), some (.int (nI (wb A p v))), some (.int (nI v)), some (.int (nI (due A p v 16))), some (.int (nI (ms A v 16))), none]) (S' := [.int (nI 1)]) rfl (by decide +kernel) rfl ?_
            refine Ev.goto (off := 4) (tgt := 107) (by decide +kernel) (by decide) ?_
            refine Ev.run [(.istore_n 2, 1), (.iinc 3 1, 3)] (pc' := 111) (L' := [some (.ref 359), some (.int (nI p)), some (.int (nI 1)), some (.int (nI v + 1)), some (.int (nI (due A p v 16))), some (.int (nI (ms A v 16))), none]) (S' := []) rfl (by decide +kernel) rfl ?_
            rw [nI_1 v]
            refine Ev.goto (off := (-107)) (tgt := 4) (by decide +kernel) (by decide) ?_
            refine Ev.weakL (L' := [some (.ref 359), some (.int (nI p)), some (.int (nI 1)), some (.int (nI (v + 1))), none, none, none]) ⟨rfl, rfl, rfl, rfl, trivial⟩ ?_
            have h9 := ih (v + 1) (by omega) (by omega)
            rw [wb, if_pos (Or.inr ⟨h88, h99⟩)] at h9
            exact h9

set_option maxRecDepth 100000 in
set_option maxHeartbeats 4000000 in
theorem c_X7_isWrong {sc : Nat × (Nat → Int32)} {d : Nat} (I : Nat → Nat → Int32) (J : Nat → Nat → Int64) (A : zA) (hV : MV (zVm I) A) (hW : WF A) (p : Nat) (hp : p < aN A) : EvM sc (d + 1) 0 0 mX7_isWrong [.ref 359, .int (nI p)] (zz_SH, I, J) (zz_is (.int (nI (wb A p 16))) (zz_SH, I, J)) := by
  have w1 := hW.1.1
  have w2 := hW.1.2.1
  refine EvM.of (by decide) rfl (Nat.le_of_ble_eq_true rfl) ?_
  show Ev _ _ _ _ _ 0 [some (.ref 359), some (.int (nI p)), none, none, none, none, none] [] (zz_SH, I, J) _
  refine Ev.run [(.iconst 0, 1), (.istore_n 2, 1), (.iconst 0, 1), (.istore_n 3, 1)] (pc' := 4) (L' := [some (.ref 359), some (.int (nI p)), some (.int (nI 0)), some (.int (nI 0)), none, none, none]) (S' := []) rfl (by decide +kernel) rfl ?_
  exact l_X7_iw2 I J A hV hW p hp 17 0 (by omega) (by omega)

set_option maxRecDepth 100000 in
set_option maxHeartbeats 4000000 in
theorem l_X7_wrongs {sc : Nat × (Nat → Int32)} {d : Nat} (I : Nat → Nat → Int32) (J : Nat → Nat → Int64) (A : zA) (hV : MV (zVm I) A) (hW : WF A) : ∀ (μ : Nat) (p : Nat), aN A - p < μ → (p ≤ aN A) →  Ev sc (d + 2) 0 0 mX7_wrongs 4 [some (.ref 359), some (.int (nI (wrs A p))), some (.int (nI p))] [] (zz_SH, I, J) (zz_is (.int (nI (wrs A (aN A)))) (zz_SH, I, J)) := by
  intro μ
  induction μ with
  | zero => intro p hμ; exact absurd hμ (Nat.not_lt_zero _)
  | succ μ ih =>
    intro p hμ hp
    have w1 := hW.1.1
    have w2 := hW.1.2.1
    refine Ev.run [(.iload_n 2, 1), (.aload_n 0, 1), (.getfield 75, 3)] (pc' := 9) (L' := [some (.ref 359), some (.int (nI (wrs A p))), some (.int (nI p))]) (S' := [.int (I 359 2), .int (nI p)]) rfl (by decide +kernel) rfl ?_
    rw [show I 359 2 = nI (aN A) from hV.1.1]
    refine Ev.icmp_ge (off := 27) (tgt := 36) (by decide +kernel) (by decide) (fun h9 => ?_) (fun h9 => ?_)
    · have h9 : p ≥ (aN A) := zz_bG_t (by omega) (by omega) h9
      have hpN : aN A = p := by omega
      refine Ev.run [(.iload_n 1, 1)] (pc' := 37) (L' := [some (.ref 359), some (.int (nI (wrs A p))), some (.int (nI p))]) (S' := [.int (nI (wrs A p))]) rfl (by decide +kernel) rfl ?_
      exact Ev.iret rfl (by decide +kernel) (⟨by rw [hpN], rfl⟩)
    · have h9 : p < (aN A) := zz_bG_f (by omega) (by omega) h9
      refine Ev.run [(.iload_n 1, 1), (.aload_n 0, 1), (.iload_n 2, 1)] (pc' := 15) (L' := [some (.ref 359), some (.int (nI (wrs A p))), some (.int (nI p))]) (S' := [.int (nI p), .ref 359, .int (nI (wrs A p))]) rfl (by decide +kernel) rfl ?_
      refine Ev.callV0 mX7_isWrong [.int (nI p)] [.int (nI (wrs A p))] _ rfl lk_RX7_171 (by decide +kernel) (rfl) rfl rfl rfl (Nat.le_of_ble_eq_true rfl) (c_X7_isWrong I J A hV hW p (by omega)) ?_
      rintro _ _ ⟨rfl, rfl⟩
      have c1 := wb_le A p 16
      show Ev _ _ _ _ _ 18 [some (.ref 359), some (.int (nI (wrs A p))), some (.int (nI p))] [.int (nI (wb A p 16)), .int (nI (wrs A p))] (zz_SH, I, J) _
      refine Ev.if_eq (off := 9) (tgt := 27) (by decide +kernel) (by decide) (fun h18 => ?_) (fun h18 => ?_)
      · have h18 : (wb A p 16) = 0 := zz_bE_t (by omega) (by omega) h18
        refine Ev.run [(.iconst 0, 1), (.ior, 1)] (pc' := 29) (L' := [some (.ref 359), some (.int (nI (wrs A p))), some (.int (nI p))]) (S' := [.int (nI (wrs A p) ||| nI 0)]) rfl (by decide +kernel) rfl ?_
        rw [zz_or (wrs A p) 0]
        refine Ev.run [(.istore_n 1, 1), (.iinc 2 1, 3)] (pc' := 33) (L' := [some (.ref 359), some (.int (nI ((wrs A p) ||| 0))), some (.int (nI p + 1))]) (S' := []) rfl (by decide +kernel) rfl ?_
        rw [nI_1 p]
        refine Ev.goto (off := (-29)) (tgt := 4) (by decide +kernel) (by decide) ?_
        have h9 := ih (p + 1) (by omega) (by omega)
        rw [wrs, if_pos h18] at h9
        exact h9
      · have h18 : ¬ (wb A p 16) = 0 := zz_bE_f (by omega) (by omega) h18
        refine Ev.run [(.iconst 1, 1), (.iload_n 2, 1), (.ishl, 1)] (pc' := 24) (L' := [some (.ref 359), some (.int (nI (wrs A p))), some (.int (nI p))]) (S' := [.int ((nI 1) <<< (nI p &&& 31)), .int (nI (wrs A p))]) rfl (by decide +kernel) rfl ?_
        rw [zz_shl1 (k := p) (by omega)]
        refine Ev.goto (off := 4) (tgt := 28) (by decide +kernel) (by decide) ?_
        refine Ev.run [(.ior, 1)] (pc' := 29) (L' := [some (.ref 359), some (.int (nI (wrs A p))), some (.int (nI p))]) (S' := [.int (nI (wrs A p) ||| nI (2 ^ p))]) rfl (by decide +kernel) rfl ?_
        rw [zz_or (wrs A p) (2 ^ p)]
        refine Ev.run [(.istore_n 1, 1), (.iinc 2 1, 3)] (pc' := 33) (L' := [some (.ref 359), some (.int (nI ((wrs A p) ||| (2 ^ p)))), some (.int (nI p + 1))]) (S' := []) rfl (by decide +kernel) rfl ?_
        rw [nI_1 p]
        refine Ev.goto (off := (-29)) (tgt := 4) (by decide +kernel) (by decide) ?_
        have h9 := ih (p + 1) (by omega) (by omega)
        rw [wrs, if_neg h18] at h9
        exact h9

set_option maxRecDepth 100000 in
set_option maxHeartbeats 4000000 in
theorem c_X7_wrongs {sc : Nat × (Nat → Int32)} {d : Nat} (I : Nat → Nat → Int32) (J : Nat → Nat → Int64) (A : zA) (hV : MV (zVm I) A) (hW : WF A) : EvM sc (d + 2) 0 0 mX7_wrongs [.ref 359] (zz_SH, I, J) (zz_is (.int (nI (wrs A (aN A)))) (zz_SH, I, J)) := by
  have w1 := hW.1.1
  have w2 := hW.1.2.1
  refine EvM.of (by decide) rfl (Nat.le_of_ble_eq_true rfl) ?_
  show Ev _ _ _ _ _ 0 [some (.ref 359), none, none] [] (zz_SH, I, J) _
  refine Ev.run [(.iconst 0, 1), (.istore_n 1, 1), (.iconst 0, 1), (.istore_n 2, 1)] (pc' := 4) (L' := [some (.ref 359), some (.int (nI 0)), some (.int (nI 0))]) (S' := []) rfl (by decide +kernel) rfl ?_
  exact l_X7_wrongs I J A hV hW (aN A + 1) 0 (by omega) (by omega)

def zS6 (I I' : Nat → Nat → Int32) : Prop := (∀ c, c ≠ 359 → I' c = I c) ∧ ∀ j, j ≠ 22 → j ≠ 23 → I' 359 j = I 359 j
theorem zS6.rf (I : Nat → Nat → Int32) : zS6 I I := ⟨fun _ _ => rfl, fun _ _ _ => rfl⟩
theorem zS6.tr {I I' I'' : Nat → Nat → Int32} (h : zS6 I I') (h' : zS6 I' I'') : zS6 I I'' := ⟨fun c h1 => (h'.1 c h1).trans (h.1 c h1), fun j h1 h2 => (h'.2 j h1 h2).trans (h.2 j h1 h2)⟩
theorem zS6.up (I : Nat → Nat → Int32) (j : Nat) (v : Int32) (hj : j = 22 ∨ j = 23) : zS6 I (zz_up I 359 j v) := ⟨fun c h1 => zz_up_ne h1, fun i h1 h2 => by rw [zz_up_eq, zz_upn (by omega)]⟩
theorem zS6.sc {I I' : Nat → Nat → Int32} (h : zS6 I I') : zSc I I' := ⟨fun c hc => h.1 c (by omega), h.1 360 (by decide), fun c h1 h2 => h.1 c (by omega), h.1 379 (by decide), h.1 380 (by decide), h.2 0 (by decide) (by decide), h.2 2 (by decide) (by decide), h.2 8 (by decide) (by decide)⟩
theorem zS6.mv {I I' : Nat → Nat → Int32} {A : zA} (h : zS6 I I') (hV : MV (zVm I) A) : MV (zVm I') A := h.sc.mv hV

set_option maxRecDepth 100000 in
set_option maxHeartbeats 4000000 in
theorem l_X7_layGoes {sc : Nat × (Nat → Int32)} {d : Nat} (I : Nat → Nat → Int32) (J : Nat → Nat → Int64) (A : zA) (hV : MV (zVm I) A) (hW : WF A) (w v : Nat) (hw : w < 16) (hv : v < 16) : ∀ (μ : Nat) (p : Nat) (I1 : Nat → Nat → Int32), aN A - p < μ → (p ≤ aN A) → (zS6 I I1) → (I1 359 22 = nI (2 * pbo A w v p)) → (I1 359 23 = nI (pei A w v p)) →  Ev sc (d + 1) 0 0 mX7_layGoes 12 [some (.ref 359), some (.int (nI w)), some (.int (nI v)), some (.int (nI p)), none, none] [] (zz_SH, I1, J) (fun r σ => r = none ∧ ∃ I' : Nat → Nat → Int32, zS6 I I' ∧ I' 359 22 = nI (2 * pbo A w v (aN A)) ∧ I' 359 23 = nI (pei A w v (aN A)) ∧ σ = (zz_SH, I', J)) := by
  intro μ
  induction μ with
  | zero => intro p I1 hμ; exact absurd hμ (Nat.not_lt_zero _)
  | succ μ ih =>
    intro p I1 hμ hp hs hu hl
    have w1 := hW.1.1
    have w2 := hW.1.2.1
    have c8 := pbo_le A w v p
    have c9 := pei_le A w v p
    refine Ev.run [(.iload_n 3, 1), (.aload_n 0, 1), (.getfield 75, 3)] (pc' := 17) (L' := [some (.ref 359), some (.int (nI w)), some (.int (nI v)), some (.int (nI p)), none, none]) (S' := [.int (I1 359 2), .int (nI p)]) rfl (by decide +kernel) rfl ?_
    rw [show I1 359 2 = nI (aN A) from (hs.mv hV).1.1]
    refine Ev.icmp_ge (off := 71) (tgt := 88) (by decide +kernel) (by decide) (fun h17 => ?_) (fun h17 => ?_)
    · have h17 : p ≥ (aN A) := zz_bG_t (by omega) (by omega) h17
      have hpN : aN A = p := by omega
      exact Ev.vret rfl (by decide +kernel) (⟨rfl, I1, hs, by rw [hpN]; exact hu, by rw [hpN]; exact hl, rfl⟩)
    · have h17 : p < (aN A) := zz_bG_f (by omega) (by omega) h17
      refine Ev.run [(.aload_n 0, 1), (.iload_n 3, 1), (.iload_n 1, 1)] (pc' := 23) (L' := [some (.ref 359), some (.int (nI w)), some (.int (nI v)), some (.int (nI p)), none, none]) (S' := [.int (nI w), .int (nI p), .ref 359]) rfl (by decide +kernel) rfl ?_
      refine Ev.callV0 mX7_inFirst [.int (nI p), .int (nI w)] [] _ rfl lk_RX7_165 (by decide +kernel) (rfl) rfl rfl rfl (Nat.le_of_ble_eq_true rfl) (c_X7_inFirst I1 J A (hs.mv hV) hW p w (by omega) hw) ?_
      rintro _ _ ⟨rfl, rfl⟩
      have c1 := cF_le hW (show p < aN A by omega) w
      show Ev _ _ _ _ _ 26 [some (.ref 359), some (.int (nI w)), some (.int (nI v)), some (.int (nI p)), none, none] [.int (nI (cF A p w))] (zz_SH, I1, J) _
      refine Ev.if_le (off := 7) (tgt := 33) (by decide +kernel) (by decide) (fun h26 => ?_) (fun h26 => ?_)
      · have h26 : (cF A p w) ≤ 0 := zz_bG'_t (by omega) (by omega) h26
        refine Ev.run [(.iconst 0, 1), (.istore 4, 2), (.aload_n 0, 1), (.iload_n 3, 1), (.iload_n 2, 1)] (pc' := 39) (L' := [some (.ref 359), some (.int (nI w)), some (.int (nI v)), some (.int (nI p)), some (.int (nI 0)), none]) (S' := [.int (nI v), .int (nI p), .ref 359]) rfl (by decide +kernel) rfl ?_
        refine Ev.callV0 mX7_inSecond [.int (nI p), .int (nI v)] [] _ rfl lk_RX7_168 (by decide +kernel) (rfl) rfl rfl rfl (Nat.le_of_ble_eq_true rfl) (c_X7_inSecond I1 J A (hs.mv hV) hW p v (by omega) hv) ?_
        rintro _ _ ⟨rfl, rfl⟩
        have c2 := cG_le hW (show p < aN A by omega) v
        show Ev _ _ _ _ _ 42 [some (.ref 359), some (.int (nI w)), some (.int (nI v)), some (.int (nI p)), some (.int (nI 0)), none] [.int (nI (cG A p v))] (zz_SH, I1, J) _
        refine Ev.if_le (off := 7) (tgt := 49) (by decide +kernel) (by decide) (fun h42 => ?_) (fun h42 => ?_)
        · have h42 : (cG A p v) ≤ 0 := zz_bG'_t (by omega) (by omega) h42
          refine Ev.run [(.iconst 0, 1), (.istore 5, 2), (.aload_n 0, 1), (.dup, 1), (.getfield 174, 3)] (pc' := 57) (L' := [some (.ref 359), some (.int (nI w)), some (.int (nI v)), some (.int (nI p)), some (.int (nI 0)), some (.int (nI 0))]) (S' := [.int (I1 359 22), .ref 359]) rfl (by decide +kernel) rfl ?_
          rw [hu]
          refine Ev.run [(.iconst 2, 1), (.iload 4, 2), (.imul, 1)] (pc' := 61) (L' := [some (.ref 359), some (.int (nI w)), some (.int (nI v)), some (.int (nI p)), some (.int (nI 0)), some (.int (nI 0))]) (S' := [.int (nI 2 * nI 0), .int (nI (2 * pbo A w v p)), .ref 359]) rfl (by decide +kernel) rfl ?_
          rw [pk_mul 2 0]
          refine Ev.run [(.iload 5, 2), (.imul, 1)] (pc' := 64) (L' := [some (.ref 359), some (.int (nI w)), some (.int (nI v)), some (.int (nI p)), some (.int (nI 0)), some (.int (nI 0))]) (S' := [.int (nI (2 * 0) * nI 0), .int (nI (2 * pbo A w v p)), .ref 359]) rfl (by decide +kernel) rfl ?_
          rw [pk_mul (2 * 0) 0]
          refine Ev.run [(.iadd, 1)] (pc' := 65) (L' := [some (.ref 359), some (.int (nI w)), some (.int (nI v)), some (.int (nI p)), some (.int (nI 0)), some (.int (nI 0))]) (S' := [.int (nI (2 * pbo A w v p) + nI ((2 * 0) * 0)), .ref 359]) rfl (by decide +kernel) rfl ?_
          rw [nI_add (2 * pbo A w v p) ((2 * 0) * 0)]
          refine Ev.putf (idx := 174) rfl rfl rfl (by decide +kernel) (rfl) rfl ?_
          dsimp only
          refine Ev.run [(.aload_n 0, 1), (.dup, 1), (.getfield 177, 3)] (pc' := 73) (L' := [some (.ref 359), some (.int (nI w)), some (.int (nI v)), some (.int (nI p)), some (.int (nI 0)), some (.int (nI 0))]) (S' := [.int ((zz_up I1 359 22 (nI ((2 * pbo A w v p) + ((2 * 0) * 0)))) 359 23), .ref 359]) rfl (by decide +kernel) rfl ?_
          rw [show (zz_up I1 359 22 (nI ((2 * pbo A w v p) + ((2 * 0) * 0)))) 359 23 = nI (pei A w v p) from by rw [zz_up_eq, zz_upn (by decide)]; exact hl]
          refine Ev.run [(.iload 4, 2), (.iload 5, 2), (.iadd, 1)] (pc' := 78) (L' := [some (.ref 359), some (.int (nI w)), some (.int (nI v)), some (.int (nI p)), some (.int (nI 0)), some (.int (nI 0))]) (S' := [.int (nI 0 + nI 0), .int (nI (pei A w v p)), .ref 359]) rfl (by decide +kernel) rfl ?_
          rw [nI_add 0 0]
          refine Ev.run [(.iadd, 1)] (pc' := 79) (L' := [some (.ref 359), some (.int (nI w)), some (.int (nI v)), some (.int (nI p)), some (.int (nI 0)), some (.int (nI 0))]) (S' := [.int (nI (pei A w v p) + nI (0 + 0)), .ref 359]) rfl (by decide +kernel) rfl ?_
          rw [nI_add (pei A w v p) (0 + 0)]
          refine Ev.putf (idx := 177) rfl rfl rfl (by decide +kernel) (rfl) rfl ?_
          dsimp only
          refine Ev.run [(.iinc 3 1, 3)] (pc' := 85) (L' := [some (.ref 359), some (.int (nI w)), some (.int (nI v)), some (.int (nI p + 1)), some (.int (nI 0)), some (.int (nI 0))]) (S' := []) rfl (by decide +kernel) rfl ?_
          rw [nI_1 p]
          refine Ev.goto (off := (-73)) (tgt := 12) (by decide +kernel) (by decide) ?_
          refine Ev.weakL (L' := [some (.ref 359), some (.int (nI w)), some (.int (nI v)), some (.int (nI (p + 1))), none, none]) ⟨rfl, rfl, rfl, rfl, trivial⟩ ?_
          have e1 : (if 0 < cF A p w then 1 else 0) = 0 := if_neg (by omega)
          have e2 : (if 0 < cG A p v then 1 else 0) = 0 := if_neg (by omega)
          have e3 : (if 0 < cF A p w ∧ 0 < cG A p v then 1 else 0) = 0 := if_neg (by omega)
          refine ih (p + 1) _ (by omega) (by omega) ((hs.tr (zS6.up I1 22 _ (by decide))).tr (zS6.up _ 23 _ (by decide))) ?_ ?_
          · rw [zz_up_eq, zz_upn (by decide), zz_up_eq, zz_ups, pbo, e3]; congr 1
          · rw [zz_up_eq, zz_ups, pei, e1, e2]
        · have h42 : (cG A p v) > 0 := zz_bG'_f (by omega) (by omega) h42
          refine Ev.run [(.iconst 1, 1)] (pc' := 46) (L' := [some (.ref 359), some (.int (nI w)), some (.int (nI v)), some (.int (nI p)), some (.int (nI 0)), none]) (S' := [.int (nI 1)]) rfl (by decide +kernel) rfl ?_
          refine Ev.goto (off := 4) (tgt := 50) (by decide +kernel) (by decide) ?_
          refine Ev.run [(.istore 5, 2), (.aload_n 0, 1), (.dup, 1), (.getfield 174, 3)] (pc' := 57) (L' := [some (.ref 359), some (.int (nI w)), some (.int (nI v)), some (.int (nI p)), some (.int (nI 0)), some (.int (nI 1))]) (S' := [.int (I1 359 22), .ref 359]) rfl (by decide +kernel) rfl ?_
          rw [hu]
          refine Ev.run [(.iconst 2, 1), (.iload 4, 2), (.imul, 1)] (pc' := 61) (L' := [some (.ref 359), some (.int (nI w)), some (.int (nI v)), some (.int (nI p)), some (.int (nI 0)), some (.int (nI 1))]) (S' := [.int (nI 2 * nI 0), .int (nI (2 * pbo A w v p)), .ref 359]) rfl (by decide +kernel) rfl ?_
          rw [pk_mul 2 0]
          refine Ev.run [(.iload 5, 2), (.imul, 1)] (pc' := 64) (L' := [some (.ref 359), some (.int (nI w)), some (.int (nI v)), some (.int (nI p)), some (.int (nI 0)), some (.int (nI 1))]) (S' := [.int (nI (2 * 0) * nI 1), .int (nI (2 * pbo A w v p)), .ref 359]) rfl (by decide +kernel) rfl ?_
          rw [pk_mul (2 * 0) 1]
          refine Ev.run [(.iadd, 1)] (pc' := 65) (L' := [some (.ref 359), some (.int (nI w)), some (.int (nI v)), some (.int (nI p)), some (.int (nI 0)), some (.int (nI 1))]) (S' := [.int (nI (2 * pbo A w v p) + nI ((2 * 0) * 1)), .ref 359]) rfl (by decide +kernel) rfl ?_
          rw [nI_add (2 * pbo A w v p) ((2 * 0) * 1)]
          refine Ev.putf (idx := 174) rfl rfl rfl (by decide +kernel) (rfl) rfl ?_
          dsimp only
          refine Ev.run [(.aload_n 0, 1), (.dup, 1), (.getfield 177, 3)] (pc' := 73) (L' := [some (.ref 359), some (.int (nI w)), some (.int (nI v)), some (.int (nI p)), some (.int (nI 0)), some (.int (nI 1))]) (S' := [.int ((zz_up I1 359 22 (nI ((2 * pbo A w v p) + ((2 * 0) * 1)))) 359 23), .ref 359]) rfl (by decide +kernel) rfl ?_
          rw [show (zz_up I1 359 22 (nI ((2 * pbo A w v p) + ((2 * 0) * 1)))) 359 23 = nI (pei A w v p) from by rw [zz_up_eq, zz_upn (by decide)]; exact hl]
          refine Ev.run [(.iload 4, 2), (.iload 5, 2), (.iadd, 1)] (pc' := 78) (L' := [some (.ref 359), some (.int (nI w)), some (.int (nI v)), some (.int (nI p)), some (.int (nI 0)), some (.int (nI 1))]) (S' := [.int (nI 0 + nI 1), .int (nI (pei A w v p)), .ref 359]) rfl (by decide +kernel) rfl ?_
          rw [nI_add 0 1]
          refine Ev.run [(.iadd, 1)] (pc' := 79) (L' := [some (.ref 359), some (.int (nI w)), some (.int (nI v)), some (.int (nI p)), some (.int (nI 0)), some (.int (nI 1))]) (S' := [.int (nI (pei A w v p) + nI (0 + 1)), .ref 359]) rfl (by decide +kernel) rfl ?_
          rw [nI_add (pei A w v p) (0 + 1)]
          refine Ev.putf (idx := 177) rfl rfl rfl (by decide +kernel) (rfl) rfl ?_
          dsimp only
          refine Ev.run [(.iinc 3 1, 3)] (pc' := 85) (L' := [some (.ref 359), some (.int (nI w)), some (.int (nI v)), some (.int (nI p + 1)), some (.int (nI 0)), some (.int (nI 1))]) (S' := []) rfl (by decide +kernel) rfl ?_
          rw [nI_1 p]
          refine Ev.goto (off := (-73)) (tgt := 12) (by decide +kernel) (by decide) ?_
          refine Ev.weakL (L' := [some (.ref 359), some (.int (nI w)), some (.int (nI v)), some (.int (nI (p + 1))), none, none]) ⟨rfl, rfl, rfl, rfl, trivial⟩ ?_
          have e1 : (if 0 < cF A p w then 1 else 0) = 0 := if_neg (by omega)
          have e2 : (if 0 < cG A p v then 1 else 0) = 1 := if_pos (by omega)
          have e3 : (if 0 < cF A p w ∧ 0 < cG A p v then 1 else 0) = 0 := if_neg (by omega)
          refine ih (p + 1) _ (by omega) (by omega) ((hs.tr (zS6.up I1 22 _ (by decide))).tr (zS6.up _ 23 _ (by decide))) ?_ ?_
          · rw [zz_up_eq, zz_upn (by decide), zz_up_eq, zz_ups, pbo, e3]; congr 1
          · rw [zz_up_eq, zz_ups, pei, e1, e2]
      · have h26 : (cF A p w) > 0 := zz_bG'_f (by omega) (by omega) h26
        refine Ev.run [(.iconst 1, 1)] (pc' := 30) (L' := [some (.ref 359), some (.int (nI w)), some (.int (nI v)), some (.int (nI p)), none, none]) (S' := [.int (nI 1)]) rfl (by decide +kernel) rfl ?_
        refine Ev.goto (off := 4) (tgt := 34) (by decide +kernel) (by decide) ?_
        refine Ev.run [(.istore 4, 2), (.aload_n 0, 1), (.iload_n 3, 1), (.iload_n 2, 1)] (pc' := 39) (L' := [some (.ref 359), some (.int (nI w)), some (.int (nI v)), some (.int (nI p)), some (.int (nI 1)), none]) (S' := [.int (nI v), .int (nI p), .ref 359]) rfl (by decide +kernel) rfl ?_
        refine Ev.callV0 mX7_inSecond [.int (nI p), .int (nI v)] [] _ rfl lk_RX7_168 (by decide +kernel) (rfl) rfl rfl rfl (Nat.le_of_ble_eq_true rfl) (c_X7_inSecond I1 J A (hs.mv hV) hW p v (by omega) hv) ?_
        rintro _ _ ⟨rfl, rfl⟩
        have c2 := cG_le hW (show p < aN A by omega) v
        show Ev _ _ _ _ _ 42 [some (.ref 359), some (.int (nI w)), some (.int (nI v)), some (.int (nI p)), some (.int (nI 1)), none] [.int (nI (cG A p v))] (zz_SH, I1, J) _
        refine Ev.if_le (off := 7) (tgt := 49) (by decide +kernel) (by decide) (fun h42 => ?_) (fun h42 => ?_)
        · have h42 : (cG A p v) ≤ 0 := zz_bG'_t (by omega) (by omega) h42
          refine Ev.run [(.iconst 0, 1), (.istore 5, 2), (.aload_n 0, 1), (.dup, 1), (.getfield 174, 3)] (pc' := 57) (L' := [some (.ref 359), some (.int (nI w)), some (.int (nI v)), some (.int (nI p)), some (.int (nI 1)), some (.int (nI 0))]) (S' := [.int (I1 359 22), .ref 359]) rfl (by decide +kernel) rfl ?_
          rw [hu]
          refine Ev.run [(.iconst 2, 1), (.iload 4, 2), (.imul, 1)] (pc' := 61) (L' := [some (.ref 359), some (.int (nI w)), some (.int (nI v)), some (.int (nI p)), some (.int (nI 1)), some (.int (nI 0))]) (S' := [.int (nI 2 * nI 1), .int (nI (2 * pbo A w v p)), .ref 359]) rfl (by decide +kernel) rfl ?_
          rw [pk_mul 2 1]
          refine Ev.run [(.iload 5, 2), (.imul, 1)] (pc' := 64) (L' := [some (.ref 359), some (.int (nI w)), some (.int (nI v)), some (.int (nI p)), some (.int (nI 1)), some (.int (nI 0))]) (S' := [.int (nI (2 * 1) * nI 0), .int (nI (2 * pbo A w v p)), .ref 359]) rfl (by decide +kernel) rfl ?_
          rw [pk_mul (2 * 1) 0]
          refine Ev.run [(.iadd, 1)] (pc' := 65) (L' := [some (.ref 359), some (.int (nI w)), some (.int (nI v)), some (.int (nI p)), some (.int (nI 1)), some (.int (nI 0))]) (S' := [.int (nI (2 * pbo A w v p) + nI ((2 * 1) * 0)), .ref 359]) rfl (by decide +kernel) rfl ?_
          rw [nI_add (2 * pbo A w v p) ((2 * 1) * 0)]
          refine Ev.putf (idx := 174) rfl rfl rfl (by decide +kernel) (rfl) rfl ?_
          dsimp only
          refine Ev.run [(.aload_n 0, 1), (.dup, 1), (.getfield 177, 3)] (pc' := 73) (L' := [some (.ref 359), some (.int (nI w)), some (.int (nI v)), some (.int (nI p)), some (.int (nI 1)), some (.int (nI 0))]) (S' := [.int ((zz_up I1 359 22 (nI ((2 * pbo A w v p) + ((2 * 1) * 0)))) 359 23), .ref 359]) rfl (by decide +kernel) rfl ?_
          rw [show (zz_up I1 359 22 (nI ((2 * pbo A w v p) + ((2 * 1) * 0)))) 359 23 = nI (pei A w v p) from by rw [zz_up_eq, zz_upn (by decide)]; exact hl]
          refine Ev.run [(.iload 4, 2), (.iload 5, 2), (.iadd, 1)] (pc' := 78) (L' := [some (.ref 359), some (.int (nI w)), some (.int (nI v)), some (.int (nI p)), some (.int (nI 1)), some (.int (nI 0))]) (S' := [.int (nI 1 + nI 0), .int (nI (pei A w v p)), .ref 359]) rfl (by decide +kernel) rfl ?_
          rw [nI_add 1 0]
          refine Ev.run [(.iadd, 1)] (pc' := 79) (L' := [some (.ref 359), some (.int (nI w)), some (.int (nI v)), some (.int (nI p)), some (.int (nI 1)), some (.int (nI 0))]) (S' := [.int (nI (pei A w v p) + nI (1 + 0)), .ref 359]) rfl (by decide +kernel) rfl ?_
          rw [nI_add (pei A w v p) (1 + 0)]
          refine Ev.putf (idx := 177) rfl rfl rfl (by decide +kernel) (rfl) rfl ?_
          dsimp only
          refine Ev.run [(.iinc 3 1, 3)] (pc' := 85) (L' := [some (.ref 359), some (.int (nI w)), some (.int (nI v)), some (.int (nI p + 1)), some (.int (nI 1)), some (.int (nI 0))]) (S' := []) rfl (by decide +kernel) rfl ?_
          rw [nI_1 p]
          refine Ev.goto (off := (-73)) (tgt := 12) (by decide +kernel) (by decide) ?_
          refine Ev.weakL (L' := [some (.ref 359), some (.int (nI w)), some (.int (nI v)), some (.int (nI (p + 1))), none, none]) ⟨rfl, rfl, rfl, rfl, trivial⟩ ?_
          have e1 : (if 0 < cF A p w then 1 else 0) = 1 := if_pos (by omega)
          have e2 : (if 0 < cG A p v then 1 else 0) = 0 := if_neg (by omega)
          have e3 : (if 0 < cF A p w ∧ 0 < cG A p v then 1 else 0) = 0 := if_neg (by omega)
          refine ih (p + 1) _ (by omega) (by omega) ((hs.tr (zS6.up I1 22 _ (by decide))).tr (zS6.up _ 23 _ (by decide))) ?_ ?_
          · rw [zz_up_eq, zz_upn (by decide), zz_up_eq, zz_ups, pbo, e3]; congr 1
          · rw [zz_up_eq, zz_ups, pei, e1, e2]
        · have h42 : (cG A p v) > 0 := zz_bG'_f (by omega) (by omega) h42
          refine Ev.run [(.iconst 1, 1)] (pc' := 46) (L' := [some (.ref 359), some (.int (nI w)), some (.int (nI v)), some (.int (nI p)), some (.int (nI 1)), none]) (S' := [.int (nI 1)]) rfl (by decide +kernel) rfl ?_
          refine Ev.goto (off := 4) (tgt := 50) (by decide +kernel) (by decide) ?_
          refine Ev.run [(.istore 5, 2), (.aload_n 0, 1), (.dup, 1), (.getfield 174, 3)] (pc' := 57) (L' := [some (.ref 359), some (.int (nI w)), some (.int (nI v)), some (.int (nI p)), some (.int (nI 1)), some (.int (nI 1))]) (S' := [.int (I1 359 22), .ref 359]) rfl (by decide +kernel) rfl ?_
          rw [hu]
          refine Ev.run [(.iconst 2, 1), (.iload 4, 2), (.imul, 1)] (pc' := 61) (L' := [some (.ref 359), some (.int (nI w)), some (.int (nI v)), some (.int (nI p)), some (.int (nI 1)), some (.int (nI 1))]) (S' := [.int (nI 2 * nI 1), .int (nI (2 * pbo A w v p)), .ref 359]) rfl (by decide +kernel) rfl ?_
          rw [pk_mul 2 1]
          refine Ev.run [(.iload 5, 2), (.imul, 1)] (pc' := 64) (L' := [some (.ref 359), some (.int (nI w)), some (.int (nI v)), some (.int (nI p)), some (.int (nI 1)), some (.int (nI 1))]) (S' := [.int (nI (2 * 1) * nI 1), .int (nI (2 * pbo A w v p)), .ref 359]) rfl (by decide +kernel) rfl ?_
          rw [pk_mul (2 * 1) 1]
          refine Ev.run [(.iadd, 1)] (pc' := 65) (L' := [some (.ref 359), some (.int (nI w)), some (.int (nI v)), some (.int (nI p)), some (.int (nI 1)), some (.int (nI 1))]) (S' := [.int (nI (2 * pbo A w v p) + nI ((2 * 1) * 1)), .ref 359]) rfl (by decide +kernel) rfl ?_
          rw [nI_add (2 * pbo A w v p) ((2 * 1) * 1)]
          refine Ev.putf (idx := 174) rfl rfl rfl (by decide +kernel) (rfl) rfl ?_
          dsimp only
          refine Ev.run [(.aload_n 0, 1), (.dup, 1), (.getfield 177, 3)] (pc' := 73) (L' := [some (.ref 359), some (.int (nI w)), some (.int (nI v)), some (.int (nI p)), some (.int (nI 1)), some (.int (nI 1))]) (S' := [.int ((zz_up I1 359 22 (nI ((2 * pbo A w v p) + ((2 * 1) * 1)))) 359 23), .ref 359]) rfl (by decide +kernel) rfl ?_
          rw [show (zz_up I1 359 22 (nI ((2 * pbo A w v p) + ((2 * 1) * 1)))) 359 23 = nI (pei A w v p) from by rw [zz_up_eq, zz_upn (by decide)]; exact hl]
          refine Ev.run [(.iload 4, 2), (.iload 5, 2), (.iadd, 1)] (pc' := 78) (L' := [some (.ref 359), some (.int (nI w)), some (.int (nI v)), some (.int (nI p)), some (.int (nI 1)), some (.int (nI 1))]) (S' := [.int (nI 1 + nI 1), .int (nI (pei A w v p)), .ref 359]) rfl (by decide +kernel) rfl ?_
          rw [nI_add 1 1]
          refine Ev.run [(.iadd, 1)] (pc' := 79) (L' := [some (.ref 359), some (.int (nI w)), some (.int (nI v)), some (.int (nI p)), some (.int (nI 1)), some (.int (nI 1))]) (S' := [.int (nI (pei A w v p) + nI (1 + 1)), .ref 359]) rfl (by decide +kernel) rfl ?_
          rw [nI_add (pei A w v p) (1 + 1)]
          refine Ev.putf (idx := 177) rfl rfl rfl (by decide +kernel) (rfl) rfl ?_
          dsimp only
          refine Ev.run [(.iinc 3 1, 3)] (pc' := 85) (L' := [some (.ref 359), some (.int (nI w)), some (.int (nI v)), some (.int (nI p + 1)), some (.int (nI 1)), some (.int (nI 1))]) (S' := []) rfl (by decide +kernel) rfl ?_
          rw [nI_1 p]
          refine Ev.goto (off := (-73)) (tgt := 12) (by decide +kernel) (by decide) ?_
          refine Ev.weakL (L' := [some (.ref 359), some (.int (nI w)), some (.int (nI v)), some (.int (nI (p + 1))), none, none]) ⟨rfl, rfl, rfl, rfl, trivial⟩ ?_
          have e1 : (if 0 < cF A p w then 1 else 0) = 1 := if_pos (by omega)
          have e2 : (if 0 < cG A p v then 1 else 0) = 1 := if_pos (by omega)
          have e3 : (if 0 < cF A p w ∧ 0 < cG A p v then 1 else 0) = 1 := if_pos (by omega)
          refine ih (p + 1) _ (by omega) (by omega) ((hs.tr (zS6.up I1 22 _ (by decide))).tr (zS6.up _ 23 _ (by decide))) ?_ ?_
          · rw [zz_up_eq, zz_upn (by decide), zz_up_eq, zz_ups, pbo, e3]; congr 1
          · rw [zz_up_eq, zz_ups, pei, e1, e2]

set_option maxRecDepth 100000 in
set_option maxHeartbeats 4000000 in
theorem c_X7_layGoes {sc : Nat × (Nat → Int32)} {d : Nat} (I : Nat → Nat → Int32) (J : Nat → Nat → Int64) (A : zA) (hV : MV (zVm I) A) (hW : WF A) (w v : Nat) (hw : w < 16) (hv : v < 16) : EvM sc (d + 1) 0 0 mX7_layGoes [.ref 359, .int (nI w), .int (nI v)] (zz_SH, I, J) (fun r σ => r = none ∧ ∃ I' : Nat → Nat → Int32, zS6 I I' ∧ I' 359 22 = nI (2 * pbo A w v (aN A)) ∧ I' 359 23 = nI (pei A w v (aN A)) ∧ σ = (zz_SH, I', J)) := by
  have w1 := hW.1.1
  have w2 := hW.1.2.1
  refine EvM.of (by decide) rfl (Nat.le_of_ble_eq_true rfl) ?_
  show Ev _ _ _ _ _ 0 [some (.ref 359), some (.int (nI w)), some (.int (nI v)), none, none, none] [] (zz_SH, I, J) _
  refine Ev.run [(.aload_n 0, 1), (.iconst 0, 1)] (pc' := 2) (L' := [some (.ref 359), some (.int (nI w)), some (.int (nI v)), none, none, none]) (S' := [.int (nI 0), .ref 359]) rfl (by decide +kernel) rfl ?_
  refine Ev.putf (idx := 174) rfl rfl rfl (by decide +kernel) (rfl) rfl ?_
  dsimp only
  refine Ev.run [(.aload_n 0, 1), (.iconst 0, 1)] (pc' := 7) (L' := [some (.ref 359), some (.int (nI w)), some (.int (nI v)), none, none, none]) (S' := [.int (nI 0), .ref 359]) rfl (by decide +kernel) rfl ?_
  refine Ev.putf (idx := 177) rfl rfl rfl (by decide +kernel) (rfl) rfl ?_
  dsimp only
  refine Ev.run [(.iconst 0, 1), (.istore_n 3, 1)] (pc' := 12) (L' := [some (.ref 359), some (.int (nI w)), some (.int (nI v)), some (.int (nI 0)), none, none]) (S' := []) rfl (by decide +kernel) rfl ?_
  refine l_X7_layGoes I J A hV hW w v hw hv (aN A + 1) 0 _ (by omega) (by omega) ((zS6.up I 22 _ (by decide)).tr (zS6.up _ 23 _ (by decide))) ?_ ?_
  · rw [zz_up_eq, zz_upn (by decide), zz_up_eq, zz_ups]; rfl
  · rw [zz_up_eq, zz_ups]; rfl
end
section
/-! ===== the model: goes, learnt, clash ===== -/
def gsu (A : zA) (w v : Nat) : Nat := if pei A w v (aN A) = 0 then 0 else 2 * pbo A w v (aN A) / Nat.gcd (2 * pbo A w v (aN A)) (pei A w v (aN A))
def gsl (A : zA) (w v : Nat) : Nat := if pei A w v (aN A) = 0 then 1 else pei A w v (aN A) / Nat.gcd (2 * pbo A w v (aN A)) (pei A w v (aN A))
theorem zz_gcd {a b : Nat} : Nat.gcd b (a % b) = Nat.gcd a b := by
  rw [Nat.gcd_comm a b, Nat.gcd_rec b a, Nat.gcd_comm]

set_option maxRecDepth 100000 in
set_option maxHeartbeats 4000000 in
theorem c_X7_goes_u {sc : Nat × (Nat → Int32)} {d : Nat} (I : Nat → Nat → Int32) (J : Nat → Nat → Int64) (x y z : Int32) (hxy : ¬ (zz_ix x 16 ∧ zz_ix y 16)) : EvM sc (d + 2) 0 0 mX7_goes [.ref 359, .int x, .int y, .int z] (zz_SH, I, J) (fun r σ => r = some (.long ((-1000000000000000001))) ∧ σ = (zz_SH, I, J)) := by
  refine EvM.of (by decide) rfl (Nat.le_of_ble_eq_true rfl) ?_
  show Ev _ _ _ _ _ 0 [some (.ref 359), some (.int x), some (.int y), some (.int z), none, none, none] [] (zz_SH, I, J) _
  refine Ev.run [(.iload_n 1, 1)] (pc' := 1) (L' := [some (.ref 359), some (.int x), some (.int y), some (.int z), none, none, none]) (S' := [.int x]) rfl (by decide +kernel) rfl ?_
  refine Ev.callS0 mX7_isWord [.int x] [] _ rfl lk_RX7_162 (by decide +kernel) rfl (Nat.le_of_ble_eq_true rfl) (c_X7_isWord I J x) ?_
  rintro _ _ ⟨rfl, ⟨rfl, h1⟩ | ⟨rfl, h1⟩⟩
  · show Ev _ _ _ _ _ 4 [some (.ref 359), some (.int x), some (.int y), some (.int z), none, none, none] [.int (nI 1)] (zz_SH, I, J) _
    refine Ev.if_eq (off := 10) (tgt := 14) (by decide +kernel) (by decide) (fun h4 => absurd h4 (by decide)) (fun h4 => ?_)
    refine Ev.run [(.iload_n 2, 1)] (pc' := 8) (L' := [some (.ref 359), some (.int x), some (.int y), some (.int z), none, none, none]) (S' := [.int y]) rfl (by decide +kernel) rfl ?_
    refine Ev.callS0 mX7_isWord [.int y] [] _ rfl lk_RX7_162 (by decide +kernel) rfl (Nat.le_of_ble_eq_true rfl) (c_X7_isWord I J y) ?_
    rintro _ _ ⟨rfl, ⟨rfl, h8⟩ | ⟨rfl, h8⟩⟩
    · exact absurd ⟨h1, h8⟩ hxy
    · show Ev _ _ _ _ _ 11 [some (.ref 359), some (.int x), some (.int y), some (.int z), none, none, none] [.int (nI 0)] (zz_SH, I, J) _
      refine Ev.if_ne (off := 7) (tgt := 18) (by decide +kernel) (by decide) (fun h11 => absurd h11 (by decide)) (fun h11 => ?_)
      refine Ev.ldc2 (idx := 180) (v := (-1000000000000000001)) (by decide +kernel) (by decide +kernel) ?_
      exact Ev.lret rfl (by decide +kernel) (⟨rfl, rfl⟩)
  · show Ev _ _ _ _ _ 4 [some (.ref 359), some (.int x), some (.int y), some (.int z), none, none, none] [.int (nI 0)] (zz_SH, I, J) _
    refine Ev.if_eq (off := 10) (tgt := 14) (by decide +kernel) (by decide) (fun h4 => ?_) (fun h4 => absurd h4 (by decide))
    refine Ev.ldc2 (idx := 180) (v := (-1000000000000000001)) (by decide +kernel) (by decide +kernel) ?_
    exact Ev.lret rfl (by decide +kernel) (⟨rfl, rfl⟩)

set_option maxRecDepth 100000 in
set_option maxHeartbeats 4000000 in
theorem c_X7_goes_o {sc : Nat × (Nat → Int32)} {d : Nat} (I : Nat → Nat → Int32) (J : Nat → Nat → Int64) (w v : Nat) (hw : w < 16) (hv : v < 16) (z : Int32) (hz : ¬ zz_ix z 2) : EvM sc (d + 2) 0 0 mX7_goes [.ref 359, .int (nI w), .int (nI v), .int z] (zz_SH, I, J) (fun r σ => r = some (.long ((-1000000000000000002))) ∧ σ = (zz_SH, I, J)) := by
  refine EvM.of (by decide) rfl (Nat.le_of_ble_eq_true rfl) ?_
  show Ev _ _ _ _ _ 0 [some (.ref 359), some (.int (nI w)), some (.int (nI v)), some (.int z), none, none, none] [] (zz_SH, I, J) _
  refine Ev.run [(.iload_n 1, 1)] (pc' := 1) (L' := [some (.ref 359), some (.int (nI w)), some (.int (nI v)), some (.int z), none, none, none]) (S' := [.int (nI w)]) rfl (by decide +kernel) rfl ?_
  refine Ev.callS0 mX7_isWord [.int (nI w)] [] _ rfl lk_RX7_162 (by decide +kernel) rfl (Nat.le_of_ble_eq_true rfl) (c_X7_isWord I J (nI w)) ?_
  rintro _ _ ⟨rfl, ⟨rfl, h1⟩ | ⟨rfl, h1⟩⟩
  · show Ev _ _ _ _ _ 4 [some (.ref 359), some (.int (nI w)), some (.int (nI v)), some (.int z), none, none, none] [.int (nI 1)] (zz_SH, I, J) _
    refine Ev.if_eq (off := 10) (tgt := 14) (by decide +kernel) (by decide) (fun h4 => absurd h4 (by decide)) (fun h4 => ?_)
    refine Ev.run [(.iload_n 2, 1)] (pc' := 8) (L' := [some (.ref 359), some (.int (nI w)), some (.int (nI v)), some (.int z), none, none, none]) (S' := [.int (nI v)]) rfl (by decide +kernel) rfl ?_
    refine Ev.callS0 mX7_isWord [.int (nI v)] [] _ rfl lk_RX7_162 (by decide +kernel) rfl (Nat.le_of_ble_eq_true rfl) (c_X7_isWord I J (nI v)) ?_
    rintro _ _ ⟨rfl, ⟨rfl, h8⟩ | ⟨rfl, h8⟩⟩
    · show Ev _ _ _ _ _ 11 [some (.ref 359), some (.int (nI w)), some (.int (nI v)), some (.int z), none, none, none] [.int (nI 1)] (zz_SH, I, J) _
      refine Ev.if_ne (off := 7) (tgt := 18) (by decide +kernel) (by decide) (fun h11 => ?_) (fun h11 => absurd h11 (by decide))
      refine Ev.run [(.iload_n 3, 1), (.iconst 0, 1), (.iconst 1, 1)] (pc' := 21) (L' := [some (.ref 359), some (.int (nI w)), some (.int (nI v)), some (.int z), none, none, none]) (S' := [.int (nI 1), .int (nI 0), .int z]) rfl (by decide +kernel) rfl ?_
      refine Ev.callS0 mX7_in [.int z, .int (nI 0), .int (nI 1)] [] _ rfl lk_RX7_79 (by decide +kernel) rfl (Nat.le_of_ble_eq_true rfl) (c_X7_in I J z (nI 0) (nI 1)) ?_
      rintro _ _ ⟨rfl, ⟨rfl, h21⟩ | ⟨rfl, h21⟩⟩
      · rw [show (nI 1 : Int32) = nI 2 - nI 1 by decide, zz_ix_iff (by decide)] at h21; exact absurd h21 hz
      · show Ev _ _ _ _ _ 24 [some (.ref 359), some (.int (nI w)), some (.int (nI v)), some (.int z), none, none, none] [.int (nI 0)] (zz_SH, I, J) _
        refine Ev.if_ne (off := 7) (tgt := 31) (by decide +kernel) (by decide) (fun h24 => absurd h24 (by decide)) (fun h24 => ?_)
        refine Ev.ldc2 (idx := 182) (v := (-1000000000000000002)) (by decide +kernel) (by decide +kernel) ?_
        exact Ev.lret rfl (by decide +kernel) (⟨rfl, rfl⟩)
    · exact absurd ⟨v, hv, rfl⟩ h8
  · exact absurd ⟨w, hw, rfl⟩ h1

set_option maxRecDepth 100000 in
set_option maxHeartbeats 4000000 in
theorem l_X7_goes_0 {sc : Nat × (Nat → Int32)} {d : Nat} (I : Nat → Nat → Int32) (J : Nat → Nat → Int64) (A : zA) (hV : MV (zVm I) A) (hW : WF A) (w v : Nat) (hw : w < 16) (hv : v < 16) (I1 : Nat → Nat → Int32) (hs1 : zS6 I I1) (hu : I1 359 22 = nI (2 * pbo A w v (aN A))) (hl : I1 359 23 = nI (pei A w v (aN A))) (hne : ¬ pei A w v (aN A) = 0) : ∀ (μ : Nat) (a : Nat) (b : Nat), b < μ → (a ≤ 100) → (b ≤ 100) → (Nat.gcd a b = Nat.gcd (2 * pbo A w v (aN A)) (pei A w v (aN A))) →  Ev sc (d + 2) 0 0 mX7_goes 59 [some (.ref 359), some (.int (nI w)), some (.int (nI v)), some (.int (nI 0)), some (.int (nI a)), some (.int (nI b)), none] [] (zz_SH, I1, J) (fun r σ => r = some (.long (Int32.toInt64 (nI (gsu A w v)))) ∧ ∃ I' : Nat → Nat → Int32, zSc I I' ∧ σ = (zz_SH, I', J)) := by
  intro μ
  induction μ with
  | zero => intro a b hμ; exact absurd hμ (Nat.not_lt_zero _)
  | succ μ ih =>
    intro a b hμ ha hb hg
    have w1 := hW.1.1
    have w2 := hW.1.2.1
    have c8 := pbo_le A w v (aN A)
    have c9 := pei_le A w v (aN A)
    refine Ev.run [(.iload 5, 2)] (pc' := 61) (L' := [some (.ref 359), some (.int (nI w)), some (.int (nI v)), some (.int (nI 0)), some (.int (nI a)), some (.int (nI b)), none]) (S' := [.int (nI b)]) rfl (by decide +kernel) rfl ?_
    refine Ev.if_eq (off := 21) (tgt := 82) (by decide +kernel) (by decide) (fun h61 => ?_) (fun h61 => ?_)
    · have h61 : b = 0 := zz_bE_t (by omega) (by omega) h61
      have hga : a = Nat.gcd (2 * pbo A w v (aN A)) (pei A w v (aN A)) := by rw [← hg, h61, Nat.gcd_zero_right]
      have hpos : 0 < a := by rw [hga]; exact Nat.gcd_pos_of_pos_right _ (by omega)
      refine Ev.run [(.iload_n 3, 1)] (pc' := 83) (L' := [some (.ref 359), some (.int (nI w)), some (.int (nI v)), some (.int (nI 0)), some (.int (nI a)), some (.int (nI b)), none]) (S' := [.int (nI 0)]) rfl (by decide +kernel) rfl ?_
      refine Ev.if_ne (off := 14) (tgt := 97) (by decide +kernel) (by decide) (fun h83 => absurd h83 (by decide)) (fun h83 => ?_)
      refine Ev.run [(.aload_n 0, 1), (.getfield 174, 3)] (pc' := 90) (L' := [some (.ref 359), some (.int (nI w)), some (.int (nI v)), some (.int (nI 0)), some (.int (nI a)), some (.int (nI b)), none]) (S' := [.int (I1 359 22)]) rfl (by decide +kernel) rfl ?_
      rw [hu]
      refine Ev.run [(.iload 4, 2)] (pc' := 92) (L' := [some (.ref 359), some (.int (nI w)), some (.int (nI v)), some (.int (nI 0)), some (.int (nI a)), some (.int (nI b)), none]) (S' := [.int (nI a), .int (nI (2 * pbo A w v (aN A)))]) rfl (by decide +kernel) rfl ?_
      refine Ev.idiv (by decide +kernel) (nI_ne0 hpos (by omega)) ?_
      rw [show nI (2 * pbo A w v (aN A)) / nI a = nI (2 * pbo A w v (aN A) / a) from pk_div (by omega) hpos (by omega)]
      refine Ev.run [(.i2l, 1)] (pc' := 94) (L' := [some (.ref 359), some (.int (nI w)), some (.int (nI v)), some (.int (nI 0)), some (.int (nI a)), some (.int (nI b)), none]) (S' := [.long (Int32.toInt64 (nI (2 * pbo A w v (aN A) / a)))]) rfl (by decide +kernel) rfl ?_
      refine Ev.goto (off := 11) (tgt := 105) (by decide +kernel) (by decide) ?_
      exact Ev.lret rfl (by decide +kernel) (⟨by rw [gsu, if_neg hne, hga], I1, hs1.sc, rfl⟩)
    · have h61 : ¬ b = 0 := zz_bE_f (by omega) (by omega) h61
      refine Ev.run [(.iload 4, 2), (.iload 5, 2)] (pc' := 68) (L' := [some (.ref 359), some (.int (nI w)), some (.int (nI v)), some (.int (nI 0)), some (.int (nI a)), some (.int (nI b)), none]) (S' := [.int (nI b), .int (nI a)]) rfl (by decide +kernel) rfl ?_
      refine Ev.irem (by decide +kernel) (nI_ne0 (by omega) (by omega)) ?_
      rw [show nI a - nI a / nI b * nI b = nI (a % b) from pk_rem (by omega) (by omega) (by omega)]
      refine Ev.run [(.istore 6, 2), (.iload 5, 2), (.istore 4, 2), (.iload 6, 2), (.istore 5, 2)] (pc' := 79) (L' := [some (.ref 359), some (.int (nI w)), some (.int (nI v)), some (.int (nI 0)), some (.int (nI b)), some (.int (nI (a % b))), some (.int (nI (a % b)))]) (S' := []) rfl (by decide +kernel) rfl ?_
      refine Ev.goto (off := (-20)) (tgt := 59) (by decide +kernel) (by decide) ?_
      refine Ev.weakL (L' := [some (.ref 359), some (.int (nI w)), some (.int (nI v)), some (.int (nI 0)), some (.int (nI b)), some (.int (nI (a % b))), none]) ⟨rfl, rfl, rfl, rfl, rfl, rfl, trivial⟩ ?_
      exact ih b (a % b) (by have := Nat.mod_lt a (show 0 < b by omega); omega) (by omega) (by have := Nat.mod_lt a (show 0 < b by omega); omega) (by rw [zz_gcd]; exact hg)

set_option maxRecDepth 100000 in
set_option maxHeartbeats 4000000 in
theorem c_X7_goes_0 {sc : Nat × (Nat → Int32)} {d : Nat} (I : Nat → Nat → Int32) (J : Nat → Nat → Int64) (A : zA) (hV : MV (zVm I) A) (hW : WF A) (w v : Nat) (hw : w < 16) (hv : v < 16) : EvM sc (d + 2) 0 0 mX7_goes [.ref 359, .int (nI w), .int (nI v), .int (nI 0)] (zz_SH, I, J) (fun r σ => r = some (.long (Int32.toInt64 (nI (gsu A w v)))) ∧ ∃ I' : Nat → Nat → Int32, zSc I I' ∧ σ = (zz_SH, I', J)) := by
  have w1 := hW.1.1
  have w2 := hW.1.2.1
  have c8 := pbo_le A w v (aN A)
  have c9 := pei_le A w v (aN A)
  refine EvM.of (by decide) rfl (Nat.le_of_ble_eq_true rfl) ?_
  show Ev _ _ _ _ _ 0 [some (.ref 359), some (.int (nI w)), some (.int (nI v)), some (.int (nI 0)), none, none, none] [] (zz_SH, I, J) _
  refine Ev.run [(.iload_n 1, 1)] (pc' := 1) (L' := [some (.ref 359), some (.int (nI w)), some (.int (nI v)), some (.int (nI 0)), none, none, none]) (S' := [.int (nI w)]) rfl (by decide +kernel) rfl ?_
  refine Ev.callS0 mX7_isWord [.int (nI w)] [] _ rfl lk_RX7_162 (by decide +kernel) rfl (Nat.le_of_ble_eq_true rfl) (c_X7_isWord I J (nI w)) ?_
  rintro _ _ ⟨rfl, ⟨rfl, h1⟩ | ⟨rfl, h1⟩⟩
  · show Ev _ _ _ _ _ 4 [some (.ref 359), some (.int (nI w)), some (.int (nI v)), some (.int (nI 0)), none, none, none] [.int (nI 1)] (zz_SH, I, J) _
    refine Ev.if_eq (off := 10) (tgt := 14) (by decide +kernel) (by decide) (fun h4 => absurd h4 (by decide)) (fun h4 => ?_)
    refine Ev.run [(.iload_n 2, 1)] (pc' := 8) (L' := [some (.ref 359), some (.int (nI w)), some (.int (nI v)), some (.int (nI 0)), none, none, none]) (S' := [.int (nI v)]) rfl (by decide +kernel) rfl ?_
    refine Ev.callS0 mX7_isWord [.int (nI v)] [] _ rfl lk_RX7_162 (by decide +kernel) rfl (Nat.le_of_ble_eq_true rfl) (c_X7_isWord I J (nI v)) ?_
    rintro _ _ ⟨rfl, ⟨rfl, h8⟩ | ⟨rfl, h8⟩⟩
    · show Ev _ _ _ _ _ 11 [some (.ref 359), some (.int (nI w)), some (.int (nI v)), some (.int (nI 0)), none, none, none] [.int (nI 1)] (zz_SH, I, J) _
      refine Ev.if_ne (off := 7) (tgt := 18) (by decide +kernel) (by decide) (fun h11 => ?_) (fun h11 => absurd h11 (by decide))
      refine Ev.run [(.iload_n 3, 1), (.iconst 0, 1), (.iconst 1, 1)] (pc' := 21) (L' := [some (.ref 359), some (.int (nI w)), some (.int (nI v)), some (.int (nI 0)), none, none, none]) (S' := [.int (nI 1), .int (nI 0), .int (nI 0)]) rfl (by decide +kernel) rfl ?_
      refine Ev.callS0 mX7_in [.int (nI 0), .int (nI 0), .int (nI 1)] [] _ rfl lk_RX7_79 (by decide +kernel) rfl (Nat.le_of_ble_eq_true rfl) (c_X7_in I J (nI 0) (nI 0) (nI 1)) ?_
      rintro _ _ ⟨rfl, ⟨rfl, h21⟩ | ⟨rfl, h21⟩⟩
      · show Ev _ _ _ _ _ 24 [some (.ref 359), some (.int (nI w)), some (.int (nI v)), some (.int (nI 0)), none, none, none] [.int (nI 1)] (zz_SH, I, J) _
        refine Ev.if_ne (off := 7) (tgt := 31) (by decide +kernel) (by decide) (fun h24 => ?_) (fun h24 => absurd h24 (by decide))
        refine Ev.run [(.aload_n 0, 1), (.iload_n 1, 1), (.iload_n 2, 1)] (pc' := 34) (L' := [some (.ref 359), some (.int (nI w)), some (.int (nI v)), some (.int (nI 0)), none, none, none]) (S' := [.int (nI v), .int (nI w), .ref 359]) rfl (by decide +kernel) rfl ?_
        refine Ev.callV0 mX7_layGoes [.int (nI w), .int (nI v)] [] _ rfl lk_RX7_184 (by decide +kernel) (rfl) rfl rfl rfl (Nat.le_of_ble_eq_true rfl) (c_X7_layGoes I J A hV hW w v hw hv) ?_
        rintro _ _ ⟨rfl, I1, hs1, hu, hl, rfl⟩
        show Ev _ _ _ _ _ 37 [some (.ref 359), some (.int (nI w)), some (.int (nI v)), some (.int (nI 0)), none, none, none] [] (zz_SH, I1, J) _
        refine Ev.run [(.aload_n 0, 1), (.getfield 177, 3)] (pc' := 41) (L' := [some (.ref 359), some (.int (nI w)), some (.int (nI v)), some (.int (nI 0)), none, none, none]) (S' := [.int (I1 359 23)]) rfl (by decide +kernel) rfl ?_
        rw [hl]
        refine Ev.if_ne (off := 6) (tgt := 47) (by decide +kernel) (by decide) (fun h41 => ?_) (fun h41 => ?_)
        · have h41 : ¬ (pei A w v (aN A)) = 0 := zz_bE_f (by omega) (by omega) h41
          refine Ev.run [(.aload_n 0, 1), (.getfield 174, 3)] (pc' := 51) (L' := [some (.ref 359), some (.int (nI w)), some (.int (nI v)), some (.int (nI 0)), none, none, none]) (S' := [.int (I1 359 22)]) rfl (by decide +kernel) rfl ?_
          rw [hu]
          refine Ev.run [(.istore 4, 2), (.aload_n 0, 1), (.getfield 177, 3)] (pc' := 57) (L' := [some (.ref 359), some (.int (nI w)), some (.int (nI v)), some (.int (nI 0)), some (.int (nI (2 * pbo A w v (aN A)))), none, none]) (S' := [.int (I1 359 23)]) rfl (by decide +kernel) rfl ?_
          rw [hl]
          refine Ev.run [(.istore 5, 2)] (pc' := 59) (L' := [some (.ref 359), some (.int (nI w)), some (.int (nI v)), some (.int (nI 0)), some (.int (nI (2 * pbo A w v (aN A)))), some (.int (nI (pei A w v (aN A)))), none]) (S' := []) rfl (by decide +kernel) rfl ?_
          exact l_X7_goes_0 I J A hV hW w v hw hv I1 hs1 hu hl h41 (pei A w v (aN A) + 1) _ _ (by omega) (by omega) (by omega) rfl
        · have h41 : (pei A w v (aN A)) = 0 := zz_bE_t (by omega) (by omega) h41
          refine Ev.run [(.iload_n 3, 1), (.i2l, 1)] (pc' := 46) (L' := [some (.ref 359), some (.int (nI w)), some (.int (nI v)), some (.int (nI 0)), none, none, none]) (S' := [.long (Int32.toInt64 (nI 0))]) rfl (by decide +kernel) rfl ?_
          exact Ev.lret rfl (by decide +kernel) (⟨by rw [gsu, if_pos h41], I1, hs1.sc, rfl⟩)
      · exact absurd (by decide) h21
    · exact absurd ⟨v, hv, rfl⟩ h8
  · exact absurd ⟨w, hw, rfl⟩ h1

set_option maxRecDepth 100000 in
set_option maxHeartbeats 4000000 in
theorem l_X7_goes_1 {sc : Nat × (Nat → Int32)} {d : Nat} (I : Nat → Nat → Int32) (J : Nat → Nat → Int64) (A : zA) (hV : MV (zVm I) A) (hW : WF A) (w v : Nat) (hw : w < 16) (hv : v < 16) (I1 : Nat → Nat → Int32) (hs1 : zS6 I I1) (hu : I1 359 22 = nI (2 * pbo A w v (aN A))) (hl : I1 359 23 = nI (pei A w v (aN A))) (hne : ¬ pei A w v (aN A) = 0) : ∀ (μ : Nat) (a : Nat) (b : Nat), b < μ → (a ≤ 100) → (b ≤ 100) → (Nat.gcd a b = Nat.gcd (2 * pbo A w v (aN A)) (pei A w v (aN A))) →  Ev sc (d + 2) 0 0 mX7_goes 59 [some (.ref 359), some (.int (nI w)), some (.int (nI v)), some (.int (nI 1)), some (.int (nI a)), some (.int (nI b)), none] [] (zz_SH, I1, J) (fun r σ => r = some (.long (Int32.toInt64 (nI (gsl A w v)))) ∧ ∃ I' : Nat → Nat → Int32, zSc I I' ∧ σ = (zz_SH, I', J)) := by
  intro μ
  induction μ with
  | zero => intro a b hμ; exact absurd hμ (Nat.not_lt_zero _)
  | succ μ ih =>
    intro a b hμ ha hb hg
    have w1 := hW.1.1
    have w2 := hW.1.2.1
    have c8 := pbo_le A w v (aN A)
    have c9 := pei_le A w v (aN A)
    refine Ev.run [(.iload 5, 2)] (pc' := 61) (L' := [some (.ref 359), some (.int (nI w)), some (.int (nI v)), some (.int (nI 1)), some (.int (nI a)), some (.int (nI b)), none]) (S' := [.int (nI b)]) rfl (by decide +kernel) rfl ?_
    refine Ev.if_eq (off := 21) (tgt := 82) (by decide +kernel) (by decide) (fun h61 => ?_) (fun h61 => ?_)
    · have h61 : b = 0 := zz_bE_t (by omega) (by omega) h61
      have hga : a = Nat.gcd (2 * pbo A w v (aN A)) (pei A w v (aN A)) := by rw [← hg, h61, Nat.gcd_zero_right]
      have hpos : 0 < a := by rw [hga]; exact Nat.gcd_pos_of_pos_right _ (by omega)
      refine Ev.run [(.iload_n 3, 1)] (pc' := 83) (L' := [some (.ref 359), some (.int (nI w)), some (.int (nI v)), some (.int (nI 1)), some (.int (nI a)), some (.int (nI b)), none]) (S' := [.int (nI 1)]) rfl (by decide +kernel) rfl ?_
      refine Ev.if_ne (off := 14) (tgt := 97) (by decide +kernel) (by decide) (fun h83 => ?_) (fun h83 => absurd h83 (by decide))
      refine Ev.run [(.aload_n 0, 1), (.getfield 177, 3)] (pc' := 101) (L' := [some (.ref 359), some (.int (nI w)), some (.int (nI v)), some (.int (nI 1)), some (.int (nI a)), some (.int (nI b)), none]) (S' := [.int (I1 359 23)]) rfl (by decide +kernel) rfl ?_
      rw [hl]
      refine Ev.run [(.iload 4, 2)] (pc' := 103) (L' := [some (.ref 359), some (.int (nI w)), some (.int (nI v)), some (.int (nI 1)), some (.int (nI a)), some (.int (nI b)), none]) (S' := [.int (nI a), .int (nI (pei A w v (aN A)))]) rfl (by decide +kernel) rfl ?_
      refine Ev.idiv (by decide +kernel) (nI_ne0 hpos (by omega)) ?_
      rw [show nI (pei A w v (aN A)) / nI a = nI (pei A w v (aN A) / a) from pk_div (by omega) hpos (by omega)]
      refine Ev.run [(.i2l, 1)] (pc' := 105) (L' := [some (.ref 359), some (.int (nI w)), some (.int (nI v)), some (.int (nI 1)), some (.int (nI a)), some (.int (nI b)), none]) (S' := [.long (Int32.toInt64 (nI (pei A w v (aN A) / a)))]) rfl (by decide +kernel) rfl ?_
      exact Ev.lret rfl (by decide +kernel) (⟨by rw [gsl, if_neg hne, hga], I1, hs1.sc, rfl⟩)
    · have h61 : ¬ b = 0 := zz_bE_f (by omega) (by omega) h61
      refine Ev.run [(.iload 4, 2), (.iload 5, 2)] (pc' := 68) (L' := [some (.ref 359), some (.int (nI w)), some (.int (nI v)), some (.int (nI 1)), some (.int (nI a)), some (.int (nI b)), none]) (S' := [.int (nI b), .int (nI a)]) rfl (by decide +kernel) rfl ?_
      refine Ev.irem (by decide +kernel) (nI_ne0 (by omega) (by omega)) ?_
      rw [show nI a - nI a / nI b * nI b = nI (a % b) from pk_rem (by omega) (by omega) (by omega)]
      refine Ev.run [(.istore 6, 2), (.iload 5, 2), (.istore 4, 2), (.iload 6, 2), (.istore 5, 2)] (pc' := 79) (L' := [some (.ref 359), some (.int (nI w)), some (.int (nI v)), some (.int (nI 1)), some (.int (nI b)), some (.int (nI (a % b))), some (.int (nI (a % b)))]) (S' := []) rfl (by decide +kernel) rfl ?_
      refine Ev.goto (off := (-20)) (tgt := 59) (by decide +kernel) (by decide) ?_
      refine Ev.weakL (L' := [some (.ref 359), some (.int (nI w)), some (.int (nI v)), some (.int (nI 1)), some (.int (nI b)), some (.int (nI (a % b))), none]) ⟨rfl, rfl, rfl, rfl, rfl, rfl, trivial⟩ ?_
      exact ih b (a % b) (by have := Nat.mod_lt a (show 0 < b by omega); omega) (by omega) (by have := Nat.mod_lt a (show 0 < b by omega); omega) (by rw [zz_gcd]; exact hg)

set_option maxRecDepth 100000 in
set_option maxHeartbeats 4000000 in
theorem c_X7_goes_1 {sc : Nat × (Nat → Int32)} {d : Nat} (I : Nat → Nat → Int32) (J : Nat → Nat → Int64) (A : zA) (hV : MV (zVm I) A) (hW : WF A) (w v : Nat) (hw : w < 16) (hv : v < 16) : EvM sc (d + 2) 0 0 mX7_goes [.ref 359, .int (nI w), .int (nI v), .int (nI 1)] (zz_SH, I, J) (fun r σ => r = some (.long (Int32.toInt64 (nI (gsl A w v)))) ∧ ∃ I' : Nat → Nat → Int32, zSc I I' ∧ σ = (zz_SH, I', J)) := by
  have w1 := hW.1.1
  have w2 := hW.1.2.1
  have c8 := pbo_le A w v (aN A)
  have c9 := pei_le A w v (aN A)
  refine EvM.of (by decide) rfl (Nat.le_of_ble_eq_true rfl) ?_
  show Ev _ _ _ _ _ 0 [some (.ref 359), some (.int (nI w)), some (.int (nI v)), some (.int (nI 1)), none, none, none] [] (zz_SH, I, J) _
  refine Ev.run [(.iload_n 1, 1)] (pc' := 1) (L' := [some (.ref 359), some (.int (nI w)), some (.int (nI v)), some (.int (nI 1)), none, none, none]) (S' := [.int (nI w)]) rfl (by decide +kernel) rfl ?_
  refine Ev.callS0 mX7_isWord [.int (nI w)] [] _ rfl lk_RX7_162 (by decide +kernel) rfl (Nat.le_of_ble_eq_true rfl) (c_X7_isWord I J (nI w)) ?_
  rintro _ _ ⟨rfl, ⟨rfl, h1⟩ | ⟨rfl, h1⟩⟩
  · show Ev _ _ _ _ _ 4 [some (.ref 359), some (.int (nI w)), some (.int (nI v)), some (.int (nI 1)), none, none, none] [.int (nI 1)] (zz_SH, I, J) _
    refine Ev.if_eq (off := 10) (tgt := 14) (by decide +kernel) (by decide) (fun h4 => absurd h4 (by decide)) (fun h4 => ?_)
    refine Ev.run [(.iload_n 2, 1)] (pc' := 8) (L' := [some (.ref 359), some (.int (nI w)), some (.int (nI v)), some (.int (nI 1)), none, none, none]) (S' := [.int (nI v)]) rfl (by decide +kernel) rfl ?_
    refine Ev.callS0 mX7_isWord [.int (nI v)] [] _ rfl lk_RX7_162 (by decide +kernel) rfl (Nat.le_of_ble_eq_true rfl) (c_X7_isWord I J (nI v)) ?_
    rintro _ _ ⟨rfl, ⟨rfl, h8⟩ | ⟨rfl, h8⟩⟩
    · show Ev _ _ _ _ _ 11 [some (.ref 359), some (.int (nI w)), some (.int (nI v)), some (.int (nI 1)), none, none, none] [.int (nI 1)] (zz_SH, I, J) _
      refine Ev.if_ne (off := 7) (tgt := 18) (by decide +kernel) (by decide) (fun h11 => ?_) (fun h11 => absurd h11 (by decide))
      refine Ev.run [(.iload_n 3, 1), (.iconst 0, 1), (.iconst 1, 1)] (pc' := 21) (L' := [some (.ref 359), some (.int (nI w)), some (.int (nI v)), some (.int (nI 1)), none, none, none]) (S' := [.int (nI 1), .int (nI 0), .int (nI 1)]) rfl (by decide +kernel) rfl ?_
      refine Ev.callS0 mX7_in [.int (nI 1), .int (nI 0), .int (nI 1)] [] _ rfl lk_RX7_79 (by decide +kernel) rfl (Nat.le_of_ble_eq_true rfl) (c_X7_in I J (nI 1) (nI 0) (nI 1)) ?_
      rintro _ _ ⟨rfl, ⟨rfl, h21⟩ | ⟨rfl, h21⟩⟩
      · show Ev _ _ _ _ _ 24 [some (.ref 359), some (.int (nI w)), some (.int (nI v)), some (.int (nI 1)), none, none, none] [.int (nI 1)] (zz_SH, I, J) _
        refine Ev.if_ne (off := 7) (tgt := 31) (by decide +kernel) (by decide) (fun h24 => ?_) (fun h24 => absurd h24 (by decide))
        refine Ev.run [(.aload_n 0, 1), (.iload_n 1, 1), (.iload_n 2, 1)] (pc' := 34) (L' := [some (.ref 359), some (.int (nI w)), some (.int (nI v)), some (.int (nI 1)), none, none, none]) (S' := [.int (nI v), .int (nI w), .ref 359]) rfl (by decide +kernel) rfl ?_
        refine Ev.callV0 mX7_layGoes [.int (nI w), .int (nI v)] [] _ rfl lk_RX7_184 (by decide +kernel) (rfl) rfl rfl rfl (Nat.le_of_ble_eq_true rfl) (c_X7_layGoes I J A hV hW w v hw hv) ?_
        rintro _ _ ⟨rfl, I1, hs1, hu, hl, rfl⟩
        show Ev _ _ _ _ _ 37 [some (.ref 359), some (.int (nI w)), some (.int (nI v)), some (.int (nI 1)), none, none, none] [] (zz_SH, I1, J) _
        refine Ev.run [(.aload_n 0, 1), (.getfield 177, 3)] (pc' := 41) (L' := [some (.ref 359), some (.int (nI w)), some (.int (nI v)), some (.int (nI 1)), none, none, none]) (S' := [.int (I1 359 23)]) rfl (by decide +kernel) rfl ?_
        rw [hl]
        refine Ev.if_ne (off := 6) (tgt := 47) (by decide +kernel) (by decide) (fun h41 => ?_) (fun h41 => ?_)
        · have h41 : ¬ (pei A w v (aN A)) = 0 := zz_bE_f (by omega) (by omega) h41
          refine Ev.run [(.aload_n 0, 1), (.getfield 174, 3)] (pc' := 51) (L' := [some (.ref 359), some (.int (nI w)), some (.int (nI v)), some (.int (nI 1)), none, none, none]) (S' := [.int (I1 359 22)]) rfl (by decide +kernel) rfl ?_
          rw [hu]
          refine Ev.run [(.istore 4, 2), (.aload_n 0, 1), (.getfield 177, 3)] (pc' := 57) (L' := [some (.ref 359), some (.int (nI w)), some (.int (nI v)), some (.int (nI 1)), some (.int (nI (2 * pbo A w v (aN A)))), none, none]) (S' := [.int (I1 359 23)]) rfl (by decide +kernel) rfl ?_
          rw [hl]
          refine Ev.run [(.istore 5, 2)] (pc' := 59) (L' := [some (.ref 359), some (.int (nI w)), some (.int (nI v)), some (.int (nI 1)), some (.int (nI (2 * pbo A w v (aN A)))), some (.int (nI (pei A w v (aN A)))), none]) (S' := []) rfl (by decide +kernel) rfl ?_
          exact l_X7_goes_1 I J A hV hW w v hw hv I1 hs1 hu hl h41 (pei A w v (aN A) + 1) _ _ (by omega) (by omega) (by omega) rfl
        · have h41 : (pei A w v (aN A)) = 0 := zz_bE_t (by omega) (by omega) h41
          refine Ev.run [(.iload_n 3, 1), (.i2l, 1)] (pc' := 46) (L' := [some (.ref 359), some (.int (nI w)), some (.int (nI v)), some (.int (nI 1)), none, none, none]) (S' := [.long (Int32.toInt64 (nI 1))]) rfl (by decide +kernel) rfl ?_
          exact Ev.lret rfl (by decide +kernel) (⟨by rw [gsl, if_pos h41], I1, hs1.sc, rfl⟩)
      · exact absurd (by decide) h21
    · exact absurd ⟨v, hv, rfl⟩ h8
  · exact absurd ⟨w, hw, rfl⟩ h1

abbrev zL3 : Type := Option (Nat × Nat × Nat)
def lf (x : zL3) : Int32 := match x with
  | none => -6
  | some y => nI y.1
def lu (x : zL3) : Nat := match x with
  | none => 0
  | some y => y.2.1
def ll (x : zL3) : Nat := match x with
  | none => 1
  | some y => y.2.2
def lrn (A : zA) (w : Nat) : Nat → zL3
  | 0 => none
  | v + 1 => if 0 < pei A w v (aN A) ∧ lu (lrn A w v) * pei A w v (aN A) < pbo A w v (aN A) * ll (lrn A w v) then some (v, pbo A w v (aN A), pei A w v (aN A)) else lrn A w v
theorem lrn_b {A : zA} (hN : aN A ≤ 12) (w : Nat) : ∀ v, lu (lrn A w v) ≤ 12 ∧ 1 ≤ ll (lrn A w v) ∧ ll (lrn A w v) ≤ 24
  | 0 => ⟨Nat.zero_le _, Nat.le_refl 1, show 1 ≤ 24 by decide⟩
  | v + 1 => by
    rw [lrn]
    split
    · next h =>
      have h1 := pbo_le A w v (aN A)
      have h2 := pei_le A w v (aN A)
      refine ⟨?_, ?_, ?_⟩
      · show pbo A w v (aN A) ≤ 12; omega
      · show 1 ≤ pei A w v (aN A); omega
      · show pei A w v (aN A) ≤ 24; omega
    · exact lrn_b hN w v

set_option maxRecDepth 100000 in
set_option maxHeartbeats 4000000 in
theorem l_X7_learnt {sc : Nat × (Nat → Int32)} {d : Nat} (I : Nat → Nat → Int32) (J : Nat → Nat → Int64) (A : zA) (hV : MV (zVm I) A) (hW : WF A) (w : Nat) (hw : w < 16) : ∀ (μ : Nat) (v : Nat) (I1 : Nat → Nat → Int32), 16 - v < μ → (v ≤ 16) → (zSc I I1) →  Ev sc (d + 2) 0 0 mX7_learnt 20 [some (.ref 359), some (.int (nI w)), some (.int (lf (lrn A w v))), some (.int (nI (2 * lu (lrn A w v)))), some (.int (nI (ll (lrn A w v)))), some (.int (nI v))] [] (zz_SH, I1, J) (fun r σ => r = some (.int (lf (lrn A w 16))) ∧ ∃ I' : Nat → Nat → Int32, zSc I I' ∧ σ = (zz_SH, I', J)) := by
  intro μ
  induction μ with
  | zero => intro v I1 hμ; exact absurd hμ (Nat.not_lt_zero _)
  | succ μ ih =>
    intro v I1 hμ hv hs
    have w1 := hW.1.1
    have w2 := hW.1.2.1
    have c8 := pbo_le A w v (aN A)
    have c9 := pei_le A w v (aN A)
    have l0 := lrn_b w1 w v
    refine Ev.run [(.iload 5, 2), (.bipush 16, 2)] (pc' := 24) (L' := [some (.ref 359), some (.int (nI w)), some (.int (lf (lrn A w v))), some (.int (nI (2 * lu (lrn A w v)))), some (.int (nI (ll (lrn A w v)))), some (.int (nI v))]) (S' := [.int (nI 16), .int (nI v)]) rfl (by decide +kernel) rfl ?_
    refine Ev.icmp_ge (off := 53) (tgt := 77) (by decide +kernel) (by decide) (fun h24 => ?_) (fun h24 => ?_)
    · have h24 : v ≥ 16 := zz_bG_t (by omega) (by omega) h24
      have hv16 : v = 16 := by omega
      refine Ev.run [(.iload_n 2, 1)] (pc' := 78) (L' := [some (.ref 359), some (.int (nI w)), some (.int (lf (lrn A w v))), some (.int (nI (2 * lu (lrn A w v)))), some (.int (nI (ll (lrn A w v)))), some (.int (nI v))]) (S' := [.int (lf (lrn A w v))]) rfl (by decide +kernel) rfl ?_
      exact Ev.iret rfl (by decide +kernel) (⟨by rw [hv16], I1, hs, rfl⟩)
    · have h24 : v < 16 := zz_bG_f (by omega) (by omega) h24
      refine Ev.run [(.aload_n 0, 1), (.iload_n 1, 1), (.iload 5, 2)] (pc' := 31) (L' := [some (.ref 359), some (.int (nI w)), some (.int (lf (lrn A w v))), some (.int (nI (2 * lu (lrn A w v)))), some (.int (nI (ll (lrn A w v)))), some (.int (nI v))]) (S' := [.int (nI v), .int (nI w), .ref 359]) rfl (by decide +kernel) rfl ?_
      refine Ev.callV0 mX7_layGoes [.int (nI w), .int (nI v)] [] _ rfl lk_RX7_184 (by decide +kernel) (rfl) rfl rfl rfl (Nat.le_of_ble_eq_true rfl) (c_X7_layGoes I1 J A (hs.mv hV) hW w v hw (by omega)) ?_
      rintro _ _ ⟨rfl, I2, hs2, hu, hl, rfl⟩
      show Ev _ _ _ _ _ 34 [some (.ref 359), some (.int (nI w)), some (.int (lf (lrn A w v))), some (.int (nI (2 * lu (lrn A w v)))), some (.int (nI (ll (lrn A w v)))), some (.int (nI v))] [] (zz_SH, I2, J) _
      refine Ev.run [(.aload_n 0, 1), (.getfield 177, 3)] (pc' := 38) (L' := [some (.ref 359), some (.int (nI w)), some (.int (lf (lrn A w v))), some (.int (nI (2 * lu (lrn A w v)))), some (.int (nI (ll (lrn A w v)))), some (.int (nI v))]) (S' := [.int (I2 359 23)]) rfl (by decide +kernel) rfl ?_
      rw [hl]
      refine Ev.if_le (off := 33) (tgt := 71) (by decide +kernel) (by decide) (fun h38 => ?_) (fun h38 => ?_)
      · have h38 : (pei A w v (aN A)) ≤ 0 := zz_bG'_t (by omega) (by omega) h38
        refine Ev.run [(.iinc 5 1, 3)] (pc' := 74) (L' := [some (.ref 359), some (.int (nI w)), some (.int (lf (lrn A w v))), some (.int (nI (2 * lu (lrn A w v)))), some (.int (nI (ll (lrn A w v)))), some (.int (nI v + 1))]) (S' := []) rfl (by decide +kernel) rfl ?_
        rw [nI_1 v]
        refine Ev.goto (off := (-54)) (tgt := 20) (by decide +kernel) (by decide) ?_
        have h9 := ih (v + 1) I2 (by omega) (by omega) (hs.tr hs2.sc)
        rw [lrn, if_neg (by omega)] at h9
        exact h9
      · have h38 : (pei A w v (aN A)) > 0 := zz_bG'_f (by omega) (by omega) h38
        refine Ev.run [(.aload_n 0, 1), (.getfield 174, 3)] (pc' := 45) (L' := [some (.ref 359), some (.int (nI w)), some (.int (lf (lrn A w v))), some (.int (nI (2 * lu (lrn A w v)))), some (.int (nI (ll (lrn A w v)))), some (.int (nI v))]) (S' := [.int (I2 359 22)]) rfl (by decide +kernel) rfl ?_
        rw [hu]
        refine Ev.run [(.iload 4, 2), (.imul, 1)] (pc' := 48) (L' := [some (.ref 359), some (.int (nI w)), some (.int (lf (lrn A w v))), some (.int (nI (2 * lu (lrn A w v)))), some (.int (nI (ll (lrn A w v)))), some (.int (nI v))]) (S' := [.int (nI (2 * pbo A w v (aN A)) * nI (ll (lrn A w v)))]) rfl (by decide +kernel) rfl ?_
        rw [pk_mul (2 * pbo A w v (aN A)) (ll (lrn A w v))]
        refine Ev.run [(.iload_n 3, 1), (.aload_n 0, 1), (.getfield 177, 3)] (pc' := 53) (L' := [some (.ref 359), some (.int (nI w)), some (.int (lf (lrn A w v))), some (.int (nI (2 * lu (lrn A w v)))), some (.int (nI (ll (lrn A w v)))), some (.int (nI v))]) (S' := [.int (I2 359 23), .int (nI (2 * lu (lrn A w v))), .int (nI ((2 * pbo A w v (aN A)) * (ll (lrn A w v))))]) rfl (by decide +kernel) rfl ?_
        rw [hl]
        refine Ev.run [(.imul, 1)] (pc' := 54) (L' := [some (.ref 359), some (.int (nI w)), some (.int (lf (lrn A w v))), some (.int (nI (2 * lu (lrn A w v)))), some (.int (nI (ll (lrn A w v)))), some (.int (nI v))]) (S' := [.int (nI (2 * lu (lrn A w v)) * nI (pei A w v (aN A))), .int (nI ((2 * pbo A w v (aN A)) * (ll (lrn A w v))))]) rfl (by decide +kernel) rfl ?_
        rw [pk_mul (2 * lu (lrn A w v)) (pei A w v (aN A))]
        have m1 : (2 * pbo A w v (aN A)) * ll (lrn A w v) = 2 * (pbo A w v (aN A) * ll (lrn A w v)) := Nat.mul_assoc _ _ _
        have m2 : (2 * lu (lrn A w v)) * pei A w v (aN A) = 2 * (lu (lrn A w v) * pei A w v (aN A)) := Nat.mul_assoc _ _ _
        have m3 : pbo A w v (aN A) * ll (lrn A w v) ≤ 12 * 24 := Nat.mul_le_mul (by omega) l0.2.2
        have m4 : lu (lrn A w v) * pei A w v (aN A) ≤ 12 * 24 := Nat.mul_le_mul l0.1 (by omega)
        refine Ev.icmp_le (off := 17) (tgt := 71) (by decide +kernel) (by decide) (fun h54 => ?_) (fun h54 => ?_)
        · have h54 : ((2 * pbo A w v (aN A)) * (ll (lrn A w v))) ≤ ((2 * lu (lrn A w v)) * (pei A w v (aN A))) := zz_bG'_t (by omega) (by omega) h54
          refine Ev.run [(.iinc 5 1, 3)] (pc' := 74) (L' := [some (.ref 359), some (.int (nI w)), some (.int (lf (lrn A w v))), some (.int (nI (2 * lu (lrn A w v)))), some (.int (nI (ll (lrn A w v)))), some (.int (nI v + 1))]) (S' := []) rfl (by decide +kernel) rfl ?_
          rw [nI_1 v]
          refine Ev.goto (off := (-54)) (tgt := 20) (by decide +kernel) (by decide) ?_
          have h9 := ih (v + 1) I2 (by omega) (by omega) (hs.tr hs2.sc)
          rw [lrn, if_neg (by omega)] at h9
          exact h9
        · have h54 : ((2 * pbo A w v (aN A)) * (ll (lrn A w v))) > ((2 * lu (lrn A w v)) * (pei A w v (aN A))) := zz_bG'_f (by omega) (by omega) h54
          refine Ev.run [(.iload 5, 2), (.istore_n 2, 1), (.aload_n 0, 1), (.getfield 174, 3)] (pc' := 64) (L' := [some (.ref 359), some (.int (nI w)), some (.int (nI v)), some (.int (nI (2 * lu (lrn A w v)))), some (.int (nI (ll (lrn A w v)))), some (.int (nI v))]) (S' := [.int (I2 359 22)]) rfl (by decide +kernel) rfl ?_
          rw [hu]
          refine Ev.run [(.istore_n 3, 1), (.aload_n 0, 1), (.getfield 177, 3)] (pc' := 69) (L' := [some (.ref 359), some (.int (nI w)), some (.int (nI v)), some (.int (nI (2 * pbo A w v (aN A)))), some (.int (nI (ll (lrn A w v)))), some (.int (nI v))]) (S' := [.int (I2 359 23)]) rfl (by decide +kernel) rfl ?_
          rw [hl]
          refine Ev.run [(.istore 4, 2), (.iinc 5 1, 3)] (pc' := 74) (L' := [some (.ref 359), some (.int (nI w)), some (.int (nI v)), some (.int (nI (2 * pbo A w v (aN A)))), some (.int (nI (pei A w v (aN A)))), some (.int (nI v + 1))]) (S' := []) rfl (by decide +kernel) rfl ?_
          rw [nI_1 v]
          refine Ev.goto (off := (-54)) (tgt := 20) (by decide +kernel) (by decide) ?_
          have h9 := ih (v + 1) I2 (by omega) (by omega) (hs.tr hs2.sc)
          rw [lrn, if_pos (by omega)] at h9
          exact h9

set_option maxRecDepth 100000 in
set_option maxHeartbeats 4000000 in
theorem c_X7_learnt_in {sc : Nat × (Nat → Int32)} {d : Nat} (I : Nat → Nat → Int32) (J : Nat → Nat → Int64) (A : zA) (hV : MV (zVm I) A) (hW : WF A) (w : Nat) (hw : w < 16) : EvM sc (d + 2) 0 0 mX7_learnt [.ref 359, .int (nI w)] (zz_SH, I, J) (fun r σ => r = some (.int (lf (lrn A w 16))) ∧ ∃ I' : Nat → Nat → Int32, zSc I I' ∧ σ = (zz_SH, I', J)) := by
  have w1 := hW.1.1
  have w2 := hW.1.2.1
  refine EvM.of (by decide) rfl (Nat.le_of_ble_eq_true rfl) ?_
  show Ev _ _ _ _ _ 0 [some (.ref 359), some (.int (nI w)), none, none, none, none] [] (zz_SH, I, J) _
  refine Ev.run [(.iload_n 1, 1)] (pc' := 1) (L' := [some (.ref 359), some (.int (nI w)), none, none, none, none]) (S' := [.int (nI w)]) rfl (by decide +kernel) rfl ?_
  refine Ev.callS0 mX7_isWord [.int (nI w)] [] _ rfl lk_RX7_162 (by decide +kernel) rfl (Nat.le_of_ble_eq_true rfl) (c_X7_isWord I J (nI w)) ?_
  rintro _ _ ⟨rfl, ⟨rfl, h1⟩ | ⟨rfl, h1⟩⟩
  · show Ev _ _ _ _ _ 4 [some (.ref 359), some (.int (nI w)), none, none, none, none] [.int (nI 1)] (zz_SH, I, J) _
    refine Ev.if_ne (off := 5) (tgt := 9) (by decide +kernel) (by decide) (fun h4 => ?_) (fun h4 => absurd h4 (by decide))
    refine Ev.run [(.bipush (-6), 2), (.istore_n 2, 1), (.iconst 0, 1), (.istore_n 3, 1), (.iconst 1, 1), (.istore 4, 2), (.iconst 0, 1), (.istore 5, 2)] (pc' := 20) (L' := [some (.ref 359), some (.int (nI w)), some (.int ((-6))), some (.int (nI 0)), some (.int (nI 1)), some (.int (nI 0))]) (S' := []) rfl (by decide +kernel) rfl ?_
    exact l_X7_learnt I J A hV hW w hw 17 0 I (by omega) (by omega) (zSc.rf I)
  · exact absurd ⟨w, hw, rfl⟩ h1

set_option maxRecDepth 100000 in
set_option maxHeartbeats 4000000 in
theorem c_X7_learnt_u {sc : Nat × (Nat → Int32)} {d : Nat} (I : Nat → Nat → Int32) (J : Nat → Nat → Int64) (x : Int32) (hx : ¬ zz_ix x 16) : EvM sc (d + 2) 0 0 mX7_learnt [.ref 359, .int x] (zz_SH, I, J) (zz_is (.int (-1)) (zz_SH, I, J)) := by
  refine EvM.of (by decide) rfl (Nat.le_of_ble_eq_true rfl) ?_
  show Ev _ _ _ _ _ 0 [some (.ref 359), some (.int x), none, none, none, none] [] (zz_SH, I, J) _
  refine Ev.run [(.iload_n 1, 1)] (pc' := 1) (L' := [some (.ref 359), some (.int x), none, none, none, none]) (S' := [.int x]) rfl (by decide +kernel) rfl ?_
  refine Ev.callS0 mX7_isWord [.int x] [] _ rfl lk_RX7_162 (by decide +kernel) rfl (Nat.le_of_ble_eq_true rfl) (c_X7_isWord I J x) ?_
  rintro _ _ ⟨rfl, ⟨rfl, h1⟩ | ⟨rfl, h1⟩⟩
  · exact absurd h1 hx
  · show Ev _ _ _ _ _ 4 [some (.ref 359), some (.int x), none, none, none, none] [.int (nI 0)] (zz_SH, I, J) _
    refine Ev.if_ne (off := 5) (tgt := 9) (by decide +kernel) (by decide) (fun h4 => absurd h4 (by decide)) (fun h4 => ?_)
    refine Ev.run [(.iconst (-1), 1)] (pc' := 8) (L' := [some (.ref 359), some (.int x), none, none, none, none]) (S' := [.int ((-1))]) rfl (by decide +kernel) rfl ?_
    exact Ev.iret rfl (by decide +kernel) (⟨rfl, rfl⟩)

set_option maxRecDepth 100000 in
set_option maxHeartbeats 4000000 in
theorem l_X7_areAlike {sc : Nat × (Nat → Int32)} {d : Nat} (I : Nat → Nat → Int32) (J : Nat → Nat → Int64) (q n1 a n b m : Nat) (f g : Nat → Nat) (hq : zz_SH[q]? = some (.inr (0, n1, []))) (hn1 : n1 < 1000) (han : a + n ≤ n1) (hbm : b + m ≤ n1) (hf : ∀ j, j < n → I q (a + j) = nI (f j)) (hg : ∀ j, j < m → I q (b + j) = nI (g j)) (hfr : ∀ j, j < n → f j < 1000) (hgr : ∀ j, j < m → g j < 1000) (he : n = m) : ∀ (μ : Nat) (i : Nat), n - i < μ → (i ≤ n) → (∀ j, j < i → f j = g j) →  Ev sc (d) 0 0 mX7_areAlike 16 [some (.ref q), some (.int (nI a)), some (.int (nI n)), some (.int (nI b)), some (.int (nI m)), some (.int (nI 1)), some (.int (nI i))] [] (zz_SH, I, J) (zz_tf (n = m ∧ ∀ j, j < n → f j = g j) (zz_SH, I, J)) := by
  intro μ
  induction μ with
  | zero => intro i hμ; exact absurd hμ (Nat.not_lt_zero _)
  | succ μ ih =>
    intro i hμ hi hal
    refine Ev.run [(.iload 6, 2), (.iload_n 2, 1)] (pc' := 19) (L' := [some (.ref q), some (.int (nI a)), some (.int (nI n)), some (.int (nI b)), some (.int (nI m)), some (.int (nI 1)), some (.int (nI i))]) (S' := [.int (nI n), .int (nI i)]) rfl (by decide +kernel) rfl ?_
    refine Ev.icmp_ge (off := 36) (tgt := 55) (by decide +kernel) (by decide) (fun h19 => ?_) (fun h19 => ?_)
    · have h19 : i ≥ n := zz_bG_t (by omega) (by omega) h19
      refine Ev.run [(.iload 5, 2)] (pc' := 57) (L' := [some (.ref q), some (.int (nI a)), some (.int (nI n)), some (.int (nI b)), some (.int (nI m)), some (.int (nI 1)), some (.int (nI i))]) (S' := [.int (nI 1)]) rfl (by decide +kernel) rfl ?_
      exact Ev.zret rfl (by decide +kernel) (Or.inr rfl) (⟨rfl, Or.inl ⟨rfl, he, fun j hj => hal j (by omega)⟩⟩)
    · have h19 : i < n := zz_bG_f (by omega) (by omega) h19
      have r1 := hfr i (by omega)
      have r2 := hgr i (by omega)
      refine Ev.run [(.iload 5, 2)] (pc' := 24) (L' := [some (.ref q), some (.int (nI a)), some (.int (nI n)), some (.int (nI b)), some (.int (nI m)), some (.int (nI 1)), some (.int (nI i))]) (S' := [.int (nI 1)]) rfl (by decide +kernel) rfl ?_
      refine Ev.if_eq (off := 31) (tgt := 55) (by decide +kernel) (by decide) (fun h24 => absurd h24 (by decide)) (fun h24 => ?_)
      refine Ev.run [(.aload_n 0, 1), (.iload_n 1, 1), (.iload 6, 2), (.iadd, 1)] (pc' := 32) (L' := [some (.ref q), some (.int (nI a)), some (.int (nI n)), some (.int (nI b)), some (.int (nI m)), some (.int (nI 1)), some (.int (nI i))]) (S' := [.int (nI a + nI i), .ref q]) rfl (by decide +kernel) rfl ?_
      rw [nI_add a i]
      refine Ev.iald (a + i) (by decide +kernel) (hq) (rfl) (by omega) (by first | decide | omega) ?_
      dsimp only
      rw [show I q (a + i) = nI (f i) from hf i (by omega)]
      refine Ev.run [(.aload_n 0, 1), (.iload_n 3, 1), (.iload 6, 2), (.iadd, 1)] (pc' := 38) (L' := [some (.ref q), some (.int (nI a)), some (.int (nI n)), some (.int (nI b)), some (.int (nI m)), some (.int (nI 1)), some (.int (nI i))]) (S' := [.int (nI b + nI i), .ref q, .int (nI (f i))]) rfl (by decide +kernel) rfl ?_
      rw [nI_add b i]
      refine Ev.iald (b + i) (by decide +kernel) (hq) (rfl) (by omega) (by first | decide | omega) ?_
      dsimp only
      rw [show I q (b + i) = nI (g i) from hg i (by omega)]
      refine Ev.icmp_ne (off := 7) (tgt := 46) (by decide +kernel) (by decide) (fun h39 => ?_) (fun h39 => ?_)
      · have h39 : ¬ (f i) = (g i) := zz_bE_f (by omega) (by omega) h39
        refine Ev.run [(.iconst 0, 1), (.istore 5, 2), (.iinc 6 1, 3)] (pc' := 52) (L' := [some (.ref q), some (.int (nI a)), some (.int (nI n)), some (.int (nI b)), some (.int (nI m)), some (.int (nI 0)), some (.int (nI i + 1))]) (S' := []) rfl (by decide +kernel) rfl ?_
        rw [nI_1 i]
        refine Ev.goto (off := (-36)) (tgt := 16) (by decide +kernel) (by decide) ?_
        refine Ev.run [(.iload 6, 2), (.iload_n 2, 1)] (pc' := 19) (L' := [some (.ref q), some (.int (nI a)), some (.int (nI n)), some (.int (nI b)), some (.int (nI m)), some (.int (nI 0)), some (.int (nI (i + 1)))]) (S' := [.int (nI n), .int (nI (i + 1))]) rfl (by decide +kernel) rfl ?_
        refine Ev.icmp_ge (off := 36) (tgt := 55) (by decide +kernel) (by decide) (fun g19 => ?_) (fun g19 => ?_)
        · have g19 : (i + 1) ≥ n := zz_bG_t (by omega) (by omega) g19
          refine Ev.run [(.iload 5, 2)] (pc' := 57) (L' := [some (.ref q), some (.int (nI a)), some (.int (nI n)), some (.int (nI b)), some (.int (nI m)), some (.int (nI 0)), some (.int (nI (i + 1)))]) (S' := [.int (nI 0)]) rfl (by decide +kernel) rfl ?_
          exact Ev.zret rfl (by decide +kernel) (Or.inl rfl) (⟨rfl, Or.inr ⟨rfl, fun z => h39 (z.2 i (by omega))⟩⟩)
        · have g19 : (i + 1) < n := zz_bG_f (by omega) (by omega) g19
          refine Ev.run [(.iload 5, 2)] (pc' := 24) (L' := [some (.ref q), some (.int (nI a)), some (.int (nI n)), some (.int (nI b)), some (.int (nI m)), some (.int (nI 0)), some (.int (nI (i + 1)))]) (S' := [.int (nI 0)]) rfl (by decide +kernel) rfl ?_
          refine Ev.if_eq (off := 31) (tgt := 55) (by decide +kernel) (by decide) (fun h24 => ?_) (fun h24 => absurd h24 (by decide))
          refine Ev.run [(.iload 5, 2)] (pc' := 57) (L' := [some (.ref q), some (.int (nI a)), some (.int (nI n)), some (.int (nI b)), some (.int (nI m)), some (.int (nI 0)), some (.int (nI (i + 1)))]) (S' := [.int (nI 0)]) rfl (by decide +kernel) rfl ?_
          exact Ev.zret rfl (by decide +kernel) (Or.inl rfl) (⟨rfl, Or.inr ⟨rfl, fun z => h39 (z.2 i (by omega))⟩⟩)
      · have h39 : (f i) = (g i) := zz_bE_t (by omega) (by omega) h39
        refine Ev.run [(.iconst 1, 1)] (pc' := 43) (L' := [some (.ref q), some (.int (nI a)), some (.int (nI n)), some (.int (nI b)), some (.int (nI m)), some (.int (nI 1)), some (.int (nI i))]) (S' := [.int (nI 1)]) rfl (by decide +kernel) rfl ?_
        refine Ev.goto (off := 4) (tgt := 47) (by decide +kernel) (by decide) ?_
        refine Ev.run [(.istore 5, 2), (.iinc 6 1, 3)] (pc' := 52) (L' := [some (.ref q), some (.int (nI a)), some (.int (nI n)), some (.int (nI b)), some (.int (nI m)), some (.int (nI 1)), some (.int (nI i + 1))]) (S' := []) rfl (by decide +kernel) rfl ?_
        rw [nI_1 i]
        refine Ev.goto (off := (-36)) (tgt := 16) (by decide +kernel) (by decide) ?_
        exact ih (i + 1) (by omega) (by omega) (lt_s hal h39)

set_option maxRecDepth 100000 in
set_option maxHeartbeats 4000000 in
theorem c_X7_areAlike {sc : Nat × (Nat → Int32)} {d : Nat} (I : Nat → Nat → Int32) (J : Nat → Nat → Int64) (q n1 a n b m : Nat) (f g : Nat → Nat) (hq : zz_SH[q]? = some (.inr (0, n1, []))) (hn1 : n1 < 1000) (han : a + n ≤ n1) (hbm : b + m ≤ n1) (hf : ∀ j, j < n → I q (a + j) = nI (f j)) (hg : ∀ j, j < m → I q (b + j) = nI (g j)) (hfr : ∀ j, j < n → f j < 1000) (hgr : ∀ j, j < m → g j < 1000) : EvM sc (d) 0 0 mX7_areAlike [.ref q, .int (nI a), .int (nI n), .int (nI b), .int (nI m)] (zz_SH, I, J) (zz_tf (n = m ∧ ∀ j, j < n → f j = g j) (zz_SH, I, J)) := by
  refine EvM.of (by decide) rfl (Nat.le_of_ble_eq_true rfl) ?_
  show Ev _ _ _ _ _ 0 [some (.ref q), some (.int (nI a)), some (.int (nI n)), some (.int (nI b)), some (.int (nI m)), none, none] [] (zz_SH, I, J) _
  refine Ev.run [(.iload_n 2, 1), (.iload 4, 2)] (pc' := 3) (L' := [some (.ref q), some (.int (nI a)), some (.int (nI n)), some (.int (nI b)), some (.int (nI m)), none, none]) (S' := [.int (nI m), .int (nI n)]) rfl (by decide +kernel) rfl ?_
  refine Ev.icmp_ne (off := 7) (tgt := 10) (by decide +kernel) (by decide) (fun h3 => ?_) (fun h3 => ?_)
  · have h3 : ¬ n = m := zz_bE_f (by omega) (by omega) h3
    refine Ev.run [(.iconst 0, 1), (.istore 5, 2), (.iconst 0, 1), (.istore 6, 2), (.iload 6, 2), (.iload_n 2, 1)] (pc' := 19) (L' := [some (.ref q), some (.int (nI a)), some (.int (nI n)), some (.int (nI b)), some (.int (nI m)), some (.int (nI 0)), some (.int (nI 0))]) (S' := [.int (nI n), .int (nI 0)]) rfl (by decide +kernel) rfl ?_
    refine Ev.icmp_ge (off := 36) (tgt := 55) (by decide +kernel) (by decide) (fun g19 => ?_) (fun g19 => ?_)
    · have g19 : 0 ≥ n := zz_bG_t (by omega) (by omega) g19
      refine Ev.run [(.iload 5, 2)] (pc' := 57) (L' := [some (.ref q), some (.int (nI a)), some (.int (nI n)), some (.int (nI b)), some (.int (nI m)), some (.int (nI 0)), some (.int (nI 0))]) (S' := [.int (nI 0)]) rfl (by decide +kernel) rfl ?_
      exact Ev.zret rfl (by decide +kernel) (Or.inl rfl) (⟨rfl, Or.inr ⟨rfl, fun z => h3 z.1⟩⟩)
    · have g19 : 0 < n := zz_bG_f (by omega) (by omega) g19
      refine Ev.run [(.iload 5, 2)] (pc' := 24) (L' := [some (.ref q), some (.int (nI a)), some (.int (nI n)), some (.int (nI b)), some (.int (nI m)), some (.int (nI 0)), some (.int (nI 0))]) (S' := [.int (nI 0)]) rfl (by decide +kernel) rfl ?_
      refine Ev.if_eq (off := 31) (tgt := 55) (by decide +kernel) (by decide) (fun h24 => ?_) (fun h24 => absurd h24 (by decide))
      refine Ev.run [(.iload 5, 2)] (pc' := 57) (L' := [some (.ref q), some (.int (nI a)), some (.int (nI n)), some (.int (nI b)), some (.int (nI m)), some (.int (nI 0)), some (.int (nI 0))]) (S' := [.int (nI 0)]) rfl (by decide +kernel) rfl ?_
      exact Ev.zret rfl (by decide +kernel) (Or.inl rfl) (⟨rfl, Or.inr ⟨rfl, fun z => h3 z.1⟩⟩)
  · have h3 : n = m := zz_bE_t (by omega) (by omega) h3
    refine Ev.run [(.iconst 1, 1)] (pc' := 7) (L' := [some (.ref q), some (.int (nI a)), some (.int (nI n)), some (.int (nI b)), some (.int (nI m)), none, none]) (S' := [.int (nI 1)]) rfl (by decide +kernel) rfl ?_
    refine Ev.goto (off := 4) (tgt := 11) (by decide +kernel) (by decide) ?_
    refine Ev.run [(.istore 5, 2), (.iconst 0, 1), (.istore 6, 2)] (pc' := 16) (L' := [some (.ref q), some (.int (nI a)), some (.int (nI n)), some (.int (nI b)), some (.int (nI m)), some (.int (nI 1)), some (.int (nI 0))]) (S' := []) rfl (by decide +kernel) rfl ?_
    exact l_X7_areAlike I J q n1 a n b m f g hq hn1 han hbm hf hg hfr hgr h3 (n + 1) 0 (by omega) (by omega) (fun j hj => absurd hj (Nat.not_lt_zero j))

def al1 (A : zA) (p q : Nat) : Prop := fz A p = fz A q ∧ ∀ j, j < fz A p → ff A p j = ff A q j
def al2 (A : zA) (p q : Nat) : Prop := gz A p = gz A q ∧ ∀ j, j < gz A p → gg A p j = gg A q j
def cls (A : zA) (p q : Nat) : Prop := al1 A p q ∧ ¬ al2 A p q
def clr (A : zA) (x : Int32) : Prop := (x = -6 ∧ ∀ p q, p < q → q < aN A → ¬ cls A p q) ∨ ∃ p q, p < q ∧ q < aN A ∧ cls A p q ∧ x = nI (100 * p + q) ∧ ∀ p' q', p' < q' → q' < aN A → (p' < p ∨ (p' = p ∧ q' < q)) → ¬ cls A p' q'

set_option maxRecDepth 100000 in
set_option maxHeartbeats 4000000 in
theorem l_X7_cl1 {sc : Nat × (Nat → Int32)} {d : Nat} (I : Nat → Nat → Int32) (J : Nat → Nat → Int64) (A : zA) (hV : MV (zVm I) A) (hW : WF A) (p : Nat) (hp : p < aN A) (hpre : ∀ p1 q1, p1 < q1 → q1 < aN A → p1 < p → ¬ cls A p1 q1) (hout : (∀ q1, p < q1 → q1 < aN A → ¬ cls A p q1) → Ev sc (d + 1) 0 0 mX7_clash 97 [some (.ref 359), some (.int (nI p)), none, none] [] (zz_SH, I, J) (fun r σ => σ = (zz_SH, I, J) ∧ ∃ x : Int32, r = some (.int x) ∧ clr A x)) : ∀ (μ : Nat) (q : Nat), aN A - q < μ → (p < q) → (q ≤ aN A) → (∀ q1, p < q1 → q1 < q → ¬ cls A p q1) →  Ev sc (d + 1) 0 0 mX7_clash 14 [some (.ref 359), some (.int (nI p)), some (.int (nI q)), none] [] (zz_SH, I, J) (fun r σ => σ = (zz_SH, I, J) ∧ ∃ x : Int32, r = some (.int x) ∧ clr A x) := by
  intro μ
  induction μ with
  | zero => intro q hμ; exact absurd hμ (Nat.not_lt_zero _)
  | succ μ ih =>
    intro q hμ hq hq2 hno
    have w1 := hW.1.1
    have w2 := hW.1.2.1
    refine Ev.run [(.iload_n 2, 1), (.aload_n 0, 1), (.getfield 75, 3)] (pc' := 19) (L' := [some (.ref 359), some (.int (nI p)), some (.int (nI q)), none]) (S' := [.int (I 359 2), .int (nI q)]) rfl (by decide +kernel) rfl ?_
    rw [show I 359 2 = nI (aN A) from hV.1.1]
    refine Ev.icmp_ge (off := 78) (tgt := 97) (by decide +kernel) (by decide) (fun h19 => ?_) (fun h19 => ?_)
    · have h19 : q ≥ (aN A) := zz_bG_t (by omega) (by omega) h19
      refine Ev.weakL (L' := [some (.ref 359), some (.int (nI p)), none, none]) ⟨rfl, rfl, trivial⟩ ?_
      exact hout (fun q1 h1 h2 => hno q1 h1 (by omega))
    · have h19 : q < (aN A) := zz_bG_f (by omega) (by omega) h19
      refine Ev.run [(.aload_n 0, 1), (.getfield 22, 3), (.bipush 12, 2), (.iload_n 1, 1), (.imul, 1)] (pc' := 30) (L' := [some (.ref 359), some (.int (nI p)), some (.int (nI q)), none]) (S' := [.int (nI 12 * nI p), .ref 364]) rfl (by decide +kernel) rfl ?_
      rw [pk_mul 12 p]
      refine Ev.run [(.aload_n 0, 1), (.getfield 16, 3), (.iload_n 1, 1)] (pc' := 35) (L' := [some (.ref 359), some (.int (nI p)), some (.int (nI q)), none]) (S' := [.int (nI p), .ref 362, .int (nI (12 * p)), .ref 364]) rfl (by decide +kernel) rfl ?_
      refine Ev.iald p (by decide +kernel) (rfl) (rfl) (by omega) (by first | decide | omega) ?_
      dsimp only
      rw [show I 362 p = nI (fz A p) from (hV.2.1 p hp).2.1]
      refine Ev.run [(.bipush 12, 2), (.iload_n 2, 1), (.imul, 1)] (pc' := 40) (L' := [some (.ref 359), some (.int (nI p)), some (.int (nI q)), none]) (S' := [.int (nI 12 * nI q), .int (nI (fz A p)), .int (nI (12 * p)), .ref 364]) rfl (by decide +kernel) rfl ?_
      rw [pk_mul 12 q]
      refine Ev.run [(.aload_n 0, 1), (.getfield 16, 3), (.iload_n 2, 1)] (pc' := 45) (L' := [some (.ref 359), some (.int (nI p)), some (.int (nI q)), none]) (S' := [.int (nI q), .ref 362, .int (nI (12 * q)), .int (nI (fz A p)), .int (nI (12 * p)), .ref 364]) rfl (by decide +kernel) rfl ?_
      refine Ev.iald q (by decide +kernel) (rfl) (rfl) (by omega) (by first | decide | omega) ?_
      dsimp only
      rw [show I 362 q = nI (fz A q) from (hV.2.1 q (by omega)).2.1]
      refine Ev.callS0 mX7_areAlike [.ref 364, .int (nI (12 * p)), .int (nI (fz A p)), .int (nI (12 * q)), .int (nI (fz A q))] [] _ rfl lk_RX7_188 (by decide +kernel) rfl (Nat.le_of_ble_eq_true rfl) (c_X7_areAlike I J 364 144 (12 * p) (fz A p) (12 * q) (fz A q) (ff A p) (ff A q) rfl (by decide) (by have := (hW.2.1 p hp).1; omega) (by have := (hW.2.1 q (by omega)).1; omega) (hV.2.1 p hp).2.2.2.1 (hV.2.1 q (by omega)).2.2.2.1 (fun j hj => by have := ((hW.2.1 p hp).2.1 j hj).2; omega) (fun j hj => by have := ((hW.2.1 q (by omega)).2.1 j hj).2; omega)) ?_
      rintro _ _ ⟨rfl, ⟨rfl, h46⟩ | ⟨rfl, h46⟩⟩
      · show Ev _ _ _ _ _ 49 [some (.ref 359), some (.int (nI p)), some (.int (nI q)), none] [.int (nI 1)] (zz_SH, I, J) _
        refine Ev.run [(.istore_n 3, 1), (.iload_n 3, 1)] (pc' := 51) (L' := [some (.ref 359), some (.int (nI p)), some (.int (nI q)), some (.int (nI 1))]) (S' := [.int (nI 1)]) rfl (by decide +kernel) rfl ?_
        refine Ev.if_eq (off := 40) (tgt := 91) (by decide +kernel) (by decide) (fun h51 => absurd h51 (by decide)) (fun h51 => ?_)
        refine Ev.run [(.aload_n 0, 1), (.getfield 25, 3), (.bipush 12, 2), (.iload_n 1, 1), (.imul, 1)] (pc' := 62) (L' := [some (.ref 359), some (.int (nI p)), some (.int (nI q)), some (.int (nI 1))]) (S' := [.int (nI 12 * nI p), .ref 365]) rfl (by decide +kernel) rfl ?_
        rw [pk_mul 12 p]
        refine Ev.run [(.aload_n 0, 1), (.getfield 19, 3), (.iload_n 1, 1)] (pc' := 67) (L' := [some (.ref 359), some (.int (nI p)), some (.int (nI q)), some (.int (nI 1))]) (S' := [.int (nI p), .ref 363, .int (nI (12 * p)), .ref 365]) rfl (by decide +kernel) rfl ?_
        refine Ev.iald p (by decide +kernel) (rfl) (rfl) (by omega) (by first | decide | omega) ?_
        dsimp only
        rw [show I 363 p = nI (gz A p) from (hV.2.1 p hp).2.2.1]
        refine Ev.run [(.bipush 12, 2), (.iload_n 2, 1), (.imul, 1)] (pc' := 72) (L' := [some (.ref 359), some (.int (nI p)), some (.int (nI q)), some (.int (nI 1))]) (S' := [.int (nI 12 * nI q), .int (nI (gz A p)), .int (nI (12 * p)), .ref 365]) rfl (by decide +kernel) rfl ?_
        rw [pk_mul 12 q]
        refine Ev.run [(.aload_n 0, 1), (.getfield 19, 3), (.iload_n 2, 1)] (pc' := 77) (L' := [some (.ref 359), some (.int (nI p)), some (.int (nI q)), some (.int (nI 1))]) (S' := [.int (nI q), .ref 363, .int (nI (12 * q)), .int (nI (gz A p)), .int (nI (12 * p)), .ref 365]) rfl (by decide +kernel) rfl ?_
        refine Ev.iald q (by decide +kernel) (rfl) (rfl) (by omega) (by first | decide | omega) ?_
        dsimp only
        rw [show I 363 q = nI (gz A q) from (hV.2.1 q (by omega)).2.2.1]
        refine Ev.callS0 mX7_areAlike [.ref 365, .int (nI (12 * p)), .int (nI (gz A p)), .int (nI (12 * q)), .int (nI (gz A q))] [] _ rfl lk_RX7_188 (by decide +kernel) rfl (Nat.le_of_ble_eq_true rfl) (c_X7_areAlike I J 365 144 (12 * p) (gz A p) (12 * q) (gz A q) (gg A p) (gg A q) rfl (by decide) (by have := (hW.2.1 p hp).1; omega) (by have := (hW.2.1 q (by omega)).1; omega) (hV.2.1 p hp).2.2.2.2 (hV.2.1 q (by omega)).2.2.2.2 (fun j hj => by have := ((hW.2.1 p hp).2.2.1 j hj).2; omega) (fun j hj => by have := ((hW.2.1 q (by omega)).2.2.1 j hj).2; omega)) ?_
        rintro _ _ ⟨rfl, ⟨rfl, h78⟩ | ⟨rfl, h78⟩⟩
        · show Ev _ _ _ _ _ 81 [some (.ref 359), some (.int (nI p)), some (.int (nI q)), some (.int (nI 1))] [.int (nI 1)] (zz_SH, I, J) _
          refine Ev.if_ne (off := 10) (tgt := 91) (by decide +kernel) (by decide) (fun h81 => ?_) (fun h81 => absurd h81 (by decide))
          refine Ev.run [(.iinc 2 1, 3)] (pc' := 94) (L' := [some (.ref 359), some (.int (nI p)), some (.int (nI q + 1)), some (.int (nI 1))]) (S' := []) rfl (by decide +kernel) rfl ?_
          rw [nI_1 q]
          refine Ev.goto (off := (-80)) (tgt := 14) (by decide +kernel) (by decide) ?_
          refine Ev.weakL (L' := [some (.ref 359), some (.int (nI p)), some (.int (nI (q + 1))), none]) ⟨rfl, rfl, rfl, trivial⟩ ?_
          refine ih (q + 1) (by omega) (by omega) (by omega) (fun q1 h1 h2 => ?_)
          by_cases e : q1 = q
          · subst e; exact fun z => z.2 h78
          · exact hno q1 h1 (by omega)
        · show Ev _ _ _ _ _ 81 [some (.ref 359), some (.int (nI p)), some (.int (nI q)), some (.int (nI 1))] [.int (nI 0)] (zz_SH, I, J) _
          refine Ev.if_ne (off := 10) (tgt := 91) (by decide +kernel) (by decide) (fun h81 => absurd h81 (by decide)) (fun h81 => ?_)
          refine Ev.run [(.bipush 100, 2), (.iload_n 1, 1), (.imul, 1)] (pc' := 88) (L' := [some (.ref 359), some (.int (nI p)), some (.int (nI q)), some (.int (nI 1))]) (S' := [.int (nI 100 * nI p)]) rfl (by decide +kernel) rfl ?_
          rw [pk_mul 100 p]
          refine Ev.run [(.iload_n 2, 1), (.iadd, 1)] (pc' := 90) (L' := [some (.ref 359), some (.int (nI p)), some (.int (nI q)), some (.int (nI 1))]) (S' := [.int (nI (100 * p) + nI q)]) rfl (by decide +kernel) rfl ?_
          rw [nI_add (100 * p) q]
          exact Ev.iret rfl (by decide +kernel) (⟨rfl, _, rfl, Or.inr ⟨p, q, hq, by omega, ⟨h46, h78⟩, rfl, fun p1 q1 z1 z2 z3 => z3.elim (fun z => hpre p1 q1 z1 z2 z) (fun z => by rw [z.1]; exact hno q1 (by omega) z.2)⟩⟩)
      · show Ev _ _ _ _ _ 49 [some (.ref 359), some (.int (nI p)), some (.int (nI q)), none] [.int (nI 0)] (zz_SH, I, J) _
        refine Ev.run [(.istore_n 3, 1), (.iload_n 3, 1)] (pc' := 51) (L' := [some (.ref 359), some (.int (nI p)), some (.int (nI q)), some (.int (nI 0))]) (S' := [.int (nI 0)]) rfl (by decide +kernel) rfl ?_
        refine Ev.if_eq (off := 40) (tgt := 91) (by decide +kernel) (by decide) (fun h51 => ?_) (fun h51 => absurd h51 (by decide))
        refine Ev.run [(.iinc 2 1, 3)] (pc' := 94) (L' := [some (.ref 359), some (.int (nI p)), some (.int (nI q + 1)), some (.int (nI 0))]) (S' := []) rfl (by decide +kernel) rfl ?_
        rw [nI_1 q]
        refine Ev.goto (off := (-80)) (tgt := 14) (by decide +kernel) (by decide) ?_
        refine Ev.weakL (L' := [some (.ref 359), some (.int (nI p)), some (.int (nI (q + 1))), none]) ⟨rfl, rfl, rfl, trivial⟩ ?_
        refine ih (q + 1) (by omega) (by omega) (by omega) (fun q1 h1 h2 => ?_)
        by_cases e : q1 = q
        · subst e; exact fun z => h46 z.1
        · exact hno q1 h1 (by omega)

set_option maxRecDepth 100000 in
set_option maxHeartbeats 4000000 in
theorem l_X7_cl2 {sc : Nat × (Nat → Int32)} {d : Nat} (I : Nat → Nat → Int32) (J : Nat → Nat → Int64) (A : zA) (hV : MV (zVm I) A) (hW : WF A) : ∀ (μ : Nat) (p : Nat), aN A - p < μ → (p ≤ aN A) → (∀ p1 q1, p1 < q1 → q1 < aN A → p1 < p → ¬ cls A p1 q1) →  Ev sc (d + 1) 0 0 mX7_clash 2 [some (.ref 359), some (.int (nI p)), none, none] [] (zz_SH, I, J) (fun r σ => σ = (zz_SH, I, J) ∧ ∃ x : Int32, r = some (.int x) ∧ clr A x) := by
  intro μ
  induction μ with
  | zero => intro p hμ; exact absurd hμ (Nat.not_lt_zero _)
  | succ μ ih =>
    intro p hμ hp hpre
    have w1 := hW.1.1
    have w2 := hW.1.2.1
    refine Ev.run [(.iload_n 1, 1), (.aload_n 0, 1), (.getfield 75, 3)] (pc' := 7) (L' := [some (.ref 359), some (.int (nI p)), none, none]) (S' := [.int (I 359 2), .int (nI p)]) rfl (by decide +kernel) rfl ?_
    rw [show I 359 2 = nI (aN A) from hV.1.1]
    refine Ev.icmp_ge (off := 96) (tgt := 103) (by decide +kernel) (by decide) (fun h7 => ?_) (fun h7 => ?_)
    · have h7 : p ≥ (aN A) := zz_bG_t (by omega) (by omega) h7
      refine Ev.run [(.bipush (-6), 2)] (pc' := 105) (L' := [some (.ref 359), some (.int (nI p)), none, none]) (S' := [.int ((-6))]) rfl (by decide +kernel) rfl ?_
      exact Ev.iret rfl (by decide +kernel) (⟨rfl, _, rfl, Or.inl ⟨rfl, fun p1 q1 z1 z2 => hpre p1 q1 z1 z2 (by omega)⟩⟩)
    · have h7 : p < (aN A) := zz_bG_f (by omega) (by omega) h7
      refine Ev.run [(.iload_n 1, 1), (.iconst 1, 1), (.iadd, 1)] (pc' := 13) (L' := [some (.ref 359), some (.int (nI p)), none, none]) (S' := [.int (nI p + nI 1)]) rfl (by decide +kernel) rfl ?_
      rw [nI_add p 1]
      refine Ev.run [(.istore_n 2, 1)] (pc' := 14) (L' := [some (.ref 359), some (.int (nI p)), some (.int (nI (p + 1))), none]) (S' := []) rfl (by decide +kernel) rfl ?_
      refine l_X7_cl1 I J A hV hW p (by omega) hpre ?_ (aN A + 1) (p + 1) (by omega) (by omega) (by omega) (fun q1 h1 h2 => absurd h1 (by omega))
      intro hno
      show Ev _ _ _ _ _ 97 [some (.ref 359), some (.int (nI p)), none, none] [] (zz_SH, I, J) _
      refine Ev.run [(.iinc 1 1, 3)] (pc' := 100) (L' := [some (.ref 359), some (.int (nI p + 1)), none, none]) (S' := []) rfl (by decide +kernel) rfl ?_
      rw [nI_1 p]
      refine Ev.goto (off := (-98)) (tgt := 2) (by decide +kernel) (by decide) ?_
      refine ih (p + 1) (by omega) (by omega) (fun p1 q1 z1 z2 z3 => ?_)
      by_cases e : p1 = p
      · subst e; exact hno q1 z1 z2
      · exact hpre p1 q1 z1 z2 (by omega)

set_option maxRecDepth 100000 in
set_option maxHeartbeats 4000000 in
theorem c_X7_clash {sc : Nat × (Nat → Int32)} {d : Nat} (I : Nat → Nat → Int32) (J : Nat → Nat → Int64) (A : zA) (hV : MV (zVm I) A) (hW : WF A) : EvM sc (d + 1) 0 0 mX7_clash [.ref 359] (zz_SH, I, J) (fun r σ => σ = (zz_SH, I, J) ∧ ∃ x : Int32, r = some (.int x) ∧ clr A x) := by
  have w1 := hW.1.1
  have w2 := hW.1.2.1
  refine EvM.of (by decide) rfl (Nat.le_of_ble_eq_true rfl) ?_
  show Ev _ _ _ _ _ 0 [some (.ref 359), none, none, none] [] (zz_SH, I, J) _
  refine Ev.run [(.iconst 0, 1), (.istore_n 1, 1)] (pc' := 2) (L' := [some (.ref 359), some (.int (nI 0)), none, none]) (S' := []) rfl (by decide +kernel) rfl ?_
  exact l_X7_cl2 I J A hV hW (aN A + 1) 0 (by omega) (by omega) (fun p1 q1 z1 z2 z3 => absurd z3 (Nat.not_lt_zero p1))
end
section
/-! ===== the model: pad, rates, musts, lengths, told, pair ===== -/
theorem zz_rng {a b x : Nat} (ha : a < 2 ^ 31) (hb : b < 2 ^ 31) (hx : x < 2 ^ 31) : (nI a ≤ nI x ∧ nI x ≤ nI b) ↔ (a ≤ x ∧ x ≤ b) := by
  rw [nI_leI ha hx, nI_leI hx hb]

set_option maxRecDepth 100000 in
set_option maxHeartbeats 4000000 in
theorem c_X7_say_o {sc : Nat × (Nat → Int32)} {d : Nat} (I : Nat → Nat → Int32) (J : Nat → Nat → Int64) (x : Int32) (hx : ¬ (nI 33 ≤ x ∧ x ≤ nI 126)) : EvM sc (d + 1) 0 0 mX7_say [.ref 359, .int x] (zz_SH, I, J) (zz_is (.int (-2)) (zz_SH, I, J)) := by
  refine EvM.of (by decide) rfl (Nat.le_of_ble_eq_true rfl) ?_
  show Ev _ _ _ _ _ 0 [some (.ref 359), some (.int x)] [] (zz_SH, I, J) _
  refine Ev.run [(.iload_n 1, 1), (.bipush 33, 2), (.bipush 126, 2)] (pc' := 5) (L' := [some (.ref 359), some (.int x)]) (S' := [.int (nI 126), .int (nI 33), .int x]) rfl (by decide +kernel) rfl ?_
  refine Ev.callS0 mX7_in [.int x, .int (nI 33), .int (nI 126)] [] _ rfl lk_RX7_79 (by decide +kernel) rfl (Nat.le_of_ble_eq_true rfl) (c_X7_in I J x (nI 33) (nI 126)) ?_
  rintro _ _ ⟨rfl, ⟨rfl, h5⟩ | ⟨rfl, h5⟩⟩
  · exact absurd h5 hx
  · show Ev _ _ _ _ _ 8 [some (.ref 359), some (.int x)] [.int (nI 0)] (zz_SH, I, J) _
    refine Ev.if_ne (off := 6) (tgt := 14) (by decide +kernel) (by decide) (fun h8 => absurd h8 (by decide)) (fun h8 => ?_)
    refine Ev.run [(.bipush (-2), 2)] (pc' := 13) (L' := [some (.ref 359), some (.int x)]) (S' := [.int ((-2))]) rfl (by decide +kernel) rfl ?_
    exact Ev.iret rfl (by decide +kernel) (⟨rfl, rfl⟩)

set_option maxRecDepth 100000 in
set_option maxHeartbeats 4000000 in
theorem c_X7_say_f {sc : Nat × (Nat → Int32)} {d : Nat} (I : Nat → Nat → Int32) (J : Nat → Nat → Int64) (np : Nat) (hn : I 359 0 = nI np) (hnp : np ≤ 30) (x : Int32) (hx : nI 33 ≤ x ∧ x ≤ nI 126) (hf : np = 30) : EvM sc (d + 1) 0 0 mX7_say [.ref 359, .int x] (zz_SH, I, J) (zz_is (.int (-4)) (zz_SH, I, J)) := by
  refine EvM.of (by decide) rfl (Nat.le_of_ble_eq_true rfl) ?_
  show Ev _ _ _ _ _ 0 [some (.ref 359), some (.int x)] [] (zz_SH, I, J) _
  refine Ev.run [(.iload_n 1, 1), (.bipush 33, 2), (.bipush 126, 2)] (pc' := 5) (L' := [some (.ref 359), some (.int x)]) (S' := [.int (nI 126), .int (nI 33), .int x]) rfl (by decide +kernel) rfl ?_
  refine Ev.callS0 mX7_in [.int x, .int (nI 33), .int (nI 126)] [] _ rfl lk_RX7_79 (by decide +kernel) rfl (Nat.le_of_ble_eq_true rfl) (c_X7_in I J x (nI 33) (nI 126)) ?_
  rintro _ _ ⟨rfl, ⟨rfl, h5⟩ | ⟨rfl, h5⟩⟩
  · show Ev _ _ _ _ _ 8 [some (.ref 359), some (.int x)] [.int (nI 1)] (zz_SH, I, J) _
    refine Ev.if_ne (off := 6) (tgt := 14) (by decide +kernel) (by decide) (fun h8 => ?_) (fun h8 => absurd h8 (by decide))
    refine Ev.run [(.aload_n 0, 1), (.getfield 86, 3)] (pc' := 18) (L' := [some (.ref 359), some (.int x)]) (S' := [.int (I 359 0)]) rfl (by decide +kernel) rfl ?_
    rw [hn]
    refine Ev.run [(.bipush 30, 2)] (pc' := 20) (L' := [some (.ref 359), some (.int x)]) (S' := [.int (nI 30), .int (nI np)]) rfl (by decide +kernel) rfl ?_
    refine Ev.icmp_ne (off := 6) (tgt := 26) (by decide +kernel) (by decide) (fun h20 => ?_) (fun h20 => ?_)
    · have h20 : ¬ np = 30 := zz_bE_f (by omega) (by omega) h20
      exfalso; omega
    · have h20 : np = 30 := zz_bE_t (by omega) (by omega) h20
      refine Ev.run [(.bipush (-4), 2)] (pc' := 25) (L' := [some (.ref 359), some (.int x)]) (S' := [.int ((-4))]) rfl (by decide +kernel) rfl ?_
      exact Ev.iret rfl (by decide +kernel) (⟨rfl, rfl⟩)
  · exact absurd hx h5

set_option maxRecDepth 100000 in
set_option maxHeartbeats 4000000 in
theorem c_X7_say_k {sc : Nat × (Nat → Int32)} {d : Nat} (I : Nat → Nat → Int32) (J : Nat → Nat → Int64) (np : Nat) (hn : I 359 0 = nI np) (hnp : np ≤ 30) (x : Int32) (hx : nI 33 ≤ x ∧ x ≤ nI 126) (hf : np < 30) : EvM sc (d + 1) 0 0 mX7_say [.ref 359, .int x] (zz_SH, I, J) (zz_is (.int (nI (np + 1))) (zz_SH, zz_up (zz_up I 360 np x) 359 0 (nI (np + 1)), J)) := by
  refine EvM.of (by decide) rfl (Nat.le_of_ble_eq_true rfl) ?_
  show Ev _ _ _ _ _ 0 [some (.ref 359), some (.int x)] [] (zz_SH, I, J) _
  refine Ev.run [(.iload_n 1, 1), (.bipush 33, 2), (.bipush 126, 2)] (pc' := 5) (L' := [some (.ref 359), some (.int x)]) (S' := [.int (nI 126), .int (nI 33), .int x]) rfl (by decide +kernel) rfl ?_
  refine Ev.callS0 mX7_in [.int x, .int (nI 33), .int (nI 126)] [] _ rfl lk_RX7_79 (by decide +kernel) rfl (Nat.le_of_ble_eq_true rfl) (c_X7_in I J x (nI 33) (nI 126)) ?_
  rintro _ _ ⟨rfl, ⟨rfl, h5⟩ | ⟨rfl, h5⟩⟩
  · show Ev _ _ _ _ _ 8 [some (.ref 359), some (.int x)] [.int (nI 1)] (zz_SH, I, J) _
    refine Ev.if_ne (off := 6) (tgt := 14) (by decide +kernel) (by decide) (fun h8 => ?_) (fun h8 => absurd h8 (by decide))
    refine Ev.run [(.aload_n 0, 1), (.getfield 86, 3)] (pc' := 18) (L' := [some (.ref 359), some (.int x)]) (S' := [.int (I 359 0)]) rfl (by decide +kernel) rfl ?_
    rw [hn]
    refine Ev.run [(.bipush 30, 2)] (pc' := 20) (L' := [some (.ref 359), some (.int x)]) (S' := [.int (nI 30), .int (nI np)]) rfl (by decide +kernel) rfl ?_
    refine Ev.icmp_ne (off := 6) (tgt := 26) (by decide +kernel) (by decide) (fun h20 => ?_) (fun h20 => ?_)
    · have h20 : ¬ np = 30 := zz_bE_f (by omega) (by omega) h20
      refine Ev.run [(.aload_n 0, 1), (.getfield 7, 3), (.aload_n 0, 1), (.getfield 86, 3)] (pc' := 34) (L' := [some (.ref 359), some (.int x)]) (S' := [.int (I 359 0), .ref 360]) rfl (by decide +kernel) rfl ?_
      rw [hn]
      refine Ev.run [(.iload_n 1, 1)] (pc' := 35) (L' := [some (.ref 359), some (.int x)]) (S' := [.int x, .int (nI np), .ref 360]) rfl (by decide +kernel) rfl ?_
      refine Ev.iast np (by decide +kernel) (rfl) (rfl) (by omega) (by first | decide | omega) ?_
      dsimp only
      refine Ev.run [(.aload_n 0, 1), (.dup, 1), (.getfield 86, 3)] (pc' := 41) (L' := [some (.ref 359), some (.int x)]) (S' := [.int ((zz_up I 360 np x) 359 0), .ref 359]) rfl (by decide +kernel) rfl ?_
      rw [show (zz_up I 360 np x) 359 0 = nI np from by rw [zz_up_ne (by decide)]; exact hn]
      refine Ev.run [(.iconst 1, 1), (.iadd, 1)] (pc' := 43) (L' := [some (.ref 359), some (.int x)]) (S' := [.int (nI np + nI 1), .ref 359]) rfl (by decide +kernel) rfl ?_
      rw [nI_add np 1]
      refine Ev.putf (idx := 86) rfl rfl rfl (by decide +kernel) (rfl) rfl ?_
      dsimp only
      refine Ev.run [(.aload_n 0, 1), (.getfield 86, 3)] (pc' := 50) (L' := [some (.ref 359), some (.int x)]) (S' := [.int ((zz_up (zz_up I 360 np x) 359 0 (nI (np + 1))) 359 0)]) rfl (by decide +kernel) rfl ?_
      rw [show (zz_up (zz_up I 360 np x) 359 0 (nI (np + 1))) 359 0 = nI (np + 1) from by rw [zz_up_eq, zz_ups]]
      exact Ev.iret rfl (by decide +kernel) (⟨rfl, rfl⟩)
    · have h20 : np = 30 := zz_bE_t (by omega) (by omega) h20
      exfalso; omega
  · exact absurd hx h5

set_option maxRecDepth 100000 in
set_option maxHeartbeats 4000000 in
theorem c_X7_wipe {sc : Nat × (Nat → Int32)} {d : Nat} (I : Nat → Nat → Int32) (J : Nat → Nat → Int64) (np : Nat) (hn : I 359 0 = nI np) (hnp : np ≤ 30) : EvM sc (d) 0 0 mX7_wipe [.ref 359] (zz_SH, I, J) (zz_is (.int (nI np)) (zz_SH, zz_up I 359 0 (nI 0), J)) := by
  refine EvM.of (by decide) rfl (Nat.le_of_ble_eq_true rfl) ?_
  show Ev _ _ _ _ _ 0 [some (.ref 359), none] [] (zz_SH, I, J) _
  refine Ev.run [(.aload_n 0, 1), (.getfield 86, 3)] (pc' := 4) (L' := [some (.ref 359), none]) (S' := [.int (I 359 0)]) rfl (by decide +kernel) rfl ?_
  rw [hn]
  refine Ev.run [(.istore_n 1, 1), (.aload_n 0, 1), (.iconst 0, 1)] (pc' := 7) (L' := [some (.ref 359), some (.int (nI np))]) (S' := [.int (nI 0), .ref 359]) rfl (by decide +kernel) rfl ?_
  refine Ev.putf (idx := 86) rfl rfl rfl (by decide +kernel) (rfl) rfl ?_
  dsimp only
  refine Ev.run [(.iload_n 1, 1)] (pc' := 11) (L' := [some (.ref 359), some (.int (nI np))]) (S' := [.int (nI np)]) rfl (by decide +kernel) rfl ?_
  exact Ev.iret rfl (by decide +kernel) (⟨rfl, rfl⟩)

set_option maxRecDepth 100000 in
set_option maxHeartbeats 4000000 in
theorem c_X7_rate_o {sc : Nat × (Nat → Int32)} {d : Nat} (I : Nat → Nat → Int32) (J : Nat → Nat → Int64) (x y : Int32) (hxy : ¬ (zz_ix x 5 ∧ zz_ix y 100)) : EvM sc (d + 1) 0 0 mX7_rate [.ref 359, .int x, .int y] (zz_SH, I, J) (zz_is (.int (-2)) (zz_SH, I, J)) := by
  refine EvM.of (by decide) rfl (Nat.le_of_ble_eq_true rfl) ?_
  show Ev _ _ _ _ _ 0 [some (.ref 359), some (.int x), some (.int y), none] [] (zz_SH, I, J) _
  refine Ev.run [(.iload_n 1, 1), (.iconst 0, 1), (.iconst 4, 1)] (pc' := 3) (L' := [some (.ref 359), some (.int x), some (.int y), none]) (S' := [.int (nI 4), .int (nI 0), .int x]) rfl (by decide +kernel) rfl ?_
  refine Ev.callS0 mX7_in [.int x, .int (nI 0), .int (nI 4)] [] _ rfl lk_RX7_79 (by decide +kernel) rfl (Nat.le_of_ble_eq_true rfl) (c_X7_in I J x (nI 0) (nI 4)) ?_
  rintro _ _ ⟨rfl, ⟨rfl, h3⟩ | ⟨rfl, h3⟩⟩
  · show Ev _ _ _ _ _ 6 [some (.ref 359), some (.int x), some (.int y), none] [.int (nI 1)] (zz_SH, I, J) _
    rw [show (nI 4 : Int32) = nI 5 - nI 1 by decide, zz_ix_iff (by decide)] at h3
    refine Ev.if_eq (off := 13) (tgt := 19) (by decide +kernel) (by decide) (fun h6 => absurd h6 (by decide)) (fun h6 => ?_)
    refine Ev.run [(.iload_n 2, 1), (.iconst 0, 1), (.bipush 99, 2)] (pc' := 13) (L' := [some (.ref 359), some (.int x), some (.int y), none]) (S' := [.int (nI 99), .int (nI 0), .int y]) rfl (by decide +kernel) rfl ?_
    refine Ev.callS0 mX7_in [.int y, .int (nI 0), .int (nI 99)] [] _ rfl lk_RX7_79 (by decide +kernel) rfl (Nat.le_of_ble_eq_true rfl) (c_X7_in I J y (nI 0) (nI 99)) ?_
    rintro _ _ ⟨rfl, ⟨rfl, h13⟩ | ⟨rfl, h13⟩⟩
    · rw [show (nI 99 : Int32) = nI 100 - nI 1 by decide, zz_ix_iff (by decide)] at h13; exact absurd ⟨h3, h13⟩ hxy
    · show Ev _ _ _ _ _ 16 [some (.ref 359), some (.int x), some (.int y), none] [.int (nI 0)] (zz_SH, I, J) _
      refine Ev.if_ne (off := 6) (tgt := 22) (by decide +kernel) (by decide) (fun h16 => absurd h16 (by decide)) (fun h16 => ?_)
      refine Ev.run [(.bipush (-2), 2)] (pc' := 21) (L' := [some (.ref 359), some (.int x), some (.int y), none]) (S' := [.int ((-2))]) rfl (by decide +kernel) rfl ?_
      exact Ev.iret rfl (by decide +kernel) (⟨rfl, rfl⟩)
  · show Ev _ _ _ _ _ 6 [some (.ref 359), some (.int x), some (.int y), none] [.int (nI 0)] (zz_SH, I, J) _
    refine Ev.if_eq (off := 13) (tgt := 19) (by decide +kernel) (by decide) (fun h6 => ?_) (fun h6 => absurd h6 (by decide))
    refine Ev.run [(.bipush (-2), 2)] (pc' := 21) (L' := [some (.ref 359), some (.int x), some (.int y), none]) (S' := [.int ((-2))]) rfl (by decide +kernel) rfl ?_
    exact Ev.iret rfl (by decide +kernel) (⟨rfl, rfl⟩)

set_option maxRecDepth 100000 in
set_option maxHeartbeats 4000000 in
theorem c_X7_rate_k {sc : Nat × (Nat → Int32)} {d : Nat} (I : Nat → Nat → Int32) (J : Nat → Nat → Int64) (A : zA) (hV : MV (zVm I) A) (hW : WF A) (b v : Nat) (hb : b < 5) (hv : v < 100) : EvM sc (d + 1) 0 0 mX7_rate [.ref 359, .int (nI b), .int (nI v)] (zz_SH, I, J) (zz_is (.int (nI (rt A b))) (zz_SH, zz_up I 368 b (nI v), J)) := by
  have w1 := hW.1.1
  have w2 := hW.1.2.1
  refine EvM.of (by decide) rfl (Nat.le_of_ble_eq_true rfl) ?_
  show Ev _ _ _ _ _ 0 [some (.ref 359), some (.int (nI b)), some (.int (nI v)), none] [] (zz_SH, I, J) _
  refine Ev.run [(.iload_n 1, 1), (.iconst 0, 1), (.iconst 4, 1)] (pc' := 3) (L' := [some (.ref 359), some (.int (nI b)), some (.int (nI v)), none]) (S' := [.int (nI 4), .int (nI 0), .int (nI b)]) rfl (by decide +kernel) rfl ?_
  refine Ev.callS0 mX7_in [.int (nI b), .int (nI 0), .int (nI 4)] [] _ rfl lk_RX7_79 (by decide +kernel) rfl (Nat.le_of_ble_eq_true rfl) (c_X7_in I J (nI b) (nI 0) (nI 4)) ?_
  rintro _ _ ⟨rfl, ⟨rfl, h3⟩ | ⟨rfl, h3⟩⟩
  · show Ev _ _ _ _ _ 6 [some (.ref 359), some (.int (nI b)), some (.int (nI v)), none] [.int (nI 1)] (zz_SH, I, J) _
    refine Ev.if_eq (off := 13) (tgt := 19) (by decide +kernel) (by decide) (fun h6 => absurd h6 (by decide)) (fun h6 => ?_)
    refine Ev.run [(.iload_n 2, 1), (.iconst 0, 1), (.bipush 99, 2)] (pc' := 13) (L' := [some (.ref 359), some (.int (nI b)), some (.int (nI v)), none]) (S' := [.int (nI 99), .int (nI 0), .int (nI v)]) rfl (by decide +kernel) rfl ?_
    refine Ev.callS0 mX7_in [.int (nI v), .int (nI 0), .int (nI 99)] [] _ rfl lk_RX7_79 (by decide +kernel) rfl (Nat.le_of_ble_eq_true rfl) (c_X7_in I J (nI v) (nI 0) (nI 99)) ?_
    rintro _ _ ⟨rfl, ⟨rfl, h13⟩ | ⟨rfl, h13⟩⟩
    · show Ev _ _ _ _ _ 16 [some (.ref 359), some (.int (nI b)), some (.int (nI v)), none] [.int (nI 1)] (zz_SH, I, J) _
      refine Ev.if_ne (off := 6) (tgt := 22) (by decide +kernel) (by decide) (fun h16 => ?_) (fun h16 => absurd h16 (by decide))
      refine Ev.run [(.aload_n 0, 1), (.getfield 34, 3), (.iload_n 1, 1)] (pc' := 27) (L' := [some (.ref 359), some (.int (nI b)), some (.int (nI v)), none]) (S' := [.int (nI b), .ref 368]) rfl (by decide +kernel) rfl ?_
      refine Ev.iald b (by decide +kernel) (rfl) (rfl) (by omega) (by first | decide | omega) ?_
      dsimp only
      rw [show I 368 b = nI (rt A b) from hV.2.2.2.1 b hb]
      refine Ev.run [(.istore_n 3, 1), (.aload_n 0, 1), (.getfield 34, 3), (.iload_n 1, 1), (.iload_n 2, 1)] (pc' := 35) (L' := [some (.ref 359), some (.int (nI b)), some (.int (nI v)), some (.int (nI (rt A b)))]) (S' := [.int (nI v), .int (nI b), .ref 368]) rfl (by decide +kernel) rfl ?_
      refine Ev.iast b (by decide +kernel) (rfl) (rfl) (by omega) (by first | decide | omega) ?_
      dsimp only
      refine Ev.run [(.iload_n 3, 1)] (pc' := 37) (L' := [some (.ref 359), some (.int (nI b)), some (.int (nI v)), some (.int (nI (rt A b)))]) (S' := [.int (nI (rt A b))]) rfl (by decide +kernel) rfl ?_
      exact Ev.iret rfl (by decide +kernel) (⟨rfl, rfl⟩)
    · exact absurd ((zz_rng (by decide) (by decide) (by omega)).mpr (show 0 ≤ v ∧ v ≤ 99 by omega)) h13
  · exact absurd ((zz_rng (by decide) (by decide) (by omega)).mpr (show 0 ≤ b ∧ b ≤ 4 by omega)) h3

set_option maxRecDepth 100000 in
set_option maxHeartbeats 4000000 in
theorem c_X7_must_u {sc : Nat × (Nat → Int32)} {d : Nat} (I : Nat → Nat → Int32) (J : Nat → Nat → Int64) (x y : Int32) (hx : ¬ zz_ix x 16) : EvM sc (d + 2) 0 0 mX7_must [.ref 359, .int x, .int y] (zz_SH, I, J) (zz_is (.int (-1)) (zz_SH, I, J)) := by
  refine EvM.of (by decide) rfl (Nat.le_of_ble_eq_true rfl) ?_
  show Ev _ _ _ _ _ 0 [some (.ref 359), some (.int x), some (.int y), none] [] (zz_SH, I, J) _
  refine Ev.run [(.iload_n 1, 1)] (pc' := 1) (L' := [some (.ref 359), some (.int x), some (.int y), none]) (S' := [.int x]) rfl (by decide +kernel) rfl ?_
  refine Ev.callS0 mX7_isWord [.int x] [] _ rfl lk_RX7_162 (by decide +kernel) rfl (Nat.le_of_ble_eq_true rfl) (c_X7_isWord I J x) ?_
  rintro _ _ ⟨rfl, ⟨rfl, h1⟩ | ⟨rfl, h1⟩⟩
  · exact absurd h1 hx
  · show Ev _ _ _ _ _ 4 [some (.ref 359), some (.int x), some (.int y), none] [.int (nI 0)] (zz_SH, I, J) _
    refine Ev.if_ne (off := 5) (tgt := 9) (by decide +kernel) (by decide) (fun h4 => absurd h4 (by decide)) (fun h4 => ?_)
    refine Ev.run [(.iconst (-1), 1)] (pc' := 8) (L' := [some (.ref 359), some (.int x), some (.int y), none]) (S' := [.int ((-1))]) rfl (by decide +kernel) rfl ?_
    exact Ev.iret rfl (by decide +kernel) (⟨rfl, rfl⟩)

set_option maxRecDepth 100000 in
set_option maxHeartbeats 4000000 in
theorem c_X7_must_o {sc : Nat × (Nat → Int32)} {d : Nat} (I : Nat → Nat → Int32) (J : Nat → Nat → Int64) (w : Nat) (hw : w < 16) (y : Int32) (hy : ¬ ((-1) ≤ y ∧ y ≤ nI 15)) : EvM sc (d + 2) 0 0 mX7_must [.ref 359, .int (nI w), .int y] (zz_SH, I, J) (zz_is (.int (-2)) (zz_SH, I, J)) := by
  refine EvM.of (by decide) rfl (Nat.le_of_ble_eq_true rfl) ?_
  show Ev _ _ _ _ _ 0 [some (.ref 359), some (.int (nI w)), some (.int y), none] [] (zz_SH, I, J) _
  refine Ev.run [(.iload_n 1, 1)] (pc' := 1) (L' := [some (.ref 359), some (.int (nI w)), some (.int y), none]) (S' := [.int (nI w)]) rfl (by decide +kernel) rfl ?_
  refine Ev.callS0 mX7_isWord [.int (nI w)] [] _ rfl lk_RX7_162 (by decide +kernel) rfl (Nat.le_of_ble_eq_true rfl) (c_X7_isWord I J (nI w)) ?_
  rintro _ _ ⟨rfl, ⟨rfl, h1⟩ | ⟨rfl, h1⟩⟩
  · show Ev _ _ _ _ _ 4 [some (.ref 359), some (.int (nI w)), some (.int y), none] [.int (nI 1)] (zz_SH, I, J) _
    refine Ev.if_ne (off := 5) (tgt := 9) (by decide +kernel) (by decide) (fun h4 => ?_) (fun h4 => absurd h4 (by decide))
    refine Ev.run [(.iload_n 2, 1), (.iconst (-1), 1), (.bipush 15, 2)] (pc' := 13) (L' := [some (.ref 359), some (.int (nI w)), some (.int y), none]) (S' := [.int (nI 15), .int ((-1)), .int y]) rfl (by decide +kernel) rfl ?_
    refine Ev.callS0 mX7_in [.int y, .int ((-1)), .int (nI 15)] [] _ rfl lk_RX7_79 (by decide +kernel) rfl (Nat.le_of_ble_eq_true rfl) (c_X7_in I J y ((-1)) (nI 15)) ?_
    rintro _ _ ⟨rfl, ⟨rfl, h13⟩ | ⟨rfl, h13⟩⟩
    · exact absurd h13 hy
    · show Ev _ _ _ _ _ 16 [some (.ref 359), some (.int (nI w)), some (.int y), none] [.int (nI 0)] (zz_SH, I, J) _
      refine Ev.if_ne (off := 6) (tgt := 22) (by decide +kernel) (by decide) (fun h16 => absurd h16 (by decide)) (fun h16 => ?_)
      refine Ev.run [(.bipush (-2), 2)] (pc' := 21) (L' := [some (.ref 359), some (.int (nI w)), some (.int y), none]) (S' := [.int ((-2))]) rfl (by decide +kernel) rfl ?_
      exact Ev.iret rfl (by decide +kernel) (⟨rfl, rfl⟩)
  · exact absurd ⟨w, hw, rfl⟩ h1

set_option maxRecDepth 100000 in
set_option maxHeartbeats 4000000 in
theorem c_X7_must_n {sc : Nat × (Nat → Int32)} {d : Nat} (I : Nat → Nat → Int32) (J : Nat → Nat → Int64) (A : zA) (hV : MV (zVm I) A) (hW : WF A) (w : Nat) (hw : w < 16) : EvM sc (d + 2) 0 0 mX7_must [.ref 359, .int (nI w), .int ((-1))] (zz_SH, I, J) (zz_is (.int (ob (mu A w))) (zz_SH, zz_up I 369 w (ob none), J)) := by
  have w1 := hW.1.1
  have w2 := hW.1.2.1
  refine EvM.of (by decide) rfl (Nat.le_of_ble_eq_true rfl) ?_
  show Ev _ _ _ _ _ 0 [some (.ref 359), some (.int (nI w)), some (.int ((-1))), none] [] (zz_SH, I, J) _
  refine Ev.run [(.iload_n 1, 1)] (pc' := 1) (L' := [some (.ref 359), some (.int (nI w)), some (.int ((-1))), none]) (S' := [.int (nI w)]) rfl (by decide +kernel) rfl ?_
  refine Ev.callS0 mX7_isWord [.int (nI w)] [] _ rfl lk_RX7_162 (by decide +kernel) rfl (Nat.le_of_ble_eq_true rfl) (c_X7_isWord I J (nI w)) ?_
  rintro _ _ ⟨rfl, ⟨rfl, h1⟩ | ⟨rfl, h1⟩⟩
  · show Ev _ _ _ _ _ 4 [some (.ref 359), some (.int (nI w)), some (.int ((-1))), none] [.int (nI 1)] (zz_SH, I, J) _
    refine Ev.if_ne (off := 5) (tgt := 9) (by decide +kernel) (by decide) (fun h4 => ?_) (fun h4 => absurd h4 (by decide))
    refine Ev.run [(.iload_n 2, 1), (.iconst (-1), 1), (.bipush 15, 2)] (pc' := 13) (L' := [some (.ref 359), some (.int (nI w)), some (.int ((-1))), none]) (S' := [.int (nI 15), .int ((-1)), .int ((-1))]) rfl (by decide +kernel) rfl ?_
    refine Ev.callS0 mX7_in [.int ((-1)), .int ((-1)), .int (nI 15)] [] _ rfl lk_RX7_79 (by decide +kernel) rfl (Nat.le_of_ble_eq_true rfl) (c_X7_in I J ((-1)) ((-1)) (nI 15)) ?_
    rintro _ _ ⟨rfl, ⟨rfl, h13⟩ | ⟨rfl, h13⟩⟩
    · show Ev _ _ _ _ _ 16 [some (.ref 359), some (.int (nI w)), some (.int ((-1))), none] [.int (nI 1)] (zz_SH, I, J) _
      refine Ev.if_ne (off := 6) (tgt := 22) (by decide +kernel) (by decide) (fun h16 => ?_) (fun h16 => absurd h16 (by decide))
      refine Ev.run [(.aload_n 0, 1), (.getfield 37, 3), (.iload_n 1, 1)] (pc' := 27) (L' := [some (.ref 359), some (.int (nI w)), some (.int ((-1))), none]) (S' := [.int (nI w), .ref 369]) rfl (by decide +kernel) rfl ?_
      refine Ev.iald w (by decide +kernel) (rfl) (rfl) (by omega) (by first | decide | omega) ?_
      dsimp only
      rw [show I 369 w = ob (mu A w) from hV.2.2.2.2.1 w hw]
      refine Ev.run [(.istore_n 3, 1), (.aload_n 0, 1), (.getfield 37, 3), (.iload_n 1, 1), (.iload_n 2, 1)] (pc' := 35) (L' := [some (.ref 359), some (.int (nI w)), some (.int ((-1))), some (.int (ob (mu A w)))]) (S' := [.int ((-1)), .int (nI w), .ref 369]) rfl (by decide +kernel) rfl ?_
      refine Ev.if_ge (off := 8) (tgt := 43) (by decide +kernel) (by decide) (fun h35 => absurd h35 (by decide)) (fun h35 => ?_)
      refine Ev.run [(.bipush (-6), 2)] (pc' := 40) (L' := [some (.ref 359), some (.int (nI w)), some (.int ((-1))), some (.int (ob (mu A w)))]) (S' := [.int ((-6)), .int (nI w), .ref 369]) rfl (by decide +kernel) rfl ?_
      refine Ev.goto (off := 4) (tgt := 44) (by decide +kernel) (by decide) ?_
      refine Ev.iast w (by decide +kernel) (rfl) (rfl) (by omega) (by first | decide | omega) ?_
      dsimp only
      refine Ev.run [(.iload_n 3, 1)] (pc' := 46) (L' := [some (.ref 359), some (.int (nI w)), some (.int ((-1))), some (.int (ob (mu A w)))]) (S' := [.int (ob (mu A w))]) rfl (by decide +kernel) rfl ?_
      exact Ev.iret rfl (by decide +kernel) (⟨rfl, rfl⟩)
    · exact absurd (by decide) h13
  · exact absurd ⟨w, hw, rfl⟩ h1

set_option maxRecDepth 100000 in
set_option maxHeartbeats 4000000 in
theorem c_X7_must_s {sc : Nat × (Nat → Int32)} {d : Nat} (I : Nat → Nat → Int32) (J : Nat → Nat → Int64) (A : zA) (hV : MV (zVm I) A) (hW : WF A) (w a : Nat) (hw : w < 16) (ha : a < 16) : EvM sc (d + 2) 0 0 mX7_must [.ref 359, .int (nI w), .int (nI a)] (zz_SH, I, J) (zz_is (.int (ob (mu A w))) (zz_SH, zz_up I 369 w (ob (some a)), J)) := by
  have w1 := hW.1.1
  have w2 := hW.1.2.1
  refine EvM.of (by decide) rfl (Nat.le_of_ble_eq_true rfl) ?_
  show Ev _ _ _ _ _ 0 [some (.ref 359), some (.int (nI w)), some (.int (nI a)), none] [] (zz_SH, I, J) _
  refine Ev.run [(.iload_n 1, 1)] (pc' := 1) (L' := [some (.ref 359), some (.int (nI w)), some (.int (nI a)), none]) (S' := [.int (nI w)]) rfl (by decide +kernel) rfl ?_
  refine Ev.callS0 mX7_isWord [.int (nI w)] [] _ rfl lk_RX7_162 (by decide +kernel) rfl (Nat.le_of_ble_eq_true rfl) (c_X7_isWord I J (nI w)) ?_
  rintro _ _ ⟨rfl, ⟨rfl, h1⟩ | ⟨rfl, h1⟩⟩
  · show Ev _ _ _ _ _ 4 [some (.ref 359), some (.int (nI w)), some (.int (nI a)), none] [.int (nI 1)] (zz_SH, I, J) _
    refine Ev.if_ne (off := 5) (tgt := 9) (by decide +kernel) (by decide) (fun h4 => ?_) (fun h4 => absurd h4 (by decide))
    refine Ev.run [(.iload_n 2, 1), (.iconst (-1), 1), (.bipush 15, 2)] (pc' := 13) (L' := [some (.ref 359), some (.int (nI w)), some (.int (nI a)), none]) (S' := [.int (nI 15), .int ((-1)), .int (nI a)]) rfl (by decide +kernel) rfl ?_
    refine Ev.callS0 mX7_in [.int (nI a), .int ((-1)), .int (nI 15)] [] _ rfl lk_RX7_79 (by decide +kernel) rfl (Nat.le_of_ble_eq_true rfl) (c_X7_in I J (nI a) ((-1)) (nI 15)) ?_
    rintro _ _ ⟨rfl, ⟨rfl, h13⟩ | ⟨rfl, h13⟩⟩
    · show Ev _ _ _ _ _ 16 [some (.ref 359), some (.int (nI w)), some (.int (nI a)), none] [.int (nI 1)] (zz_SH, I, J) _
      refine Ev.if_ne (off := 6) (tgt := 22) (by decide +kernel) (by decide) (fun h16 => ?_) (fun h16 => absurd h16 (by decide))
      refine Ev.run [(.aload_n 0, 1), (.getfield 37, 3), (.iload_n 1, 1)] (pc' := 27) (L' := [some (.ref 359), some (.int (nI w)), some (.int (nI a)), none]) (S' := [.int (nI w), .ref 369]) rfl (by decide +kernel) rfl ?_
      refine Ev.iald w (by decide +kernel) (rfl) (rfl) (by omega) (by first | decide | omega) ?_
      dsimp only
      rw [show I 369 w = ob (mu A w) from hV.2.2.2.2.1 w hw]
      refine Ev.run [(.istore_n 3, 1), (.aload_n 0, 1), (.getfield 37, 3), (.iload_n 1, 1), (.iload_n 2, 1)] (pc' := 35) (L' := [some (.ref 359), some (.int (nI w)), some (.int (nI a)), some (.int (ob (mu A w)))]) (S' := [.int (nI a), .int (nI w), .ref 369]) rfl (by decide +kernel) rfl ?_
      refine Ev.if_ge (off := 8) (tgt := 43) (by decide +kernel) (by decide) (fun h35 => ?_) (fun h35 => ?_)
      · have h35 : a ≥ 0 := zz_bG_t (by omega) (by omega) h35
        refine Ev.run [(.iload_n 2, 1)] (pc' := 44) (L' := [some (.ref 359), some (.int (nI w)), some (.int (nI a)), some (.int (ob (mu A w)))]) (S' := [.int (nI a), .int (nI w), .ref 369]) rfl (by decide +kernel) rfl ?_
        refine Ev.iast w (by decide +kernel) (rfl) (rfl) (by omega) (by first | decide | omega) ?_
        dsimp only
        refine Ev.run [(.iload_n 3, 1)] (pc' := 46) (L' := [some (.ref 359), some (.int (nI w)), some (.int (nI a)), some (.int (ob (mu A w)))]) (S' := [.int (ob (mu A w))]) rfl (by decide +kernel) rfl ?_
        exact Ev.iret rfl (by decide +kernel) (⟨rfl, rfl⟩)
      · have h35 : a < 0 := zz_bG_f (by omega) (by omega) h35
        exfalso; omega
    · exact absurd (⟨Int32.le_trans (show (-1 : Int32) ≤ nI 0 by decide) (nI_le (Nat.zero_le a) (by omega)), nI_le (by omega) (by decide)⟩) h13
  · exact absurd ⟨w, hw, rfl⟩ h1

set_option maxRecDepth 100000 in
set_option maxHeartbeats 4000000 in
theorem c_X7_length_o {sc : Nat × (Nat → Int32)} {d : Nat} (I : Nat → Nat → Int32) (J : Nat → Nat → Int64) (x y : Int32) (hxy : ¬ (zz_ix x 2 ∧ (nI 1 ≤ y ∧ y ≤ nI 99))) : EvM sc (d + 1) 0 0 mX7_length [.ref 359, .int x, .int y] (zz_SH, I, J) (zz_is (.int (-2)) (zz_SH, I, J)) := by
  refine EvM.of (by decide) rfl (Nat.le_of_ble_eq_true rfl) ?_
  show Ev _ _ _ _ _ 0 [some (.ref 359), some (.int x), some (.int y)] [] (zz_SH, I, J) _
  refine Ev.run [(.iload_n 1, 1), (.iconst 0, 1), (.iconst 1, 1)] (pc' := 3) (L' := [some (.ref 359), some (.int x), some (.int y)]) (S' := [.int (nI 1), .int (nI 0), .int x]) rfl (by decide +kernel) rfl ?_
  refine Ev.callS0 mX7_in [.int x, .int (nI 0), .int (nI 1)] [] _ rfl lk_RX7_79 (by decide +kernel) rfl (Nat.le_of_ble_eq_true rfl) (c_X7_in I J x (nI 0) (nI 1)) ?_
  rintro _ _ ⟨rfl, ⟨rfl, h3⟩ | ⟨rfl, h3⟩⟩
  · show Ev _ _ _ _ _ 6 [some (.ref 359), some (.int x), some (.int y)] [.int (nI 1)] (zz_SH, I, J) _
    rw [show (nI 1 : Int32) = nI 2 - nI 1 by decide, zz_ix_iff (by decide)] at h3
    refine Ev.if_eq (off := 13) (tgt := 19) (by decide +kernel) (by decide) (fun h6 => absurd h6 (by decide)) (fun h6 => ?_)
    refine Ev.run [(.iload_n 2, 1), (.iconst 1, 1), (.bipush 99, 2)] (pc' := 13) (L' := [some (.ref 359), some (.int x), some (.int y)]) (S' := [.int (nI 99), .int (nI 1), .int y]) rfl (by decide +kernel) rfl ?_
    refine Ev.callS0 mX7_in [.int y, .int (nI 1), .int (nI 99)] [] _ rfl lk_RX7_79 (by decide +kernel) rfl (Nat.le_of_ble_eq_true rfl) (c_X7_in I J y (nI 1) (nI 99)) ?_
    rintro _ _ ⟨rfl, ⟨rfl, h13⟩ | ⟨rfl, h13⟩⟩
    · exact absurd ⟨h3, h13⟩ hxy
    · show Ev _ _ _ _ _ 16 [some (.ref 359), some (.int x), some (.int y)] [.int (nI 0)] (zz_SH, I, J) _
      refine Ev.if_ne (off := 6) (tgt := 22) (by decide +kernel) (by decide) (fun h16 => absurd h16 (by decide)) (fun h16 => ?_)
      refine Ev.run [(.bipush (-2), 2)] (pc' := 21) (L' := [some (.ref 359), some (.int x), some (.int y)]) (S' := [.int ((-2))]) rfl (by decide +kernel) rfl ?_
      exact Ev.iret rfl (by decide +kernel) (⟨rfl, rfl⟩)
  · show Ev _ _ _ _ _ 6 [some (.ref 359), some (.int x), some (.int y)] [.int (nI 0)] (zz_SH, I, J) _
    refine Ev.if_eq (off := 13) (tgt := 19) (by decide +kernel) (by decide) (fun h6 => ?_) (fun h6 => absurd h6 (by decide))
    refine Ev.run [(.bipush (-2), 2)] (pc' := 21) (L' := [some (.ref 359), some (.int x), some (.int y)]) (S' := [.int ((-2))]) rfl (by decide +kernel) rfl ?_
    exact Ev.iret rfl (by decide +kernel) (⟨rfl, rfl⟩)

set_option maxRecDepth 100000 in
set_option maxHeartbeats 4000000 in
theorem c_X7_length_f0 {sc : Nat × (Nat → Int32)} {d : Nat} (I : Nat → Nat → Int32) (J : Nat → Nat → Int64) (s : Nat) (hs : I 370 0 = nI s) (hs2 : s ≤ 12) (y : Int32) (hy : nI 1 ≤ y ∧ y ≤ nI 99) (hf : s = 12) : EvM sc (d + 1) 0 0 mX7_length [.ref 359, .int (nI 0), .int y] (zz_SH, I, J) (zz_is (.int (-4)) (zz_SH, I, J)) := by
  refine EvM.of (by decide) rfl (Nat.le_of_ble_eq_true rfl) ?_
  show Ev _ _ _ _ _ 0 [some (.ref 359), some (.int (nI 0)), some (.int y)] [] (zz_SH, I, J) _
  refine Ev.run [(.iload_n 1, 1), (.iconst 0, 1), (.iconst 1, 1)] (pc' := 3) (L' := [some (.ref 359), some (.int (nI 0)), some (.int y)]) (S' := [.int (nI 1), .int (nI 0), .int (nI 0)]) rfl (by decide +kernel) rfl ?_
  refine Ev.callS0 mX7_in [.int (nI 0), .int (nI 0), .int (nI 1)] [] _ rfl lk_RX7_79 (by decide +kernel) rfl (Nat.le_of_ble_eq_true rfl) (c_X7_in I J (nI 0) (nI 0) (nI 1)) ?_
  rintro _ _ ⟨rfl, ⟨rfl, h3⟩ | ⟨rfl, h3⟩⟩
  · show Ev _ _ _ _ _ 6 [some (.ref 359), some (.int (nI 0)), some (.int y)] [.int (nI 1)] (zz_SH, I, J) _
    refine Ev.if_eq (off := 13) (tgt := 19) (by decide +kernel) (by decide) (fun h6 => absurd h6 (by decide)) (fun h6 => ?_)
    refine Ev.run [(.iload_n 2, 1), (.iconst 1, 1), (.bipush 99, 2)] (pc' := 13) (L' := [some (.ref 359), some (.int (nI 0)), some (.int y)]) (S' := [.int (nI 99), .int (nI 1), .int y]) rfl (by decide +kernel) rfl ?_
    refine Ev.callS0 mX7_in [.int y, .int (nI 1), .int (nI 99)] [] _ rfl lk_RX7_79 (by decide +kernel) rfl (Nat.le_of_ble_eq_true rfl) (c_X7_in I J y (nI 1) (nI 99)) ?_
    rintro _ _ ⟨rfl, ⟨rfl, h13⟩ | ⟨rfl, h13⟩⟩
    · show Ev _ _ _ _ _ 16 [some (.ref 359), some (.int (nI 0)), some (.int y)] [.int (nI 1)] (zz_SH, I, J) _
      refine Ev.if_ne (off := 6) (tgt := 22) (by decide +kernel) (by decide) (fun h16 => ?_) (fun h16 => absurd h16 (by decide))
      refine Ev.run [(.aload_n 0, 1), (.getfield 40, 3), (.iload_n 1, 1)] (pc' := 27) (L' := [some (.ref 359), some (.int (nI 0)), some (.int y)]) (S' := [.int (nI 0), .ref 370]) rfl (by decide +kernel) rfl ?_
      refine Ev.iald 0 (by decide +kernel) (rfl) (rfl) (by omega) (by first | decide | omega) ?_
      dsimp only
      rw [show I 370 0 = nI s from hs]
      refine Ev.run [(.bipush 12, 2)] (pc' := 30) (L' := [some (.ref 359), some (.int (nI 0)), some (.int y)]) (S' := [.int (nI 12), .int (nI s)]) rfl (by decide +kernel) rfl ?_
      refine Ev.icmp_ne (off := 6) (tgt := 36) (by decide +kernel) (by decide) (fun h30 => ?_) (fun h30 => ?_)
      · have h30 : ¬ s = 12 := zz_bE_f (by omega) (by omega) h30
        exfalso; omega
      · have h30 : s = 12 := zz_bE_t (by omega) (by omega) h30
        refine Ev.run [(.bipush (-4), 2)] (pc' := 35) (L' := [some (.ref 359), some (.int (nI 0)), some (.int y)]) (S' := [.int ((-4))]) rfl (by decide +kernel) rfl ?_
        exact Ev.iret rfl (by decide +kernel) (⟨rfl, rfl⟩)
    · exact absurd hy h13
  · exact absurd (by decide) h3

set_option maxRecDepth 100000 in
set_option maxHeartbeats 4000000 in
theorem c_X7_length_k0 {sc : Nat × (Nat → Int32)} {d : Nat} (I : Nat → Nat → Int32) (J : Nat → Nat → Int64) (s : Nat) (hs : I 370 0 = nI s) (hs2 : s ≤ 12) (y : Int32) (hy : nI 1 ≤ y ∧ y ≤ nI 99) (hf : s < 12) : EvM sc (d + 1) 0 0 mX7_length [.ref 359, .int (nI 0), .int y] (zz_SH, I, J) (zz_is (.int (nI (s + 1))) (zz_SH, zz_up (zz_up I 371 (12 * 0 + s) y) 370 0 (nI (s + 1)), J)) := by
  refine EvM.of (by decide) rfl (Nat.le_of_ble_eq_true rfl) ?_
  show Ev _ _ _ _ _ 0 [some (.ref 359), some (.int (nI 0)), some (.int y)] [] (zz_SH, I, J) _
  refine Ev.run [(.iload_n 1, 1), (.iconst 0, 1), (.iconst 1, 1)] (pc' := 3) (L' := [some (.ref 359), some (.int (nI 0)), some (.int y)]) (S' := [.int (nI 1), .int (nI 0), .int (nI 0)]) rfl (by decide +kernel) rfl ?_
  refine Ev.callS0 mX7_in [.int (nI 0), .int (nI 0), .int (nI 1)] [] _ rfl lk_RX7_79 (by decide +kernel) rfl (Nat.le_of_ble_eq_true rfl) (c_X7_in I J (nI 0) (nI 0) (nI 1)) ?_
  rintro _ _ ⟨rfl, ⟨rfl, h3⟩ | ⟨rfl, h3⟩⟩
  · show Ev _ _ _ _ _ 6 [some (.ref 359), some (.int (nI 0)), some (.int y)] [.int (nI 1)] (zz_SH, I, J) _
    refine Ev.if_eq (off := 13) (tgt := 19) (by decide +kernel) (by decide) (fun h6 => absurd h6 (by decide)) (fun h6 => ?_)
    refine Ev.run [(.iload_n 2, 1), (.iconst 1, 1), (.bipush 99, 2)] (pc' := 13) (L' := [some (.ref 359), some (.int (nI 0)), some (.int y)]) (S' := [.int (nI 99), .int (nI 1), .int y]) rfl (by decide +kernel) rfl ?_
    refine Ev.callS0 mX7_in [.int y, .int (nI 1), .int (nI 99)] [] _ rfl lk_RX7_79 (by decide +kernel) rfl (Nat.le_of_ble_eq_true rfl) (c_X7_in I J y (nI 1) (nI 99)) ?_
    rintro _ _ ⟨rfl, ⟨rfl, h13⟩ | ⟨rfl, h13⟩⟩
    · show Ev _ _ _ _ _ 16 [some (.ref 359), some (.int (nI 0)), some (.int y)] [.int (nI 1)] (zz_SH, I, J) _
      refine Ev.if_ne (off := 6) (tgt := 22) (by decide +kernel) (by decide) (fun h16 => ?_) (fun h16 => absurd h16 (by decide))
      refine Ev.run [(.aload_n 0, 1), (.getfield 40, 3), (.iload_n 1, 1)] (pc' := 27) (L' := [some (.ref 359), some (.int (nI 0)), some (.int y)]) (S' := [.int (nI 0), .ref 370]) rfl (by decide +kernel) rfl ?_
      refine Ev.iald 0 (by decide +kernel) (rfl) (rfl) (by omega) (by first | decide | omega) ?_
      dsimp only
      rw [show I 370 0 = nI s from hs]
      refine Ev.run [(.bipush 12, 2)] (pc' := 30) (L' := [some (.ref 359), some (.int (nI 0)), some (.int y)]) (S' := [.int (nI 12), .int (nI s)]) rfl (by decide +kernel) rfl ?_
      refine Ev.icmp_ne (off := 6) (tgt := 36) (by decide +kernel) (by decide) (fun h30 => ?_) (fun h30 => ?_)
      · have h30 : ¬ s = 12 := zz_bE_f (by omega) (by omega) h30
        refine Ev.run [(.aload_n 0, 1), (.getfield 43, 3), (.bipush 12, 2), (.iload_n 1, 1), (.imul, 1)] (pc' := 44) (L' := [some (.ref 359), some (.int (nI 0)), some (.int y)]) (S' := [.int (nI 12 * nI 0), .ref 371]) rfl (by decide +kernel) rfl ?_
        rw [pk_mul 12 0]
        refine Ev.run [(.aload_n 0, 1), (.getfield 40, 3), (.iload_n 1, 1)] (pc' := 49) (L' := [some (.ref 359), some (.int (nI 0)), some (.int y)]) (S' := [.int (nI 0), .ref 370, .int (nI (12 * 0)), .ref 371]) rfl (by decide +kernel) rfl ?_
        refine Ev.iald 0 (by decide +kernel) (rfl) (rfl) (by omega) (by first | decide | omega) ?_
        dsimp only
        rw [show I 370 0 = nI s from hs]
        refine Ev.run [(.iadd, 1)] (pc' := 51) (L' := [some (.ref 359), some (.int (nI 0)), some (.int y)]) (S' := [.int (nI (12 * 0) + nI s), .ref 371]) rfl (by decide +kernel) rfl ?_
        rw [nI_add (12 * 0) s]
        refine Ev.run [(.iload_n 2, 1)] (pc' := 52) (L' := [some (.ref 359), some (.int (nI 0)), some (.int y)]) (S' := [.int y, .int (nI ((12 * 0) + s)), .ref 371]) rfl (by decide +kernel) rfl ?_
        refine Ev.iast ((12 * 0) + s) (by decide +kernel) (rfl) (rfl) (by omega) (by first | decide | omega) ?_
        dsimp only
        refine Ev.run [(.aload_n 0, 1), (.getfield 40, 3), (.iload_n 1, 1), (.dup2, 1)] (pc' := 59) (L' := [some (.ref 359), some (.int (nI 0)), some (.int y)]) (S' := [.int (nI 0), .ref 370, .int (nI 0), .ref 370]) rfl (by decide +kernel) rfl ?_
        refine Ev.iald 0 (by decide +kernel) (rfl) (rfl) (by omega) (by first | decide | omega) ?_
        dsimp only
        rw [show (zz_up I 371 (12 * 0 + s) y) 370 0 = nI s from by rw [zz_up_ne (by decide)]; exact hs]
        refine Ev.run [(.iconst 1, 1), (.iadd, 1)] (pc' := 62) (L' := [some (.ref 359), some (.int (nI 0)), some (.int y)]) (S' := [.int (nI s + nI 1), .int (nI 0), .ref 370]) rfl (by decide +kernel) rfl ?_
        rw [nI_add s 1]
        refine Ev.iast 0 (by decide +kernel) (rfl) (rfl) (by omega) (by first | decide | omega) ?_
        dsimp only
        refine Ev.run [(.aload_n 0, 1), (.getfield 40, 3), (.iload_n 1, 1)] (pc' := 68) (L' := [some (.ref 359), some (.int (nI 0)), some (.int y)]) (S' := [.int (nI 0), .ref 370]) rfl (by decide +kernel) rfl ?_
        refine Ev.iald 0 (by decide +kernel) (rfl) (rfl) (by omega) (by first | decide | omega) ?_
        dsimp only
        rw [show (zz_up (zz_up I 371 (12 * 0 + s) y) 370 0 (nI (s + 1))) 370 0 = nI (s + 1) from by rw [zz_up_eq, zz_ups]]
        exact Ev.iret rfl (by decide +kernel) (⟨rfl, rfl⟩)
      · have h30 : s = 12 := zz_bE_t (by omega) (by omega) h30
        exfalso; omega
    · exact absurd hy h13
  · exact absurd (by decide) h3

set_option maxRecDepth 100000 in
set_option maxHeartbeats 4000000 in
theorem c_X7_length_f1 {sc : Nat × (Nat → Int32)} {d : Nat} (I : Nat → Nat → Int32) (J : Nat → Nat → Int64) (s : Nat) (hs : I 370 1 = nI s) (hs2 : s ≤ 12) (y : Int32) (hy : nI 1 ≤ y ∧ y ≤ nI 99) (hf : s = 12) : EvM sc (d + 1) 0 0 mX7_length [.ref 359, .int (nI 1), .int y] (zz_SH, I, J) (zz_is (.int (-4)) (zz_SH, I, J)) := by
  refine EvM.of (by decide) rfl (Nat.le_of_ble_eq_true rfl) ?_
  show Ev _ _ _ _ _ 0 [some (.ref 359), some (.int (nI 1)), some (.int y)] [] (zz_SH, I, J) _
  refine Ev.run [(.iload_n 1, 1), (.iconst 0, 1), (.iconst 1, 1)] (pc' := 3) (L' := [some (.ref 359), some (.int (nI 1)), some (.int y)]) (S' := [.int (nI 1), .int (nI 0), .int (nI 1)]) rfl (by decide +kernel) rfl ?_
  refine Ev.callS0 mX7_in [.int (nI 1), .int (nI 0), .int (nI 1)] [] _ rfl lk_RX7_79 (by decide +kernel) rfl (Nat.le_of_ble_eq_true rfl) (c_X7_in I J (nI 1) (nI 0) (nI 1)) ?_
  rintro _ _ ⟨rfl, ⟨rfl, h3⟩ | ⟨rfl, h3⟩⟩
  · show Ev _ _ _ _ _ 6 [some (.ref 359), some (.int (nI 1)), some (.int y)] [.int (nI 1)] (zz_SH, I, J) _
    refine Ev.if_eq (off := 13) (tgt := 19) (by decide +kernel) (by decide) (fun h6 => absurd h6 (by decide)) (fun h6 => ?_)
    refine Ev.run [(.iload_n 2, 1), (.iconst 1, 1), (.bipush 99, 2)] (pc' := 13) (L' := [some (.ref 359), some (.int (nI 1)), some (.int y)]) (S' := [.int (nI 99), .int (nI 1), .int y]) rfl (by decide +kernel) rfl ?_
    refine Ev.callS0 mX7_in [.int y, .int (nI 1), .int (nI 99)] [] _ rfl lk_RX7_79 (by decide +kernel) rfl (Nat.le_of_ble_eq_true rfl) (c_X7_in I J y (nI 1) (nI 99)) ?_
    rintro _ _ ⟨rfl, ⟨rfl, h13⟩ | ⟨rfl, h13⟩⟩
    · show Ev _ _ _ _ _ 16 [some (.ref 359), some (.int (nI 1)), some (.int y)] [.int (nI 1)] (zz_SH, I, J) _
      refine Ev.if_ne (off := 6) (tgt := 22) (by decide +kernel) (by decide) (fun h16 => ?_) (fun h16 => absurd h16 (by decide))
      refine Ev.run [(.aload_n 0, 1), (.getfield 40, 3), (.iload_n 1, 1)] (pc' := 27) (L' := [some (.ref 359), some (.int (nI 1)), some (.int y)]) (S' := [.int (nI 1), .ref 370]) rfl (by decide +kernel) rfl ?_
      refine Ev.iald 1 (by decide +kernel) (rfl) (rfl) (by omega) (by first | decide | omega) ?_
      dsimp only
      rw [show I 370 1 = nI s from hs]
      refine Ev.run [(.bipush 12, 2)] (pc' := 30) (L' := [some (.ref 359), some (.int (nI 1)), some (.int y)]) (S' := [.int (nI 12), .int (nI s)]) rfl (by decide +kernel) rfl ?_
      refine Ev.icmp_ne (off := 6) (tgt := 36) (by decide +kernel) (by decide) (fun h30 => ?_) (fun h30 => ?_)
      · have h30 : ¬ s = 12 := zz_bE_f (by omega) (by omega) h30
        exfalso; omega
      · have h30 : s = 12 := zz_bE_t (by omega) (by omega) h30
        refine Ev.run [(.bipush (-4), 2)] (pc' := 35) (L' := [some (.ref 359), some (.int (nI 1)), some (.int y)]) (S' := [.int ((-4))]) rfl (by decide +kernel) rfl ?_
        exact Ev.iret rfl (by decide +kernel) (⟨rfl, rfl⟩)
    · exact absurd hy h13
  · exact absurd (by decide) h3

set_option maxRecDepth 100000 in
set_option maxHeartbeats 4000000 in
theorem c_X7_length_k1 {sc : Nat × (Nat → Int32)} {d : Nat} (I : Nat → Nat → Int32) (J : Nat → Nat → Int64) (s : Nat) (hs : I 370 1 = nI s) (hs2 : s ≤ 12) (y : Int32) (hy : nI 1 ≤ y ∧ y ≤ nI 99) (hf : s < 12) : EvM sc (d + 1) 0 0 mX7_length [.ref 359, .int (nI 1), .int y] (zz_SH, I, J) (zz_is (.int (nI (s + 1))) (zz_SH, zz_up (zz_up I 371 (12 * 1 + s) y) 370 1 (nI (s + 1)), J)) := by
  refine EvM.of (by decide) rfl (Nat.le_of_ble_eq_true rfl) ?_
  show Ev _ _ _ _ _ 0 [some (.ref 359), some (.int (nI 1)), some (.int y)] [] (zz_SH, I, J) _
  refine Ev.run [(.iload_n 1, 1), (.iconst 0, 1), (.iconst 1, 1)] (pc' := 3) (L' := [some (.ref 359), some (.int (nI 1)), some (.int y)]) (S' := [.int (nI 1), .int (nI 0), .int (nI 1)]) rfl (by decide +kernel) rfl ?_
  refine Ev.callS0 mX7_in [.int (nI 1), .int (nI 0), .int (nI 1)] [] _ rfl lk_RX7_79 (by decide +kernel) rfl (Nat.le_of_ble_eq_true rfl) (c_X7_in I J (nI 1) (nI 0) (nI 1)) ?_
  rintro _ _ ⟨rfl, ⟨rfl, h3⟩ | ⟨rfl, h3⟩⟩
  · show Ev _ _ _ _ _ 6 [some (.ref 359), some (.int (nI 1)), some (.int y)] [.int (nI 1)] (zz_SH, I, J) _
    refine Ev.if_eq (off := 13) (tgt := 19) (by decide +kernel) (by decide) (fun h6 => absurd h6 (by decide)) (fun h6 => ?_)
    refine Ev.run [(.iload_n 2, 1), (.iconst 1, 1), (.bipush 99, 2)] (pc' := 13) (L' := [some (.ref 359), some (.int (nI 1)), some (.int y)]) (S' := [.int (nI 99), .int (nI 1), .int y]) rfl (by decide +kernel) rfl ?_
    refine Ev.callS0 mX7_in [.int y, .int (nI 1), .int (nI 99)] [] _ rfl lk_RX7_79 (by decide +kernel) rfl (Nat.le_of_ble_eq_true rfl) (c_X7_in I J y (nI 1) (nI 99)) ?_
    rintro _ _ ⟨rfl, ⟨rfl, h13⟩ | ⟨rfl, h13⟩⟩
    · show Ev _ _ _ _ _ 16 [some (.ref 359), some (.int (nI 1)), some (.int y)] [.int (nI 1)] (zz_SH, I, J) _
      refine Ev.if_ne (off := 6) (tgt := 22) (by decide +kernel) (by decide) (fun h16 => ?_) (fun h16 => absurd h16 (by decide))
      refine Ev.run [(.aload_n 0, 1), (.getfield 40, 3), (.iload_n 1, 1)] (pc' := 27) (L' := [some (.ref 359), some (.int (nI 1)), some (.int y)]) (S' := [.int (nI 1), .ref 370]) rfl (by decide +kernel) rfl ?_
      refine Ev.iald 1 (by decide +kernel) (rfl) (rfl) (by omega) (by first | decide | omega) ?_
      dsimp only
      rw [show I 370 1 = nI s from hs]
      refine Ev.run [(.bipush 12, 2)] (pc' := 30) (L' := [some (.ref 359), some (.int (nI 1)), some (.int y)]) (S' := [.int (nI 12), .int (nI s)]) rfl (by decide +kernel) rfl ?_
      refine Ev.icmp_ne (off := 6) (tgt := 36) (by decide +kernel) (by decide) (fun h30 => ?_) (fun h30 => ?_)
      · have h30 : ¬ s = 12 := zz_bE_f (by omega) (by omega) h30
        refine Ev.run [(.aload_n 0, 1), (.getfield 43, 3), (.bipush 12, 2), (.iload_n 1, 1), (.imul, 1)] (pc' := 44) (L' := [some (.ref 359), some (.int (nI 1)), some (.int y)]) (S' := [.int (nI 12 * nI 1), .ref 371]) rfl (by decide +kernel) rfl ?_
        rw [pk_mul 12 1]
        refine Ev.run [(.aload_n 0, 1), (.getfield 40, 3), (.iload_n 1, 1)] (pc' := 49) (L' := [some (.ref 359), some (.int (nI 1)), some (.int y)]) (S' := [.int (nI 1), .ref 370, .int (nI (12 * 1)), .ref 371]) rfl (by decide +kernel) rfl ?_
        refine Ev.iald 1 (by decide +kernel) (rfl) (rfl) (by omega) (by first | decide | omega) ?_
        dsimp only
        rw [show I 370 1 = nI s from hs]
        refine Ev.run [(.iadd, 1)] (pc' := 51) (L' := [some (.ref 359), some (.int (nI 1)), some (.int y)]) (S' := [.int (nI (12 * 1) + nI s), .ref 371]) rfl (by decide +kernel) rfl ?_
        rw [nI_add (12 * 1) s]
        refine Ev.run [(.iload_n 2, 1)] (pc' := 52) (L' := [some (.ref 359), some (.int (nI 1)), some (.int y)]) (S' := [.int y, .int (nI ((12 * 1) + s)), .ref 371]) rfl (by decide +kernel) rfl ?_
        refine Ev.iast ((12 * 1) + s) (by decide +kernel) (rfl) (rfl) (by omega) (by first | decide | omega) ?_
        dsimp only
        refine Ev.run [(.aload_n 0, 1), (.getfield 40, 3), (.iload_n 1, 1), (.dup2, 1)] (pc' := 59) (L' := [some (.ref 359), some (.int (nI 1)), some (.int y)]) (S' := [.int (nI 1), .ref 370, .int (nI 1), .ref 370]) rfl (by decide +kernel) rfl ?_
        refine Ev.iald 1 (by decide +kernel) (rfl) (rfl) (by omega) (by first | decide | omega) ?_
        dsimp only
        rw [show (zz_up I 371 (12 * 1 + s) y) 370 1 = nI s from by rw [zz_up_ne (by decide)]; exact hs]
        refine Ev.run [(.iconst 1, 1), (.iadd, 1)] (pc' := 62) (L' := [some (.ref 359), some (.int (nI 1)), some (.int y)]) (S' := [.int (nI s + nI 1), .int (nI 1), .ref 370]) rfl (by decide +kernel) rfl ?_
        rw [nI_add s 1]
        refine Ev.iast 1 (by decide +kernel) (rfl) (rfl) (by omega) (by first | decide | omega) ?_
        dsimp only
        refine Ev.run [(.aload_n 0, 1), (.getfield 40, 3), (.iload_n 1, 1)] (pc' := 68) (L' := [some (.ref 359), some (.int (nI 1)), some (.int y)]) (S' := [.int (nI 1), .ref 370]) rfl (by decide +kernel) rfl ?_
        refine Ev.iald 1 (by decide +kernel) (rfl) (rfl) (by omega) (by first | decide | omega) ?_
        dsimp only
        rw [show (zz_up (zz_up I 371 (12 * 1 + s) y) 370 1 (nI (s + 1))) 370 1 = nI (s + 1) from by rw [zz_up_eq, zz_ups]]
        exact Ev.iret rfl (by decide +kernel) (⟨rfl, rfl⟩)
      · have h30 : s = 12 := zz_bE_t (by omega) (by omega) h30
        exfalso; omega
    · exact absurd hy h13
  · exact absurd (by decide) h3

set_option maxRecDepth 100000 in
set_option maxHeartbeats 4000000 in
theorem c_X7_lengths {sc : Nat × (Nat → Int32)} {d : Nat} (I : Nat → Nat → Int32) (J : Nat → Nat → Int64) (a b : Nat) (ha : I 370 0 = nI a) (hb : I 370 1 = nI b) : EvM sc (d) 0 0 mX7_lengths [.ref 359] (zz_SH, I, J) (zz_is (.int (nI (a + b))) (zz_SH, zz_up (zz_up I 370 0 (nI 0)) 370 1 (nI 0), J)) := by
  refine EvM.of (by decide) rfl (Nat.le_of_ble_eq_true rfl) ?_
  show Ev _ _ _ _ _ 0 [some (.ref 359), none] [] (zz_SH, I, J) _
  refine Ev.run [(.aload_n 0, 1), (.getfield 40, 3), (.iconst 0, 1)] (pc' := 5) (L' := [some (.ref 359), none]) (S' := [.int (nI 0), .ref 370]) rfl (by decide +kernel) rfl ?_
  refine Ev.iald 0 (by decide +kernel) (rfl) (rfl) (by omega) (by first | decide | omega) ?_
  dsimp only
  rw [show I 370 0 = nI a from ha]
  refine Ev.run [(.aload_n 0, 1), (.getfield 40, 3), (.iconst 1, 1)] (pc' := 11) (L' := [some (.ref 359), none]) (S' := [.int (nI 1), .ref 370, .int (nI a)]) rfl (by decide +kernel) rfl ?_
  refine Ev.iald 1 (by decide +kernel) (rfl) (rfl) (by omega) (by first | decide | omega) ?_
  dsimp only
  rw [show I 370 1 = nI b from hb]
  refine Ev.run [(.iadd, 1)] (pc' := 13) (L' := [some (.ref 359), none]) (S' := [.int (nI a + nI b)]) rfl (by decide +kernel) rfl ?_
  rw [nI_add a b]
  refine Ev.run [(.istore_n 1, 1), (.aload_n 0, 1), (.getfield 40, 3), (.iconst 0, 1), (.iconst 0, 1)] (pc' := 20) (L' := [some (.ref 359), some (.int (nI (a + b)))]) (S' := [.int (nI 0), .int (nI 0), .ref 370]) rfl (by decide +kernel) rfl ?_
  refine Ev.iast 0 (by decide +kernel) (rfl) (rfl) (by omega) (by first | decide | omega) ?_
  dsimp only
  refine Ev.run [(.aload_n 0, 1), (.getfield 40, 3), (.iconst 1, 1), (.iconst 0, 1)] (pc' := 27) (L' := [some (.ref 359), some (.int (nI (a + b)))]) (S' := [.int (nI 0), .int (nI 1), .ref 370]) rfl (by decide +kernel) rfl ?_
  refine Ev.iast 1 (by decide +kernel) (rfl) (rfl) (by omega) (by first | decide | omega) ?_
  dsimp only
  refine Ev.run [(.iload_n 1, 1)] (pc' := 29) (L' := [some (.ref 359), some (.int (nI (a + b)))]) (S' := [.int (nI (a + b))]) rfl (by decide +kernel) rfl ?_
  exact Ev.iret rfl (by decide +kernel) (⟨rfl, rfl⟩)

set_option maxRecDepth 100000 in
set_option maxHeartbeats 4000000 in
theorem c_X7_told_r {sc : Nat × (Nat → Int32)} {d : Nat} (I : Nat → Nat → Int32) (J : Nat → Nat → Int64) (A : zA) (hV : MV (zVm I) A) (hW : WF A) (b : Nat) (hb : b < 5) : EvM sc (d + 1) 0 0 mX7_told [.ref 359, .int (nI (10 + b))] (zz_SH, I, J) (zz_is (.int (nI (rt A b))) (zz_SH, I, J)) := by
  have w1 := hW.1.1
  have w2 := hW.1.2.1
  refine EvM.of (by decide) rfl (Nat.le_of_ble_eq_true rfl) ?_
  show Ev _ _ _ _ _ 0 [some (.ref 359), some (.int (nI (10 + b)))] [] (zz_SH, I, J) _
  refine Ev.run [(.iload_n 1, 1), (.bipush 10, 2), (.bipush 14, 2)] (pc' := 5) (L' := [some (.ref 359), some (.int (nI (10 + b)))]) (S' := [.int (nI 14), .int (nI 10), .int (nI (10 + b))]) rfl (by decide +kernel) rfl ?_
  refine Ev.callS0 mX7_in [.int (nI (10 + b)), .int (nI 10), .int (nI 14)] [] _ rfl lk_RX7_79 (by decide +kernel) rfl (Nat.le_of_ble_eq_true rfl) (c_X7_in I J (nI (10 + b)) (nI 10) (nI 14)) ?_
  rintro _ _ ⟨rfl, ⟨rfl, h5⟩ | ⟨rfl, h5⟩⟩
  · show Ev _ _ _ _ _ 8 [some (.ref 359), some (.int (nI (10 + b)))] [.int (nI 1)] (zz_SH, I, J) _
    refine Ev.if_eq (off := 13) (tgt := 21) (by decide +kernel) (by decide) (fun h8 => absurd h8 (by decide)) (fun h8 => ?_)
    refine Ev.run [(.aload_n 0, 1), (.getfield 34, 3), (.iload_n 1, 1), (.bipush 10, 2), (.isub, 1)] (pc' := 19) (L' := [some (.ref 359), some (.int (nI (10 + b)))]) (S' := [.int (nI (10 + b) - nI 10), .ref 368]) rfl (by decide +kernel) rfl ?_
    rw [show nI (10 + b) - nI 10 = nI b from zz_sub (by omega)]
    refine Ev.iald b (by decide +kernel) (rfl) (rfl) (by omega) (by first | decide | omega) ?_
    dsimp only
    rw [show I 368 b = nI (rt A b) from hV.2.2.2.1 b hb]
    exact Ev.iret rfl (by decide +kernel) (⟨rfl, rfl⟩)
  · exact absurd ((zz_rng (a := 10) (b := 14) (x := 10 + b) (by omega) (by omega) (by omega)).mpr (by omega)) h5

set_option maxRecDepth 100000 in
set_option maxHeartbeats 4000000 in
theorem c_X7_told_m {sc : Nat × (Nat → Int32)} {d : Nat} (I : Nat → Nat → Int32) (J : Nat → Nat → Int64) (A : zA) (hV : MV (zVm I) A) (hW : WF A) (w : Nat) (hw : w < 16) : EvM sc (d + 1) 0 0 mX7_told [.ref 359, .int (nI (20 + w))] (zz_SH, I, J) (zz_is (.int (ob (mu A w))) (zz_SH, I, J)) := by
  have w1 := hW.1.1
  have w2 := hW.1.2.1
  refine EvM.of (by decide) rfl (Nat.le_of_ble_eq_true rfl) ?_
  show Ev _ _ _ _ _ 0 [some (.ref 359), some (.int (nI (20 + w)))] [] (zz_SH, I, J) _
  refine Ev.run [(.iload_n 1, 1), (.bipush 10, 2), (.bipush 14, 2)] (pc' := 5) (L' := [some (.ref 359), some (.int (nI (20 + w)))]) (S' := [.int (nI 14), .int (nI 10), .int (nI (20 + w))]) rfl (by decide +kernel) rfl ?_
  refine Ev.callS0 mX7_in [.int (nI (20 + w)), .int (nI 10), .int (nI 14)] [] _ rfl lk_RX7_79 (by decide +kernel) rfl (Nat.le_of_ble_eq_true rfl) (c_X7_in I J (nI (20 + w)) (nI 10) (nI 14)) ?_
  rintro _ _ ⟨rfl, ⟨rfl, h5⟩ | ⟨rfl, h5⟩⟩
  · exact absurd h5 (fun q => absurd ((zz_rng (a := 10) (b := 14) (x := 20 + w) (by omega) (by omega) (by omega)).mp q) (by omega))
  · show Ev _ _ _ _ _ 8 [some (.ref 359), some (.int (nI (20 + w)))] [.int (nI 0)] (zz_SH, I, J) _
    refine Ev.if_eq (off := 13) (tgt := 21) (by decide +kernel) (by decide) (fun h8 => ?_) (fun h8 => absurd h8 (by decide))
    refine Ev.run [(.iload_n 1, 1), (.bipush 20, 2), (.bipush 35, 2)] (pc' := 26) (L' := [some (.ref 359), some (.int (nI (20 + w)))]) (S' := [.int (nI 35), .int (nI 20), .int (nI (20 + w))]) rfl (by decide +kernel) rfl ?_
    refine Ev.callS0 mX7_in [.int (nI (20 + w)), .int (nI 20), .int (nI 35)] [] _ rfl lk_RX7_79 (by decide +kernel) rfl (Nat.le_of_ble_eq_true rfl) (c_X7_in I J (nI (20 + w)) (nI 20) (nI 35)) ?_
    rintro _ _ ⟨rfl, ⟨rfl, h26⟩ | ⟨rfl, h26⟩⟩
    · show Ev _ _ _ _ _ 29 [some (.ref 359), some (.int (nI (20 + w)))] [.int (nI 1)] (zz_SH, I, J) _
      refine Ev.if_eq (off := 13) (tgt := 42) (by decide +kernel) (by decide) (fun h29 => absurd h29 (by decide)) (fun h29 => ?_)
      refine Ev.run [(.aload_n 0, 1), (.getfield 37, 3), (.iload_n 1, 1), (.bipush 20, 2), (.isub, 1)] (pc' := 40) (L' := [some (.ref 359), some (.int (nI (20 + w)))]) (S' := [.int (nI (20 + w) - nI 20), .ref 369]) rfl (by decide +kernel) rfl ?_
      rw [show nI (20 + w) - nI 20 = nI w from zz_sub (by omega)]
      refine Ev.iald w (by decide +kernel) (rfl) (rfl) (by omega) (by first | decide | omega) ?_
      dsimp only
      rw [show I 369 w = ob (mu A w) from hV.2.2.2.2.1 w hw]
      exact Ev.iret rfl (by decide +kernel) (⟨rfl, rfl⟩)
    · exact absurd ((zz_rng (a := 20) (b := 35) (x := 20 + w) (by omega) (by omega) (by omega)).mpr (by omega)) h26

set_option maxRecDepth 100000 in
set_option maxHeartbeats 4000000 in
theorem c_X7_told_0 {sc : Nat × (Nat → Int32)} {d : Nat} (I : Nat → Nat → Int32) (J : Nat → Nat → Int64) (A : zA) (hV : MV (zVm I) A) (hW : WF A) (np : Nat) (hn : I 359 0 = nI np) (hnp : np ≤ 30) : EvM sc (d + 1) 0 0 mX7_told [.ref 359, .int (nI 0)] (zz_SH, I, J) (zz_is (.int (nI np)) (zz_SH, I, J)) := by
  have w1 := hW.1.1
  have w2 := hW.1.2.1
  refine EvM.of (by decide) rfl (Nat.le_of_ble_eq_true rfl) ?_
  show Ev _ _ _ _ _ 0 [some (.ref 359), some (.int (nI 0))] [] (zz_SH, I, J) _
  refine Ev.run [(.iload_n 1, 1), (.bipush 10, 2), (.bipush 14, 2)] (pc' := 5) (L' := [some (.ref 359), some (.int (nI 0))]) (S' := [.int (nI 14), .int (nI 10), .int (nI 0)]) rfl (by decide +kernel) rfl ?_
  refine Ev.callS0 mX7_in [.int (nI 0), .int (nI 10), .int (nI 14)] [] _ rfl lk_RX7_79 (by decide +kernel) rfl (Nat.le_of_ble_eq_true rfl) (c_X7_in I J (nI 0) (nI 10) (nI 14)) ?_
  rintro _ _ ⟨rfl, ⟨rfl, h5⟩ | ⟨rfl, h5⟩⟩
  · exact absurd h5 (by decide)
  · show Ev _ _ _ _ _ 8 [some (.ref 359), some (.int (nI 0))] [.int (nI 0)] (zz_SH, I, J) _
    refine Ev.if_eq (off := 13) (tgt := 21) (by decide +kernel) (by decide) (fun h8 => ?_) (fun h8 => absurd h8 (by decide))
    refine Ev.run [(.iload_n 1, 1), (.bipush 20, 2), (.bipush 35, 2)] (pc' := 26) (L' := [some (.ref 359), some (.int (nI 0))]) (S' := [.int (nI 35), .int (nI 20), .int (nI 0)]) rfl (by decide +kernel) rfl ?_
    refine Ev.callS0 mX7_in [.int (nI 0), .int (nI 20), .int (nI 35)] [] _ rfl lk_RX7_79 (by decide +kernel) rfl (Nat.le_of_ble_eq_true rfl) (c_X7_in I J (nI 0) (nI 20) (nI 35)) ?_
    rintro _ _ ⟨rfl, ⟨rfl, h26⟩ | ⟨rfl, h26⟩⟩
    · exact absurd h26 (by decide)
    · show Ev _ _ _ _ _ 29 [some (.ref 359), some (.int (nI 0))] [.int (nI 0)] (zz_SH, I, J) _
      refine Ev.if_eq (off := 13) (tgt := 42) (by decide +kernel) (by decide) (fun h29 => ?_) (fun h29 => absurd h29 (by decide))
      refine Ev.run [(.iload_n 1, 1)] (pc' := 43) (L' := [some (.ref 359), some (.int (nI 0))]) (S' := [.int (nI 0)]) rfl (by decide +kernel) rfl ?_
      refine Ev.if_ne (off := 10) (tgt := 53) (by decide +kernel) (by decide) (fun h43 => absurd h43 (by decide)) (fun h43 => ?_)
      refine Ev.run [(.aload_n 0, 1), (.getfield 86, 3)] (pc' := 50) (L' := [some (.ref 359), some (.int (nI 0))]) (S' := [.int (I 359 0)]) rfl (by decide +kernel) rfl ?_
      rw [hn]
      refine Ev.goto (off := 49) (tgt := 99) (by decide +kernel) (by decide) ?_
      exact Ev.iret rfl (by decide +kernel) (⟨rfl, rfl⟩)

set_option maxRecDepth 100000 in
set_option maxHeartbeats 4000000 in
theorem c_X7_told_1 {sc : Nat × (Nat → Int32)} {d : Nat} (I : Nat → Nat → Int32) (J : Nat → Nat → Int64) (A : zA) (hV : MV (zVm I) A) (hW : WF A) (np : Nat) (hn : I 359 0 = nI np) (hnp : np ≤ 30) : EvM sc (d + 1) 0 0 mX7_told [.ref 359, .int (nI 1)] (zz_SH, I, J) (zz_is (.int (nI (aN A))) (zz_SH, I, J)) := by
  have w1 := hW.1.1
  have w2 := hW.1.2.1
  refine EvM.of (by decide) rfl (Nat.le_of_ble_eq_true rfl) ?_
  show Ev _ _ _ _ _ 0 [some (.ref 359), some (.int (nI 1))] [] (zz_SH, I, J) _
  refine Ev.run [(.iload_n 1, 1), (.bipush 10, 2), (.bipush 14, 2)] (pc' := 5) (L' := [some (.ref 359), some (.int (nI 1))]) (S' := [.int (nI 14), .int (nI 10), .int (nI 1)]) rfl (by decide +kernel) rfl ?_
  refine Ev.callS0 mX7_in [.int (nI 1), .int (nI 10), .int (nI 14)] [] _ rfl lk_RX7_79 (by decide +kernel) rfl (Nat.le_of_ble_eq_true rfl) (c_X7_in I J (nI 1) (nI 10) (nI 14)) ?_
  rintro _ _ ⟨rfl, ⟨rfl, h5⟩ | ⟨rfl, h5⟩⟩
  · exact absurd h5 (by decide)
  · show Ev _ _ _ _ _ 8 [some (.ref 359), some (.int (nI 1))] [.int (nI 0)] (zz_SH, I, J) _
    refine Ev.if_eq (off := 13) (tgt := 21) (by decide +kernel) (by decide) (fun h8 => ?_) (fun h8 => absurd h8 (by decide))
    refine Ev.run [(.iload_n 1, 1), (.bipush 20, 2), (.bipush 35, 2)] (pc' := 26) (L' := [some (.ref 359), some (.int (nI 1))]) (S' := [.int (nI 35), .int (nI 20), .int (nI 1)]) rfl (by decide +kernel) rfl ?_
    refine Ev.callS0 mX7_in [.int (nI 1), .int (nI 20), .int (nI 35)] [] _ rfl lk_RX7_79 (by decide +kernel) rfl (Nat.le_of_ble_eq_true rfl) (c_X7_in I J (nI 1) (nI 20) (nI 35)) ?_
    rintro _ _ ⟨rfl, ⟨rfl, h26⟩ | ⟨rfl, h26⟩⟩
    · exact absurd h26 (by decide)
    · show Ev _ _ _ _ _ 29 [some (.ref 359), some (.int (nI 1))] [.int (nI 0)] (zz_SH, I, J) _
      refine Ev.if_eq (off := 13) (tgt := 42) (by decide +kernel) (by decide) (fun h29 => ?_) (fun h29 => absurd h29 (by decide))
      refine Ev.run [(.iload_n 1, 1)] (pc' := 43) (L' := [some (.ref 359), some (.int (nI 1))]) (S' := [.int (nI 1)]) rfl (by decide +kernel) rfl ?_
      refine Ev.if_ne (off := 10) (tgt := 53) (by decide +kernel) (by decide) (fun h43 => ?_) (fun h43 => absurd h43 (by decide))
      refine Ev.run [(.iload_n 1, 1), (.iconst 1, 1)] (pc' := 55) (L' := [some (.ref 359), some (.int (nI 1))]) (S' := [.int (nI 1), .int (nI 1)]) rfl (by decide +kernel) rfl ?_
      refine Ev.icmp_ne (off := 10) (tgt := 65) (by decide +kernel) (by decide) (fun h55 => absurd h55 (by decide)) (fun h55 => ?_)
      refine Ev.run [(.aload_n 0, 1), (.getfield 75, 3)] (pc' := 62) (L' := [some (.ref 359), some (.int (nI 1))]) (S' := [.int (I 359 2)]) rfl (by decide +kernel) rfl ?_
      rw [show I 359 2 = nI (aN A) from hV.1.1]
      refine Ev.goto (off := 37) (tgt := 99) (by decide +kernel) (by decide) ?_
      exact Ev.iret rfl (by decide +kernel) (⟨rfl, rfl⟩)

set_option maxRecDepth 100000 in
set_option maxHeartbeats 4000000 in
theorem c_X7_told_2 {sc : Nat × (Nat → Int32)} {d : Nat} (I : Nat → Nat → Int32) (J : Nat → Nat → Int64) (A : zA) (hV : MV (zVm I) A) (hW : WF A) (np : Nat) (hn : I 359 0 = nI np) (hnp : np ≤ 30) : EvM sc (d + 1) 0 0 mX7_told [.ref 359, .int (nI 2)] (zz_SH, I, J) (zz_is (.int (nI (aM A))) (zz_SH, I, J)) := by
  have w1 := hW.1.1
  have w2 := hW.1.2.1
  refine EvM.of (by decide) rfl (Nat.le_of_ble_eq_true rfl) ?_
  show Ev _ _ _ _ _ 0 [some (.ref 359), some (.int (nI 2))] [] (zz_SH, I, J) _
  refine Ev.run [(.iload_n 1, 1), (.bipush 10, 2), (.bipush 14, 2)] (pc' := 5) (L' := [some (.ref 359), some (.int (nI 2))]) (S' := [.int (nI 14), .int (nI 10), .int (nI 2)]) rfl (by decide +kernel) rfl ?_
  refine Ev.callS0 mX7_in [.int (nI 2), .int (nI 10), .int (nI 14)] [] _ rfl lk_RX7_79 (by decide +kernel) rfl (Nat.le_of_ble_eq_true rfl) (c_X7_in I J (nI 2) (nI 10) (nI 14)) ?_
  rintro _ _ ⟨rfl, ⟨rfl, h5⟩ | ⟨rfl, h5⟩⟩
  · exact absurd h5 (by decide)
  · show Ev _ _ _ _ _ 8 [some (.ref 359), some (.int (nI 2))] [.int (nI 0)] (zz_SH, I, J) _
    refine Ev.if_eq (off := 13) (tgt := 21) (by decide +kernel) (by decide) (fun h8 => ?_) (fun h8 => absurd h8 (by decide))
    refine Ev.run [(.iload_n 1, 1), (.bipush 20, 2), (.bipush 35, 2)] (pc' := 26) (L' := [some (.ref 359), some (.int (nI 2))]) (S' := [.int (nI 35), .int (nI 20), .int (nI 2)]) rfl (by decide +kernel) rfl ?_
    refine Ev.callS0 mX7_in [.int (nI 2), .int (nI 20), .int (nI 35)] [] _ rfl lk_RX7_79 (by decide +kernel) rfl (Nat.le_of_ble_eq_true rfl) (c_X7_in I J (nI 2) (nI 20) (nI 35)) ?_
    rintro _ _ ⟨rfl, ⟨rfl, h26⟩ | ⟨rfl, h26⟩⟩
    · exact absurd h26 (by decide)
    · show Ev _ _ _ _ _ 29 [some (.ref 359), some (.int (nI 2))] [.int (nI 0)] (zz_SH, I, J) _
      refine Ev.if_eq (off := 13) (tgt := 42) (by decide +kernel) (by decide) (fun h29 => ?_) (fun h29 => absurd h29 (by decide))
      refine Ev.run [(.iload_n 1, 1)] (pc' := 43) (L' := [some (.ref 359), some (.int (nI 2))]) (S' := [.int (nI 2)]) rfl (by decide +kernel) rfl ?_
      refine Ev.if_ne (off := 10) (tgt := 53) (by decide +kernel) (by decide) (fun h43 => ?_) (fun h43 => absurd h43 (by decide))
      refine Ev.run [(.iload_n 1, 1), (.iconst 1, 1)] (pc' := 55) (L' := [some (.ref 359), some (.int (nI 2))]) (S' := [.int (nI 1), .int (nI 2)]) rfl (by decide +kernel) rfl ?_
      refine Ev.icmp_ne (off := 10) (tgt := 65) (by decide +kernel) (by decide) (fun h55 => ?_) (fun h55 => absurd h55 (by decide))
      refine Ev.run [(.iload_n 1, 1), (.iconst 2, 1)] (pc' := 67) (L' := [some (.ref 359), some (.int (nI 2))]) (S' := [.int (nI 2), .int (nI 2)]) rfl (by decide +kernel) rfl ?_
      refine Ev.icmp_ne (off := 10) (tgt := 77) (by decide +kernel) (by decide) (fun h67 => absurd h67 (by decide)) (fun h67 => ?_)
      refine Ev.run [(.aload_n 0, 1), (.getfield 83, 3)] (pc' := 74) (L' := [some (.ref 359), some (.int (nI 2))]) (S' := [.int (I 359 8)]) rfl (by decide +kernel) rfl ?_
      rw [show I 359 8 = nI (aM A) from hV.1.2.1]
      refine Ev.goto (off := 25) (tgt := 99) (by decide +kernel) (by decide) ?_
      exact Ev.iret rfl (by decide +kernel) (⟨rfl, rfl⟩)

set_option maxRecDepth 100000 in
set_option maxHeartbeats 4000000 in
theorem c_X7_told_3 {sc : Nat × (Nat → Int32)} {d : Nat} (I : Nat → Nat → Int32) (J : Nat → Nat → Int64) (A : zA) (hV : MV (zVm I) A) (hW : WF A) (np : Nat) (hn : I 359 0 = nI np) (hnp : np ≤ 30) : EvM sc (d + 1) 0 0 mX7_told [.ref 359, .int (nI 3)] (zz_SH, I, J) (zz_is (.int (nI (aa A))) (zz_SH, I, J)) := by
  have w1 := hW.1.1
  have w2 := hW.1.2.1
  refine EvM.of (by decide) rfl (Nat.le_of_ble_eq_true rfl) ?_
  show Ev _ _ _ _ _ 0 [some (.ref 359), some (.int (nI 3))] [] (zz_SH, I, J) _
  refine Ev.run [(.iload_n 1, 1), (.bipush 10, 2), (.bipush 14, 2)] (pc' := 5) (L' := [some (.ref 359), some (.int (nI 3))]) (S' := [.int (nI 14), .int (nI 10), .int (nI 3)]) rfl (by decide +kernel) rfl ?_
  refine Ev.callS0 mX7_in [.int (nI 3), .int (nI 10), .int (nI 14)] [] _ rfl lk_RX7_79 (by decide +kernel) rfl (Nat.le_of_ble_eq_true rfl) (c_X7_in I J (nI 3) (nI 10) (nI 14)) ?_
  rintro _ _ ⟨rfl, ⟨rfl, h5⟩ | ⟨rfl, h5⟩⟩
  · exact absurd h5 (by decide)
  · show Ev _ _ _ _ _ 8 [some (.ref 359), some (.int (nI 3))] [.int (nI 0)] (zz_SH, I, J) _
    refine Ev.if_eq (off := 13) (tgt := 21) (by decide +kernel) (by decide) (fun h8 => ?_) (fun h8 => absurd h8 (by decide))
    refine Ev.run [(.iload_n 1, 1), (.bipush 20, 2), (.bipush 35, 2)] (pc' := 26) (L' := [some (.ref 359), some (.int (nI 3))]) (S' := [.int (nI 35), .int (nI 20), .int (nI 3)]) rfl (by decide +kernel) rfl ?_
    refine Ev.callS0 mX7_in [.int (nI 3), .int (nI 20), .int (nI 35)] [] _ rfl lk_RX7_79 (by decide +kernel) rfl (Nat.le_of_ble_eq_true rfl) (c_X7_in I J (nI 3) (nI 20) (nI 35)) ?_
    rintro _ _ ⟨rfl, ⟨rfl, h26⟩ | ⟨rfl, h26⟩⟩
    · exact absurd h26 (by decide)
    · show Ev _ _ _ _ _ 29 [some (.ref 359), some (.int (nI 3))] [.int (nI 0)] (zz_SH, I, J) _
      refine Ev.if_eq (off := 13) (tgt := 42) (by decide +kernel) (by decide) (fun h29 => ?_) (fun h29 => absurd h29 (by decide))
      refine Ev.run [(.iload_n 1, 1)] (pc' := 43) (L' := [some (.ref 359), some (.int (nI 3))]) (S' := [.int (nI 3)]) rfl (by decide +kernel) rfl ?_
      refine Ev.if_ne (off := 10) (tgt := 53) (by decide +kernel) (by decide) (fun h43 => ?_) (fun h43 => absurd h43 (by decide))
      refine Ev.run [(.iload_n 1, 1), (.iconst 1, 1)] (pc' := 55) (L' := [some (.ref 359), some (.int (nI 3))]) (S' := [.int (nI 1), .int (nI 3)]) rfl (by decide +kernel) rfl ?_
      refine Ev.icmp_ne (off := 10) (tgt := 65) (by decide +kernel) (by decide) (fun h55 => ?_) (fun h55 => absurd h55 (by decide))
      refine Ev.run [(.iload_n 1, 1), (.iconst 2, 1)] (pc' := 67) (L' := [some (.ref 359), some (.int (nI 3))]) (S' := [.int (nI 2), .int (nI 3)]) rfl (by decide +kernel) rfl ?_
      refine Ev.icmp_ne (off := 10) (tgt := 77) (by decide +kernel) (by decide) (fun h67 => ?_) (fun h67 => absurd h67 (by decide))
      refine Ev.run [(.iload_n 1, 1), (.iconst 3, 1), (.iconst 4, 1)] (pc' := 80) (L' := [some (.ref 359), some (.int (nI 3))]) (S' := [.int (nI 4), .int (nI 3), .int (nI 3)]) rfl (by decide +kernel) rfl ?_
      refine Ev.callS0 mX7_in [.int (nI 3), .int (nI 3), .int (nI 4)] [] _ rfl lk_RX7_79 (by decide +kernel) rfl (Nat.le_of_ble_eq_true rfl) (c_X7_in I J (nI 3) (nI 3) (nI 4)) ?_
      rintro _ _ ⟨rfl, ⟨rfl, h80⟩ | ⟨rfl, h80⟩⟩
      · show Ev _ _ _ _ _ 83 [some (.ref 359), some (.int (nI 3))] [.int (nI 1)] (zz_SH, I, J) _
        refine Ev.if_eq (off := 14) (tgt := 97) (by decide +kernel) (by decide) (fun h83 => absurd h83 (by decide)) (fun h83 => ?_)
        refine Ev.run [(.aload_n 0, 1), (.getfield 40, 3), (.iload_n 1, 1), (.iconst 3, 1), (.isub, 1)] (pc' := 93) (L' := [some (.ref 359), some (.int (nI 3))]) (S' := [.int (nI 3 - nI 3), .ref 370]) rfl (by decide +kernel) rfl ?_
        rw [show nI 3 - nI 3 = nI 0 from zz_sub (by omega)]
        refine Ev.iald 0 (by decide +kernel) (rfl) (rfl) (by omega) (by first | decide | omega) ?_
        dsimp only
        rw [show I 370 0 = nI (aa A) from hV.1.2.2.1]
        refine Ev.goto (off := 5) (tgt := 99) (by decide +kernel) (by decide) ?_
        exact Ev.iret rfl (by decide +kernel) (⟨rfl, rfl⟩)
      · exact absurd (by decide) h80

set_option maxRecDepth 100000 in
set_option maxHeartbeats 4000000 in
theorem c_X7_told_4 {sc : Nat × (Nat → Int32)} {d : Nat} (I : Nat → Nat → Int32) (J : Nat → Nat → Int64) (A : zA) (hV : MV (zVm I) A) (hW : WF A) (np : Nat) (hn : I 359 0 = nI np) (hnp : np ≤ 30) : EvM sc (d + 1) 0 0 mX7_told [.ref 359, .int (nI 4)] (zz_SH, I, J) (zz_is (.int (nI (ab A))) (zz_SH, I, J)) := by
  have w1 := hW.1.1
  have w2 := hW.1.2.1
  refine EvM.of (by decide) rfl (Nat.le_of_ble_eq_true rfl) ?_
  show Ev _ _ _ _ _ 0 [some (.ref 359), some (.int (nI 4))] [] (zz_SH, I, J) _
  refine Ev.run [(.iload_n 1, 1), (.bipush 10, 2), (.bipush 14, 2)] (pc' := 5) (L' := [some (.ref 359), some (.int (nI 4))]) (S' := [.int (nI 14), .int (nI 10), .int (nI 4)]) rfl (by decide +kernel) rfl ?_
  refine Ev.callS0 mX7_in [.int (nI 4), .int (nI 10), .int (nI 14)] [] _ rfl lk_RX7_79 (by decide +kernel) rfl (Nat.le_of_ble_eq_true rfl) (c_X7_in I J (nI 4) (nI 10) (nI 14)) ?_
  rintro _ _ ⟨rfl, ⟨rfl, h5⟩ | ⟨rfl, h5⟩⟩
  · exact absurd h5 (by decide)
  · show Ev _ _ _ _ _ 8 [some (.ref 359), some (.int (nI 4))] [.int (nI 0)] (zz_SH, I, J) _
    refine Ev.if_eq (off := 13) (tgt := 21) (by decide +kernel) (by decide) (fun h8 => ?_) (fun h8 => absurd h8 (by decide))
    refine Ev.run [(.iload_n 1, 1), (.bipush 20, 2), (.bipush 35, 2)] (pc' := 26) (L' := [some (.ref 359), some (.int (nI 4))]) (S' := [.int (nI 35), .int (nI 20), .int (nI 4)]) rfl (by decide +kernel) rfl ?_
    refine Ev.callS0 mX7_in [.int (nI 4), .int (nI 20), .int (nI 35)] [] _ rfl lk_RX7_79 (by decide +kernel) rfl (Nat.le_of_ble_eq_true rfl) (c_X7_in I J (nI 4) (nI 20) (nI 35)) ?_
    rintro _ _ ⟨rfl, ⟨rfl, h26⟩ | ⟨rfl, h26⟩⟩
    · exact absurd h26 (by decide)
    · show Ev _ _ _ _ _ 29 [some (.ref 359), some (.int (nI 4))] [.int (nI 0)] (zz_SH, I, J) _
      refine Ev.if_eq (off := 13) (tgt := 42) (by decide +kernel) (by decide) (fun h29 => ?_) (fun h29 => absurd h29 (by decide))
      refine Ev.run [(.iload_n 1, 1)] (pc' := 43) (L' := [some (.ref 359), some (.int (nI 4))]) (S' := [.int (nI 4)]) rfl (by decide +kernel) rfl ?_
      refine Ev.if_ne (off := 10) (tgt := 53) (by decide +kernel) (by decide) (fun h43 => ?_) (fun h43 => absurd h43 (by decide))
      refine Ev.run [(.iload_n 1, 1), (.iconst 1, 1)] (pc' := 55) (L' := [some (.ref 359), some (.int (nI 4))]) (S' := [.int (nI 1), .int (nI 4)]) rfl (by decide +kernel) rfl ?_
      refine Ev.icmp_ne (off := 10) (tgt := 65) (by decide +kernel) (by decide) (fun h55 => ?_) (fun h55 => absurd h55 (by decide))
      refine Ev.run [(.iload_n 1, 1), (.iconst 2, 1)] (pc' := 67) (L' := [some (.ref 359), some (.int (nI 4))]) (S' := [.int (nI 2), .int (nI 4)]) rfl (by decide +kernel) rfl ?_
      refine Ev.icmp_ne (off := 10) (tgt := 77) (by decide +kernel) (by decide) (fun h67 => ?_) (fun h67 => absurd h67 (by decide))
      refine Ev.run [(.iload_n 1, 1), (.iconst 3, 1), (.iconst 4, 1)] (pc' := 80) (L' := [some (.ref 359), some (.int (nI 4))]) (S' := [.int (nI 4), .int (nI 3), .int (nI 4)]) rfl (by decide +kernel) rfl ?_
      refine Ev.callS0 mX7_in [.int (nI 4), .int (nI 3), .int (nI 4)] [] _ rfl lk_RX7_79 (by decide +kernel) rfl (Nat.le_of_ble_eq_true rfl) (c_X7_in I J (nI 4) (nI 3) (nI 4)) ?_
      rintro _ _ ⟨rfl, ⟨rfl, h80⟩ | ⟨rfl, h80⟩⟩
      · show Ev _ _ _ _ _ 83 [some (.ref 359), some (.int (nI 4))] [.int (nI 1)] (zz_SH, I, J) _
        refine Ev.if_eq (off := 14) (tgt := 97) (by decide +kernel) (by decide) (fun h83 => absurd h83 (by decide)) (fun h83 => ?_)
        refine Ev.run [(.aload_n 0, 1), (.getfield 40, 3), (.iload_n 1, 1), (.iconst 3, 1), (.isub, 1)] (pc' := 93) (L' := [some (.ref 359), some (.int (nI 4))]) (S' := [.int (nI 4 - nI 3), .ref 370]) rfl (by decide +kernel) rfl ?_
        rw [show nI 4 - nI 3 = nI 1 from zz_sub (by omega)]
        refine Ev.iald 1 (by decide +kernel) (rfl) (rfl) (by omega) (by first | decide | omega) ?_
        dsimp only
        rw [show I 370 1 = nI (ab A) from hV.1.2.2.2]
        refine Ev.goto (off := 5) (tgt := 99) (by decide +kernel) (by decide) ?_
        exact Ev.iret rfl (by decide +kernel) (⟨rfl, rfl⟩)
      · exact absurd (by decide) h80

set_option maxRecDepth 100000 in
set_option maxHeartbeats 4000000 in
theorem c_X7_told_o {sc : Nat × (Nat → Int32)} {d : Nat} (I : Nat → Nat → Int32) (J : Nat → Nat → Int64) (x : Int32) (h1 : ¬ (nI 10 ≤ x ∧ x ≤ nI 14)) (h2 : ¬ (nI 20 ≤ x ∧ x ≤ nI 35)) (h3 : ¬ x = nI 0) (h4 : ¬ x = nI 1) (h6 : ¬ x = nI 2) (h7 : ¬ (nI 3 ≤ x ∧ x ≤ nI 4)) : EvM sc (d + 1) 0 0 mX7_told [.ref 359, .int x] (zz_SH, I, J) (zz_is (.int (-2)) (zz_SH, I, J)) := by
  refine EvM.of (by decide) rfl (Nat.le_of_ble_eq_true rfl) ?_
  show Ev _ _ _ _ _ 0 [some (.ref 359), some (.int x)] [] (zz_SH, I, J) _
  refine Ev.run [(.iload_n 1, 1), (.bipush 10, 2), (.bipush 14, 2)] (pc' := 5) (L' := [some (.ref 359), some (.int x)]) (S' := [.int (nI 14), .int (nI 10), .int x]) rfl (by decide +kernel) rfl ?_
  refine Ev.callS0 mX7_in [.int x, .int (nI 10), .int (nI 14)] [] _ rfl lk_RX7_79 (by decide +kernel) rfl (Nat.le_of_ble_eq_true rfl) (c_X7_in I J x (nI 10) (nI 14)) ?_
  rintro _ _ ⟨rfl, ⟨rfl, h5⟩ | ⟨rfl, h5⟩⟩
  · exact absurd h5 h1
  · show Ev _ _ _ _ _ 8 [some (.ref 359), some (.int x)] [.int (nI 0)] (zz_SH, I, J) _
    refine Ev.if_eq (off := 13) (tgt := 21) (by decide +kernel) (by decide) (fun h8 => ?_) (fun h8 => absurd h8 (by decide))
    refine Ev.run [(.iload_n 1, 1), (.bipush 20, 2), (.bipush 35, 2)] (pc' := 26) (L' := [some (.ref 359), some (.int x)]) (S' := [.int (nI 35), .int (nI 20), .int x]) rfl (by decide +kernel) rfl ?_
    refine Ev.callS0 mX7_in [.int x, .int (nI 20), .int (nI 35)] [] _ rfl lk_RX7_79 (by decide +kernel) rfl (Nat.le_of_ble_eq_true rfl) (c_X7_in I J x (nI 20) (nI 35)) ?_
    rintro _ _ ⟨rfl, ⟨rfl, h26⟩ | ⟨rfl, h26⟩⟩
    · exact absurd h26 h2
    · show Ev _ _ _ _ _ 29 [some (.ref 359), some (.int x)] [.int (nI 0)] (zz_SH, I, J) _
      refine Ev.if_eq (off := 13) (tgt := 42) (by decide +kernel) (by decide) (fun h29 => ?_) (fun h29 => absurd h29 (by decide))
      refine Ev.run [(.iload_n 1, 1)] (pc' := 43) (L' := [some (.ref 359), some (.int x)]) (S' := [.int x]) rfl (by decide +kernel) rfl ?_
      refine Ev.if_ne (off := 10) (tgt := 53) (by decide +kernel) (by decide) (fun h43 => ?_) (fun h43 => absurd h43 h3)
      refine Ev.run [(.iload_n 1, 1), (.iconst 1, 1)] (pc' := 55) (L' := [some (.ref 359), some (.int x)]) (S' := [.int (nI 1), .int x]) rfl (by decide +kernel) rfl ?_
      refine Ev.icmp_ne (off := 10) (tgt := 65) (by decide +kernel) (by decide) (fun h55 => ?_) (fun h55 => absurd h55 h4)
      refine Ev.run [(.iload_n 1, 1), (.iconst 2, 1)] (pc' := 67) (L' := [some (.ref 359), some (.int x)]) (S' := [.int (nI 2), .int x]) rfl (by decide +kernel) rfl ?_
      refine Ev.icmp_ne (off := 10) (tgt := 77) (by decide +kernel) (by decide) (fun h67 => ?_) (fun h67 => absurd h67 h6)
      refine Ev.run [(.iload_n 1, 1), (.iconst 3, 1), (.iconst 4, 1)] (pc' := 80) (L' := [some (.ref 359), some (.int x)]) (S' := [.int (nI 4), .int (nI 3), .int x]) rfl (by decide +kernel) rfl ?_
      refine Ev.callS0 mX7_in [.int x, .int (nI 3), .int (nI 4)] [] _ rfl lk_RX7_79 (by decide +kernel) rfl (Nat.le_of_ble_eq_true rfl) (c_X7_in I J x (nI 3) (nI 4)) ?_
      rintro _ _ ⟨rfl, ⟨rfl, h80⟩ | ⟨rfl, h80⟩⟩
      · exact absurd h80 h7
      · show Ev _ _ _ _ _ 83 [some (.ref 359), some (.int x)] [.int (nI 0)] (zz_SH, I, J) _
        refine Ev.if_eq (off := 14) (tgt := 97) (by decide +kernel) (by decide) (fun h83 => ?_) (fun h83 => absurd h83 (by decide))
        refine Ev.run [(.bipush (-2), 2)] (pc' := 99) (L' := [some (.ref 359), some (.int x)]) (S' := [.int ((-2))]) rfl (by decide +kernel) rfl ?_
        exact Ev.iret rfl (by decide +kernel) (⟨rfl, rfl⟩)

set_option maxRecDepth 100000 in
set_option maxHeartbeats 4000000 in
theorem c_X7_pair_u {sc : Nat × (Nat → Int32)} {d : Nat} (I : Nat → Nat → Int32) (J : Nat → Nat → Int64) (A : zA) (hV : MV (zVm I) A) (hW : WF A) (x y : Int32) (hx : ¬ zz_ix x (aN A)) : EvM sc (d + 2) 0 0 mX7_pair [.ref 359, .int x, .int y] (zz_SH, I, J) (zz_is (.int (-1)) (zz_SH, I, J)) := by
  have w1 := hW.1.1
  have w2 := hW.1.2.1
  refine EvM.of (by decide) rfl (Nat.le_of_ble_eq_true rfl) ?_
  show Ev _ _ _ _ _ 0 [some (.ref 359), some (.int x), some (.int y)] [] (zz_SH, I, J) _
  refine Ev.run [(.aload_n 0, 1), (.iload_n 1, 1)] (pc' := 2) (L' := [some (.ref 359), some (.int x), some (.int y)]) (S' := [.int x, .ref 359]) rfl (by decide +kernel) rfl ?_
  refine Ev.callV0 mX7_isPair [.int x] [] _ rfl lk_RX7_100 (by decide +kernel) (rfl) rfl rfl rfl (Nat.le_of_ble_eq_true rfl) (c_X7_isPair I J (aN A) x hV.1.1 (by omega)) ?_
  rintro _ _ ⟨rfl, ⟨rfl, h2⟩ | ⟨rfl, h2⟩⟩
  · exact absurd h2 hx
  · show Ev _ _ _ _ _ 5 [some (.ref 359), some (.int x), some (.int y)] [.int (nI 0)] (zz_SH, I, J) _
    refine Ev.if_ne (off := 5) (tgt := 10) (by decide +kernel) (by decide) (fun h5 => absurd h5 (by decide)) (fun h5 => ?_)
    refine Ev.run [(.iconst (-1), 1)] (pc' := 9) (L' := [some (.ref 359), some (.int x), some (.int y)]) (S' := [.int ((-1))]) rfl (by decide +kernel) rfl ?_
    exact Ev.iret rfl (by decide +kernel) (⟨rfl, rfl⟩)

set_option maxRecDepth 100000 in
set_option maxHeartbeats 4000000 in
theorem c_X7_pair_0 {sc : Nat × (Nat → Int32)} {d : Nat} (I : Nat → Nat → Int32) (J : Nat → Nat → Int64) (A : zA) (hV : MV (zVm I) A) (hW : WF A) (p : Nat) (hp : p < aN A) : EvM sc (d + 2) 0 0 mX7_pair [.ref 359, .int (nI p), .int (nI 0)] (zz_SH, I, J) (zz_is (.int (nI (fz A p))) (zz_SH, I, J)) := by
  have w1 := hW.1.1
  have w2 := hW.1.2.1
  have z1 := (hW.2.1 p hp).1
  refine EvM.of (by decide) rfl (Nat.le_of_ble_eq_true rfl) ?_
  show Ev _ _ _ _ _ 0 [some (.ref 359), some (.int (nI p)), some (.int (nI 0))] [] (zz_SH, I, J) _
  refine Ev.run [(.aload_n 0, 1), (.iload_n 1, 1)] (pc' := 2) (L' := [some (.ref 359), some (.int (nI p)), some (.int (nI 0))]) (S' := [.int (nI p), .ref 359]) rfl (by decide +kernel) rfl ?_
  refine Ev.callV0 mX7_isPair [.int (nI p)] [] _ rfl lk_RX7_100 (by decide +kernel) (rfl) rfl rfl rfl (Nat.le_of_ble_eq_true rfl) (c_X7_isPair I J (aN A) (nI p) hV.1.1 (by omega)) ?_
  rintro _ _ ⟨rfl, ⟨rfl, h2⟩ | ⟨rfl, h2⟩⟩
  · show Ev _ _ _ _ _ 5 [some (.ref 359), some (.int (nI p)), some (.int (nI 0))] [.int (nI 1)] (zz_SH, I, J) _
    refine Ev.if_ne (off := 5) (tgt := 10) (by decide +kernel) (by decide) (fun h5 => ?_) (fun h5 => absurd h5 (by decide))
    refine Ev.run [(.iload_n 2, 1), (.iconst 0, 1), (.iconst 2, 1)] (pc' := 13) (L' := [some (.ref 359), some (.int (nI p)), some (.int (nI 0))]) (S' := [.int (nI 2), .int (nI 0), .int (nI 0)]) rfl (by decide +kernel) rfl ?_
    refine Ev.callS0 mX7_in [.int (nI 0), .int (nI 0), .int (nI 2)] [] _ rfl lk_RX7_79 (by decide +kernel) rfl (Nat.le_of_ble_eq_true rfl) (c_X7_in I J (nI 0) (nI 0) (nI 2)) ?_
    rintro _ _ ⟨rfl, ⟨rfl, h13⟩ | ⟨rfl, h13⟩⟩
    · show Ev _ _ _ _ _ 16 [some (.ref 359), some (.int (nI p)), some (.int (nI 0))] [.int (nI 1)] (zz_SH, I, J) _
      refine Ev.if_eq (off := 37) (tgt := 53) (by decide +kernel) (by decide) (fun h16 => absurd h16 (by decide)) (fun h16 => ?_)
      refine Ev.run [(.iload_n 2, 1)] (pc' := 20) (L' := [some (.ref 359), some (.int (nI p)), some (.int (nI 0))]) (S' := [.int (nI 0)]) rfl (by decide +kernel) rfl ?_
      refine Ev.if_ne (off := 12) (tgt := 32) (by decide +kernel) (by decide) (fun h20 => absurd h20 (by decide)) (fun h20 => ?_)
      refine Ev.run [(.aload_n 0, 1), (.getfield 16, 3), (.iload_n 1, 1)] (pc' := 28) (L' := [some (.ref 359), some (.int (nI p)), some (.int (nI 0))]) (S' := [.int (nI p), .ref 362]) rfl (by decide +kernel) rfl ?_
      refine Ev.iald p (by decide +kernel) (rfl) (rfl) (by omega) (by first | decide | omega) ?_
      dsimp only
      rw [show I 362 p = nI (fz A p) from (hV.2.1 p hp).2.1]
      refine Ev.goto (off := 23) (tgt := 52) (by decide +kernel) (by decide) ?_
      exact Ev.iret rfl (by decide +kernel) (⟨rfl, rfl⟩)
    · exact absurd (by decide) h13
  · exact absurd ⟨p, hp, rfl⟩ h2

set_option maxRecDepth 100000 in
set_option maxHeartbeats 4000000 in
theorem c_X7_pair_1 {sc : Nat × (Nat → Int32)} {d : Nat} (I : Nat → Nat → Int32) (J : Nat → Nat → Int64) (A : zA) (hV : MV (zVm I) A) (hW : WF A) (p : Nat) (hp : p < aN A) : EvM sc (d + 2) 0 0 mX7_pair [.ref 359, .int (nI p), .int (nI 1)] (zz_SH, I, J) (zz_is (.int (nI (gz A p))) (zz_SH, I, J)) := by
  have w1 := hW.1.1
  have w2 := hW.1.2.1
  have z1 := (hW.2.1 p hp).1
  refine EvM.of (by decide) rfl (Nat.le_of_ble_eq_true rfl) ?_
  show Ev _ _ _ _ _ 0 [some (.ref 359), some (.int (nI p)), some (.int (nI 1))] [] (zz_SH, I, J) _
  refine Ev.run [(.aload_n 0, 1), (.iload_n 1, 1)] (pc' := 2) (L' := [some (.ref 359), some (.int (nI p)), some (.int (nI 1))]) (S' := [.int (nI p), .ref 359]) rfl (by decide +kernel) rfl ?_
  refine Ev.callV0 mX7_isPair [.int (nI p)] [] _ rfl lk_RX7_100 (by decide +kernel) (rfl) rfl rfl rfl (Nat.le_of_ble_eq_true rfl) (c_X7_isPair I J (aN A) (nI p) hV.1.1 (by omega)) ?_
  rintro _ _ ⟨rfl, ⟨rfl, h2⟩ | ⟨rfl, h2⟩⟩
  · show Ev _ _ _ _ _ 5 [some (.ref 359), some (.int (nI p)), some (.int (nI 1))] [.int (nI 1)] (zz_SH, I, J) _
    refine Ev.if_ne (off := 5) (tgt := 10) (by decide +kernel) (by decide) (fun h5 => ?_) (fun h5 => absurd h5 (by decide))
    refine Ev.run [(.iload_n 2, 1), (.iconst 0, 1), (.iconst 2, 1)] (pc' := 13) (L' := [some (.ref 359), some (.int (nI p)), some (.int (nI 1))]) (S' := [.int (nI 2), .int (nI 0), .int (nI 1)]) rfl (by decide +kernel) rfl ?_
    refine Ev.callS0 mX7_in [.int (nI 1), .int (nI 0), .int (nI 2)] [] _ rfl lk_RX7_79 (by decide +kernel) rfl (Nat.le_of_ble_eq_true rfl) (c_X7_in I J (nI 1) (nI 0) (nI 2)) ?_
    rintro _ _ ⟨rfl, ⟨rfl, h13⟩ | ⟨rfl, h13⟩⟩
    · show Ev _ _ _ _ _ 16 [some (.ref 359), some (.int (nI p)), some (.int (nI 1))] [.int (nI 1)] (zz_SH, I, J) _
      refine Ev.if_eq (off := 37) (tgt := 53) (by decide +kernel) (by decide) (fun h16 => absurd h16 (by decide)) (fun h16 => ?_)
      refine Ev.run [(.iload_n 2, 1)] (pc' := 20) (L' := [some (.ref 359), some (.int (nI p)), some (.int (nI 1))]) (S' := [.int (nI 1)]) rfl (by decide +kernel) rfl ?_
      refine Ev.if_ne (off := 12) (tgt := 32) (by decide +kernel) (by decide) (fun h20 => ?_) (fun h20 => absurd h20 (by decide))
      refine Ev.run [(.iload_n 2, 1), (.iconst 1, 1)] (pc' := 34) (L' := [some (.ref 359), some (.int (nI p)), some (.int (nI 1))]) (S' := [.int (nI 1), .int (nI 1)]) rfl (by decide +kernel) rfl ?_
      refine Ev.icmp_ne (off := 12) (tgt := 46) (by decide +kernel) (by decide) (fun h34 => absurd h34 (by decide)) (fun h34 => ?_)
      refine Ev.run [(.aload_n 0, 1), (.getfield 19, 3), (.iload_n 1, 1)] (pc' := 42) (L' := [some (.ref 359), some (.int (nI p)), some (.int (nI 1))]) (S' := [.int (nI p), .ref 363]) rfl (by decide +kernel) rfl ?_
      refine Ev.iald p (by decide +kernel) (rfl) (rfl) (by omega) (by first | decide | omega) ?_
      dsimp only
      rw [show I 363 p = nI (gz A p) from (hV.2.1 p hp).2.2.1]
      refine Ev.goto (off := 9) (tgt := 52) (by decide +kernel) (by decide) ?_
      exact Ev.iret rfl (by decide +kernel) (⟨rfl, rfl⟩)
    · exact absurd (by decide) h13
  · exact absurd ⟨p, hp, rfl⟩ h2

set_option maxRecDepth 100000 in
set_option maxHeartbeats 4000000 in
theorem c_X7_pair_2 {sc : Nat × (Nat → Int32)} {d : Nat} (I : Nat → Nat → Int32) (J : Nat → Nat → Int64) (A : zA) (hV : MV (zVm I) A) (hW : WF A) (p : Nat) (hp : p < aN A) : EvM sc (d + 2) 0 0 mX7_pair [.ref 359, .int (nI p), .int (nI 2)] (zz_SH, I, J) (zz_is (.int (ob (aB A p))) (zz_SH, I, J)) := by
  have w1 := hW.1.1
  have w2 := hW.1.2.1
  have z1 := (hW.2.1 p hp).1
  refine EvM.of (by decide) rfl (Nat.le_of_ble_eq_true rfl) ?_
  show Ev _ _ _ _ _ 0 [some (.ref 359), some (.int (nI p)), some (.int (nI 2))] [] (zz_SH, I, J) _
  refine Ev.run [(.aload_n 0, 1), (.iload_n 1, 1)] (pc' := 2) (L' := [some (.ref 359), some (.int (nI p)), some (.int (nI 2))]) (S' := [.int (nI p), .ref 359]) rfl (by decide +kernel) rfl ?_
  refine Ev.callV0 mX7_isPair [.int (nI p)] [] _ rfl lk_RX7_100 (by decide +kernel) (rfl) rfl rfl rfl (Nat.le_of_ble_eq_true rfl) (c_X7_isPair I J (aN A) (nI p) hV.1.1 (by omega)) ?_
  rintro _ _ ⟨rfl, ⟨rfl, h2⟩ | ⟨rfl, h2⟩⟩
  · show Ev _ _ _ _ _ 5 [some (.ref 359), some (.int (nI p)), some (.int (nI 2))] [.int (nI 1)] (zz_SH, I, J) _
    refine Ev.if_ne (off := 5) (tgt := 10) (by decide +kernel) (by decide) (fun h5 => ?_) (fun h5 => absurd h5 (by decide))
    refine Ev.run [(.iload_n 2, 1), (.iconst 0, 1), (.iconst 2, 1)] (pc' := 13) (L' := [some (.ref 359), some (.int (nI p)), some (.int (nI 2))]) (S' := [.int (nI 2), .int (nI 0), .int (nI 2)]) rfl (by decide +kernel) rfl ?_
    refine Ev.callS0 mX7_in [.int (nI 2), .int (nI 0), .int (nI 2)] [] _ rfl lk_RX7_79 (by decide +kernel) rfl (Nat.le_of_ble_eq_true rfl) (c_X7_in I J (nI 2) (nI 0) (nI 2)) ?_
    rintro _ _ ⟨rfl, ⟨rfl, h13⟩ | ⟨rfl, h13⟩⟩
    · show Ev _ _ _ _ _ 16 [some (.ref 359), some (.int (nI p)), some (.int (nI 2))] [.int (nI 1)] (zz_SH, I, J) _
      refine Ev.if_eq (off := 37) (tgt := 53) (by decide +kernel) (by decide) (fun h16 => absurd h16 (by decide)) (fun h16 => ?_)
      refine Ev.run [(.iload_n 2, 1)] (pc' := 20) (L' := [some (.ref 359), some (.int (nI p)), some (.int (nI 2))]) (S' := [.int (nI 2)]) rfl (by decide +kernel) rfl ?_
      refine Ev.if_ne (off := 12) (tgt := 32) (by decide +kernel) (by decide) (fun h20 => ?_) (fun h20 => absurd h20 (by decide))
      refine Ev.run [(.iload_n 2, 1), (.iconst 1, 1)] (pc' := 34) (L' := [some (.ref 359), some (.int (nI p)), some (.int (nI 2))]) (S' := [.int (nI 1), .int (nI 2)]) rfl (by decide +kernel) rfl ?_
      refine Ev.icmp_ne (off := 12) (tgt := 46) (by decide +kernel) (by decide) (fun h34 => ?_) (fun h34 => absurd h34 (by decide))
      refine Ev.run [(.aload_n 0, 1), (.getfield 13, 3), (.iload_n 1, 1)] (pc' := 51) (L' := [some (.ref 359), some (.int (nI p)), some (.int (nI 2))]) (S' := [.int (nI p), .ref 361]) rfl (by decide +kernel) rfl ?_
      refine Ev.iald p (by decide +kernel) (rfl) (rfl) (by omega) (by first | decide | omega) ?_
      dsimp only
      rw [show I 361 p = ob (aB A p) from (hV.2.1 p hp).1]
      exact Ev.iret rfl (by decide +kernel) (⟨rfl, rfl⟩)
    · exact absurd (by decide) h13
  · exact absurd ⟨p, hp, rfl⟩ h2

set_option maxRecDepth 100000 in
set_option maxHeartbeats 4000000 in
theorem c_X7_pair_f {sc : Nat × (Nat → Int32)} {d : Nat} (I : Nat → Nat → Int32) (J : Nat → Nat → Int64) (A : zA) (hV : MV (zVm I) A) (hW : WF A) (p : Nat) (hp : p < aN A) (j : Nat) (hj : j < fz A p) : EvM sc (d + 2) 0 0 mX7_pair [.ref 359, .int (nI p), .int (nI (100 + j))] (zz_SH, I, J) (zz_is (.int (nI (ff A p j))) (zz_SH, I, J)) := by
  have w1 := hW.1.1
  have w2 := hW.1.2.1
  have z1 := (hW.2.1 p hp).1
  refine EvM.of (by decide) rfl (Nat.le_of_ble_eq_true rfl) ?_
  show Ev _ _ _ _ _ 0 [some (.ref 359), some (.int (nI p)), some (.int (nI (100 + j)))] [] (zz_SH, I, J) _
  refine Ev.run [(.aload_n 0, 1), (.iload_n 1, 1)] (pc' := 2) (L' := [some (.ref 359), some (.int (nI p)), some (.int (nI (100 + j)))]) (S' := [.int (nI p), .ref 359]) rfl (by decide +kernel) rfl ?_
  refine Ev.callV0 mX7_isPair [.int (nI p)] [] _ rfl lk_RX7_100 (by decide +kernel) (rfl) rfl rfl rfl (Nat.le_of_ble_eq_true rfl) (c_X7_isPair I J (aN A) (nI p) hV.1.1 (by omega)) ?_
  rintro _ _ ⟨rfl, ⟨rfl, h2⟩ | ⟨rfl, h2⟩⟩
  · show Ev _ _ _ _ _ 5 [some (.ref 359), some (.int (nI p)), some (.int (nI (100 + j)))] [.int (nI 1)] (zz_SH, I, J) _
    refine Ev.if_ne (off := 5) (tgt := 10) (by decide +kernel) (by decide) (fun h5 => ?_) (fun h5 => absurd h5 (by decide))
    refine Ev.run [(.iload_n 2, 1), (.iconst 0, 1), (.iconst 2, 1)] (pc' := 13) (L' := [some (.ref 359), some (.int (nI p)), some (.int (nI (100 + j)))]) (S' := [.int (nI 2), .int (nI 0), .int (nI (100 + j))]) rfl (by decide +kernel) rfl ?_
    refine Ev.callS0 mX7_in [.int (nI (100 + j)), .int (nI 0), .int (nI 2)] [] _ rfl lk_RX7_79 (by decide +kernel) rfl (Nat.le_of_ble_eq_true rfl) (c_X7_in I J (nI (100 + j)) (nI 0) (nI 2)) ?_
    rintro _ _ ⟨rfl, ⟨rfl, h13⟩ | ⟨rfl, h13⟩⟩
    · exact absurd h13 (fun q => absurd ((zz_rng (a := 0) (b := 2) (x := 100 + j) (by omega) (by omega) (by omega)).mp q) (by omega))
    · show Ev _ _ _ _ _ 16 [some (.ref 359), some (.int (nI p)), some (.int (nI (100 + j)))] [.int (nI 0)] (zz_SH, I, J) _
      refine Ev.if_eq (off := 37) (tgt := 53) (by decide +kernel) (by decide) (fun h16 => ?_) (fun h16 => absurd h16 (by decide))
      refine Ev.run [(.iload_n 2, 1), (.bipush 100, 2), (.bipush 99, 2), (.aload_n 0, 1), (.getfield 16, 3), (.iload_n 1, 1)] (pc' := 63) (L' := [some (.ref 359), some (.int (nI p)), some (.int (nI (100 + j)))]) (S' := [.int (nI p), .ref 362, .int (nI 99), .int (nI 100), .int (nI (100 + j))]) rfl (by decide +kernel) rfl ?_
      refine Ev.iald p (by decide +kernel) (rfl) (rfl) (by omega) (by first | decide | omega) ?_
      dsimp only
      rw [show I 362 p = nI (fz A p) from (hV.2.1 p hp).2.1]
      refine Ev.run [(.iadd, 1)] (pc' := 65) (L' := [some (.ref 359), some (.int (nI p)), some (.int (nI (100 + j)))]) (S' := [.int (nI 99 + nI (fz A p)), .int (nI 100), .int (nI (100 + j))]) rfl (by decide +kernel) rfl ?_
      rw [nI_add 99 (fz A p)]
      refine Ev.callS0 mX7_in [.int (nI (100 + j)), .int (nI 100), .int (nI (99 + (fz A p)))] [] _ rfl lk_RX7_79 (by decide +kernel) rfl (Nat.le_of_ble_eq_true rfl) (c_X7_in I J (nI (100 + j)) (nI 100) (nI (99 + (fz A p)))) ?_
      rintro _ _ ⟨rfl, ⟨rfl, h65⟩ | ⟨rfl, h65⟩⟩
      · show Ev _ _ _ _ _ 68 [some (.ref 359), some (.int (nI p)), some (.int (nI (100 + j)))] [.int (nI 1)] (zz_SH, I, J) _
        refine Ev.if_eq (off := 18) (tgt := 86) (by decide +kernel) (by decide) (fun h68 => absurd h68 (by decide)) (fun h68 => ?_)
        refine Ev.run [(.aload_n 0, 1), (.getfield 22, 3), (.bipush 12, 2), (.iload_n 1, 1), (.imul, 1)] (pc' := 79) (L' := [some (.ref 359), some (.int (nI p)), some (.int (nI (100 + j)))]) (S' := [.int (nI 12 * nI p), .ref 364]) rfl (by decide +kernel) rfl ?_
        rw [pk_mul 12 p]
        refine Ev.run [(.iload_n 2, 1), (.iadd, 1)] (pc' := 81) (L' := [some (.ref 359), some (.int (nI p)), some (.int (nI (100 + j)))]) (S' := [.int (nI (12 * p) + nI (100 + j)), .ref 364]) rfl (by decide +kernel) rfl ?_
        rw [nI_add (12 * p) (100 + j)]
        refine Ev.run [(.bipush 100, 2), (.isub, 1)] (pc' := 84) (L' := [some (.ref 359), some (.int (nI p)), some (.int (nI (100 + j)))]) (S' := [.int (nI ((12 * p) + (100 + j)) - nI 100), .ref 364]) rfl (by decide +kernel) rfl ?_
        rw [show nI ((12 * p) + (100 + j)) - nI 100 = nI (12 * p + j) from zz_sub (by omega)]
        refine Ev.iald (12 * p + j) (by decide +kernel) (rfl) (rfl) (by omega) (by first | decide | omega) ?_
        dsimp only
        rw [show I 364 (12 * p + j) = nI (ff A p j) from (hV.2.1 p hp).2.2.2.1 j hj]
        exact Ev.iret rfl (by decide +kernel) (⟨rfl, rfl⟩)
      · exact absurd ((zz_rng (a := 100) (b := 99 + fz A p) (x := 100 + j) (by omega) (by omega) (by omega)).mpr (by omega)) h65
  · exact absurd ⟨p, hp, rfl⟩ h2

set_option maxRecDepth 100000 in
set_option maxHeartbeats 4000000 in
theorem c_X7_pair_g {sc : Nat × (Nat → Int32)} {d : Nat} (I : Nat → Nat → Int32) (J : Nat → Nat → Int64) (A : zA) (hV : MV (zVm I) A) (hW : WF A) (p : Nat) (hp : p < aN A) (j : Nat) (hj : j < gz A p) : EvM sc (d + 2) 0 0 mX7_pair [.ref 359, .int (nI p), .int (nI (200 + j))] (zz_SH, I, J) (zz_is (.int (nI (gg A p j))) (zz_SH, I, J)) := by
  have w1 := hW.1.1
  have w2 := hW.1.2.1
  have z1 := (hW.2.1 p hp).1
  refine EvM.of (by decide) rfl (Nat.le_of_ble_eq_true rfl) ?_
  show Ev _ _ _ _ _ 0 [some (.ref 359), some (.int (nI p)), some (.int (nI (200 + j)))] [] (zz_SH, I, J) _
  refine Ev.run [(.aload_n 0, 1), (.iload_n 1, 1)] (pc' := 2) (L' := [some (.ref 359), some (.int (nI p)), some (.int (nI (200 + j)))]) (S' := [.int (nI p), .ref 359]) rfl (by decide +kernel) rfl ?_
  refine Ev.callV0 mX7_isPair [.int (nI p)] [] _ rfl lk_RX7_100 (by decide +kernel) (rfl) rfl rfl rfl (Nat.le_of_ble_eq_true rfl) (c_X7_isPair I J (aN A) (nI p) hV.1.1 (by omega)) ?_
  rintro _ _ ⟨rfl, ⟨rfl, h2⟩ | ⟨rfl, h2⟩⟩
  · show Ev _ _ _ _ _ 5 [some (.ref 359), some (.int (nI p)), some (.int (nI (200 + j)))] [.int (nI 1)] (zz_SH, I, J) _
    refine Ev.if_ne (off := 5) (tgt := 10) (by decide +kernel) (by decide) (fun h5 => ?_) (fun h5 => absurd h5 (by decide))
    refine Ev.run [(.iload_n 2, 1), (.iconst 0, 1), (.iconst 2, 1)] (pc' := 13) (L' := [some (.ref 359), some (.int (nI p)), some (.int (nI (200 + j)))]) (S' := [.int (nI 2), .int (nI 0), .int (nI (200 + j))]) rfl (by decide +kernel) rfl ?_
    refine Ev.callS0 mX7_in [.int (nI (200 + j)), .int (nI 0), .int (nI 2)] [] _ rfl lk_RX7_79 (by decide +kernel) rfl (Nat.le_of_ble_eq_true rfl) (c_X7_in I J (nI (200 + j)) (nI 0) (nI 2)) ?_
    rintro _ _ ⟨rfl, ⟨rfl, h13⟩ | ⟨rfl, h13⟩⟩
    · exact absurd h13 (fun q => absurd ((zz_rng (a := 0) (b := 2) (x := 200 + j) (by omega) (by omega) (by omega)).mp q) (by omega))
    · show Ev _ _ _ _ _ 16 [some (.ref 359), some (.int (nI p)), some (.int (nI (200 + j)))] [.int (nI 0)] (zz_SH, I, J) _
      refine Ev.if_eq (off := 37) (tgt := 53) (by decide +kernel) (by decide) (fun h16 => ?_) (fun h16 => absurd h16 (by decide))
      refine Ev.run [(.iload_n 2, 1), (.bipush 100, 2), (.bipush 99, 2), (.aload_n 0, 1), (.getfield 16, 3), (.iload_n 1, 1)] (pc' := 63) (L' := [some (.ref 359), some (.int (nI p)), some (.int (nI (200 + j)))]) (S' := [.int (nI p), .ref 362, .int (nI 99), .int (nI 100), .int (nI (200 + j))]) rfl (by decide +kernel) rfl ?_
      refine Ev.iald p (by decide +kernel) (rfl) (rfl) (by omega) (by first | decide | omega) ?_
      dsimp only
      rw [show I 362 p = nI (fz A p) from (hV.2.1 p hp).2.1]
      refine Ev.run [(.iadd, 1)] (pc' := 65) (L' := [some (.ref 359), some (.int (nI p)), some (.int (nI (200 + j)))]) (S' := [.int (nI 99 + nI (fz A p)), .int (nI 100), .int (nI (200 + j))]) rfl (by decide +kernel) rfl ?_
      rw [nI_add 99 (fz A p)]
      refine Ev.callS0 mX7_in [.int (nI (200 + j)), .int (nI 100), .int (nI (99 + (fz A p)))] [] _ rfl lk_RX7_79 (by decide +kernel) rfl (Nat.le_of_ble_eq_true rfl) (c_X7_in I J (nI (200 + j)) (nI 100) (nI (99 + (fz A p)))) ?_
      rintro _ _ ⟨rfl, ⟨rfl, h65⟩ | ⟨rfl, h65⟩⟩
      · exact absurd h65 (fun q => absurd ((zz_rng (a := 100) (b := 99 + fz A p) (x := 200 + j) (by omega) (by omega) (by omega)).mp q) (by omega))
      · show Ev _ _ _ _ _ 68 [some (.ref 359), some (.int (nI p)), some (.int (nI (200 + j)))] [.int (nI 0)] (zz_SH, I, J) _
        refine Ev.if_eq (off := 18) (tgt := 86) (by decide +kernel) (by decide) (fun h68 => ?_) (fun h68 => absurd h68 (by decide))
        refine Ev.run [(.iload_n 2, 1), (.sipush 200, 3), (.sipush 199, 3), (.aload_n 0, 1), (.getfield 19, 3), (.iload_n 1, 1)] (pc' := 98) (L' := [some (.ref 359), some (.int (nI p)), some (.int (nI (200 + j)))]) (S' := [.int (nI p), .ref 363, .int (nI 199), .int (nI 200), .int (nI (200 + j))]) rfl (by decide +kernel) rfl ?_
        refine Ev.iald p (by decide +kernel) (rfl) (rfl) (by omega) (by first | decide | omega) ?_
        dsimp only
        rw [show I 363 p = nI (gz A p) from (hV.2.1 p hp).2.2.1]
        refine Ev.run [(.iadd, 1)] (pc' := 100) (L' := [some (.ref 359), some (.int (nI p)), some (.int (nI (200 + j)))]) (S' := [.int (nI 199 + nI (gz A p)), .int (nI 200), .int (nI (200 + j))]) rfl (by decide +kernel) rfl ?_
        rw [nI_add 199 (gz A p)]
        refine Ev.callS0 mX7_in [.int (nI (200 + j)), .int (nI 200), .int (nI (199 + (gz A p)))] [] _ rfl lk_RX7_79 (by decide +kernel) rfl (Nat.le_of_ble_eq_true rfl) (c_X7_in I J (nI (200 + j)) (nI 200) (nI (199 + (gz A p)))) ?_
        rintro _ _ ⟨rfl, ⟨rfl, h100⟩ | ⟨rfl, h100⟩⟩
        · show Ev _ _ _ _ _ 103 [some (.ref 359), some (.int (nI p)), some (.int (nI (200 + j)))] [.int (nI 1)] (zz_SH, I, J) _
          refine Ev.if_eq (off := 21) (tgt := 124) (by decide +kernel) (by decide) (fun h103 => absurd h103 (by decide)) (fun h103 => ?_)
          refine Ev.run [(.aload_n 0, 1), (.getfield 25, 3), (.bipush 12, 2), (.iload_n 1, 1), (.imul, 1)] (pc' := 114) (L' := [some (.ref 359), some (.int (nI p)), some (.int (nI (200 + j)))]) (S' := [.int (nI 12 * nI p), .ref 365]) rfl (by decide +kernel) rfl ?_
          rw [pk_mul 12 p]
          refine Ev.run [(.iload_n 2, 1), (.iadd, 1)] (pc' := 116) (L' := [some (.ref 359), some (.int (nI p)), some (.int (nI (200 + j)))]) (S' := [.int (nI (12 * p) + nI (200 + j)), .ref 365]) rfl (by decide +kernel) rfl ?_
          rw [nI_add (12 * p) (200 + j)]
          refine Ev.run [(.sipush 200, 3), (.isub, 1)] (pc' := 120) (L' := [some (.ref 359), some (.int (nI p)), some (.int (nI (200 + j)))]) (S' := [.int (nI ((12 * p) + (200 + j)) - nI 200), .ref 365]) rfl (by decide +kernel) rfl ?_
          rw [show nI ((12 * p) + (200 + j)) - nI 200 = nI (12 * p + j) from zz_sub (by omega)]
          refine Ev.iald (12 * p + j) (by decide +kernel) (rfl) (rfl) (by omega) (by first | decide | omega) ?_
          dsimp only
          rw [show I 365 (12 * p + j) = nI (gg A p j) from (hV.2.1 p hp).2.2.2.2 j hj]
          refine Ev.goto (off := 5) (tgt := 126) (by decide +kernel) (by decide) ?_
          exact Ev.iret rfl (by decide +kernel) (⟨rfl, rfl⟩)
        · exact absurd ((zz_rng (a := 200) (b := 199 + gz A p) (x := 200 + j) (by omega) (by omega) (by omega)).mpr (by omega)) h100
  · exact absurd ⟨p, hp, rfl⟩ h2

set_option maxRecDepth 100000 in
set_option maxHeartbeats 4000000 in
theorem c_X7_pair_o {sc : Nat × (Nat → Int32)} {d : Nat} (I : Nat → Nat → Int32) (J : Nat → Nat → Int64) (A : zA) (hV : MV (zVm I) A) (hW : WF A) (p : Nat) (hp : p < aN A) (y : Int32) (h1 : ¬ (nI 0 ≤ y ∧ y ≤ nI 2)) (h3 : ¬ (nI 100 ≤ y ∧ y ≤ nI (99 + fz A p))) (h4 : ¬ (nI 200 ≤ y ∧ y ≤ nI (199 + gz A p))) : EvM sc (d + 2) 0 0 mX7_pair [.ref 359, .int (nI p), .int y] (zz_SH, I, J) (zz_is (.int (-2)) (zz_SH, I, J)) := by
  have w1 := hW.1.1
  have w2 := hW.1.2.1
  have z1 := (hW.2.1 p hp).1
  refine EvM.of (by decide) rfl (Nat.le_of_ble_eq_true rfl) ?_
  show Ev _ _ _ _ _ 0 [some (.ref 359), some (.int (nI p)), some (.int y)] [] (zz_SH, I, J) _
  refine Ev.run [(.aload_n 0, 1), (.iload_n 1, 1)] (pc' := 2) (L' := [some (.ref 359), some (.int (nI p)), some (.int y)]) (S' := [.int (nI p), .ref 359]) rfl (by decide +kernel) rfl ?_
  refine Ev.callV0 mX7_isPair [.int (nI p)] [] _ rfl lk_RX7_100 (by decide +kernel) (rfl) rfl rfl rfl (Nat.le_of_ble_eq_true rfl) (c_X7_isPair I J (aN A) (nI p) hV.1.1 (by omega)) ?_
  rintro _ _ ⟨rfl, ⟨rfl, h2⟩ | ⟨rfl, h2⟩⟩
  · show Ev _ _ _ _ _ 5 [some (.ref 359), some (.int (nI p)), some (.int y)] [.int (nI 1)] (zz_SH, I, J) _
    refine Ev.if_ne (off := 5) (tgt := 10) (by decide +kernel) (by decide) (fun h5 => ?_) (fun h5 => absurd h5 (by decide))
    refine Ev.run [(.iload_n 2, 1), (.iconst 0, 1), (.iconst 2, 1)] (pc' := 13) (L' := [some (.ref 359), some (.int (nI p)), some (.int y)]) (S' := [.int (nI 2), .int (nI 0), .int y]) rfl (by decide +kernel) rfl ?_
    refine Ev.callS0 mX7_in [.int y, .int (nI 0), .int (nI 2)] [] _ rfl lk_RX7_79 (by decide +kernel) rfl (Nat.le_of_ble_eq_true rfl) (c_X7_in I J y (nI 0) (nI 2)) ?_
    rintro _ _ ⟨rfl, ⟨rfl, h13⟩ | ⟨rfl, h13⟩⟩
    · exact absurd h13 h1
    · show Ev _ _ _ _ _ 16 [some (.ref 359), some (.int (nI p)), some (.int y)] [.int (nI 0)] (zz_SH, I, J) _
      refine Ev.if_eq (off := 37) (tgt := 53) (by decide +kernel) (by decide) (fun h16 => ?_) (fun h16 => absurd h16 (by decide))
      refine Ev.run [(.iload_n 2, 1), (.bipush 100, 2), (.bipush 99, 2), (.aload_n 0, 1), (.getfield 16, 3), (.iload_n 1, 1)] (pc' := 63) (L' := [some (.ref 359), some (.int (nI p)), some (.int y)]) (S' := [.int (nI p), .ref 362, .int (nI 99), .int (nI 100), .int y]) rfl (by decide +kernel) rfl ?_
      refine Ev.iald p (by decide +kernel) (rfl) (rfl) (by omega) (by first | decide | omega) ?_
      dsimp only
      rw [show I 362 p = nI (fz A p) from (hV.2.1 p hp).2.1]
      refine Ev.run [(.iadd, 1)] (pc' := 65) (L' := [some (.ref 359), some (.int (nI p)), some (.int y)]) (S' := [.int (nI 99 + nI (fz A p)), .int (nI 100), .int y]) rfl (by decide +kernel) rfl ?_
      rw [nI_add 99 (fz A p)]
      refine Ev.callS0 mX7_in [.int y, .int (nI 100), .int (nI (99 + (fz A p)))] [] _ rfl lk_RX7_79 (by decide +kernel) rfl (Nat.le_of_ble_eq_true rfl) (c_X7_in I J y (nI 100) (nI (99 + (fz A p)))) ?_
      rintro _ _ ⟨rfl, ⟨rfl, h65⟩ | ⟨rfl, h65⟩⟩
      · exact absurd h65 h3
      · show Ev _ _ _ _ _ 68 [some (.ref 359), some (.int (nI p)), some (.int y)] [.int (nI 0)] (zz_SH, I, J) _
        refine Ev.if_eq (off := 18) (tgt := 86) (by decide +kernel) (by decide) (fun h68 => ?_) (fun h68 => absurd h68 (by decide))
        refine Ev.run [(.iload_n 2, 1), (.sipush 200, 3), (.sipush 199, 3), (.aload_n 0, 1), (.getfield 19, 3), (.iload_n 1, 1)] (pc' := 98) (L' := [some (.ref 359), some (.int (nI p)), some (.int y)]) (S' := [.int (nI p), .ref 363, .int (nI 199), .int (nI 200), .int y]) rfl (by decide +kernel) rfl ?_
        refine Ev.iald p (by decide +kernel) (rfl) (rfl) (by omega) (by first | decide | omega) ?_
        dsimp only
        rw [show I 363 p = nI (gz A p) from (hV.2.1 p hp).2.2.1]
        refine Ev.run [(.iadd, 1)] (pc' := 100) (L' := [some (.ref 359), some (.int (nI p)), some (.int y)]) (S' := [.int (nI 199 + nI (gz A p)), .int (nI 200), .int y]) rfl (by decide +kernel) rfl ?_
        rw [nI_add 199 (gz A p)]
        refine Ev.callS0 mX7_in [.int y, .int (nI 200), .int (nI (199 + (gz A p)))] [] _ rfl lk_RX7_79 (by decide +kernel) rfl (Nat.le_of_ble_eq_true rfl) (c_X7_in I J y (nI 200) (nI (199 + (gz A p)))) ?_
        rintro _ _ ⟨rfl, ⟨rfl, h100⟩ | ⟨rfl, h100⟩⟩
        · exact absurd h100 h4
        · show Ev _ _ _ _ _ 103 [some (.ref 359), some (.int (nI p)), some (.int y)] [.int (nI 0)] (zz_SH, I, J) _
          refine Ev.if_eq (off := 21) (tgt := 124) (by decide +kernel) (by decide) (fun h103 => ?_) (fun h103 => absurd h103 (by decide))
          refine Ev.run [(.bipush (-2), 2)] (pc' := 126) (L' := [some (.ref 359), some (.int (nI p)), some (.int y)]) (S' := [.int ((-2))]) rfl (by decide +kernel) rfl ?_
          exact Ev.iret rfl (by decide +kernel) (⟨rfl, rfl⟩)
  · exact absurd ⟨p, hp, rfl⟩ h2
end
section
/-! ===== the pad's faults ===== -/
def stn (tg x : Nat) : Bool := decide ((48 ≤ x ∧ x ≤ 57) ∨ (tg ≤ x ∧ x ≤ tg + 15))
theorem stn_y {tg x : Nat} (h : (48 ≤ x ∧ x ≤ 57) ∨ (tg ≤ x ∧ x ≤ tg + 15)) : stn tg x = true := decide_eq_true h
theorem stn_n {tg x : Nat} (h1 : ¬ (48 ≤ x ∧ x ≤ 57)) (h2 : ¬ (tg ≤ x ∧ x ≤ tg + 15)) : stn tg x = false := decide_eq_false (fun q => q.elim h1 h2)
def et (np : Nat) (pd : Nat → Nat) (tg : Nat) : Nat → Nat → Nat
  | 0, pl => pl
  | k + 1, pl => if pl < np ∧ stn tg (pd pl) = true then et np pd tg k (pl + 1) else pl
theorem et_np {np : Nat} {pd : Nat → Nat} {tg k pl : Nat} (h : ¬ pl < np) : et np pd tg k pl = pl := by
  cases k with
  | zero => rfl
  | succ k => rw [et, if_neg (fun q => h q.1)]
theorem et_no {np : Nat} {pd : Nat → Nat} {tg k pl : Nat} (h : stn tg (pd pl) = false) : et np pd tg k pl = pl := by
  cases k with
  | zero => rfl
  | succ k => rw [et, if_neg (fun q => by rw [h] at q; cases q.2)]
theorem et_st {np : Nat} {pd : Nat → Nat} {tg k pl : Nat} (hk : 0 < k) (h1 : pl < np) (h2 : stn tg (pd pl) = true) : et np pd tg k pl = et np pd tg (k - 1) (pl + 1) := by
  obtain ⟨j, rfl⟩ : ∃ j, k = j + 1 := ⟨k - 1, by omega⟩
  rw [et, if_pos ⟨h1, h2⟩]; rfl
theorem et_b (np : Nat) (pd : Nat → Nat) (tg : Nat) : ∀ k pl, pl ≤ np → pl ≤ et np pd tg k pl ∧ et np pd tg k pl ≤ pl + k ∧ et np pd tg k pl ≤ np
  | 0, pl, h => ⟨Nat.le_refl _, Nat.le_refl _, h⟩
  | k + 1, pl, h => by
    rw [et]
    split
    · next q =>
      have := et_b np pd tg k (pl + 1) (by omega)
      omega
    · omega
def E1 (np : Nat) (pd : Nat → Nat) : Nat := et np pd 97 12 0
def E2 (np : Nat) (pd : Nat → Nat) : Nat := et np pd 65 12 (E1 np pd + 1)
def fS (np : Nat) (pd : Nat → Nat) : Option Nat := if E1 np pd < np ∨ E1 np pd = 0 then some (E1 np pd) else none
def fP (np : Nat) (pd : Nat → Nat) : Option Nat := if E1 np pd = 0 ∨ ¬ (E1 np pd < np ∧ pd (E1 np pd) = 61) then some (E1 np pd) else if E2 np pd < np ∨ E2 np pd = E1 np pd + 1 then some (E2 np pd) else none
def zS7 (I I' : Nat → Nat → Int32) : Prop := (∀ c, c ≠ 359 → I' c = I c) ∧ ∀ j, j ≠ 15 → I' 359 j = I 359 j
theorem zS7.rf (I : Nat → Nat → Int32) : zS7 I I := ⟨fun _ _ => rfl, fun _ _ => rfl⟩
theorem zS7.tr {I I' I'' : Nat → Nat → Int32} (h : zS7 I I') (h' : zS7 I' I'') : zS7 I I'' := ⟨fun c h1 => (h'.1 c h1).trans (h.1 c h1), fun j h1 => (h'.2 j h1).trans (h.2 j h1)⟩
theorem zS7.up (I : Nat → Nat → Int32) (v : Int32) : zS7 I (zz_up I 359 15 v) := ⟨fun c h1 => zz_up_ne h1, fun i h1 => by rw [zz_up_eq, zz_upn h1]⟩
theorem zS7.sc {I I' : Nat → Nat → Int32} (h : zS7 I I') : zSc I I' := ⟨fun c hc => h.1 c (by omega), h.1 360 (by decide), fun c h1 h2 => h.1 c (by omega), h.1 379 (by decide), h.1 380 (by decide), h.2 0 (by decide), h.2 2 (by decide), h.2 8 (by decide)⟩

set_option maxRecDepth 100000 in
set_option maxHeartbeats 4000000 in
theorem l_X7_fA0 {sc : Nat × (Nat → Int32)} {d : Nat} (I : Nat → Nat → Int32) (J : Nat → Nat → Int64) (np : Nat) (pd : Nat → Nat) (hn : I 359 0 = nI np) (hpd : ∀ j, j < np → I 360 j = nI (pd j)) (hnp : np ≤ 30) (hpr : ∀ j, j < np → 33 ≤ pd j ∧ pd j ≤ 126) : ∀ (μ : Nat) (k : Nat) (I1 : Nat → Nat → Int32), np - k < μ → (k ≤ np) → (k ≤ 12) → (zS7 I I1) → (I1 359 15 = (-6)) → (E1 np pd = et np pd 97 (12 - k) k) →  Ev sc (d + 2) 0 0 mX7_faultOf 10 [some (.ref 359), some (.int (nI 0)), some (.int (nI k)), some (.int (nI k)), none, none] [] (zz_SH, I1, J) (fun r σ => r = some (.int (ob (fS np pd))) ∧ ∃ I' : Nat → Nat → Int32, zS7 I I' ∧ σ = (zz_SH, I', J)) := by
  intro μ
  induction μ with
  | zero => intro k I1 hμ; exact absurd hμ (Nat.not_lt_zero _)
  | succ μ ih =>
    intro k I1 hμ hk hk2 hs hh hE
    refine Ev.run [(.iload_n 3, 1), (.aload_n 0, 1), (.getfield 86, 3)] (pc' := 15) (L' := [some (.ref 359), some (.int (nI 0)), some (.int (nI k)), some (.int (nI k)), none, none]) (S' := [.int (I1 359 0), .int (nI k)]) rfl (by decide +kernel) rfl ?_
    rw [show I1 359 0 = nI np from by rw [hs.2 0 (by decide)]; exact hn]
    refine Ev.icmp_ge (off := 120) (tgt := 135) (by decide +kernel) (by decide) (fun h15 => ?_) (fun h15 => ?_)
    · have h15 : k ≥ np := zz_bG_t (by omega) (by omega) h15
      refine Ev.run [(.iload_n 2, 1)] (pc' := 136) (L' := [some (.ref 359), some (.int (nI 0)), some (.int (nI k)), some (.int (nI k)), none, none]) (S' := [.int (nI k)]) rfl (by decide +kernel) rfl ?_
      refine Ev.if_le (off := 19) (tgt := 155) (by decide +kernel) (by decide) (fun h136 => ?_) (fun h136 => ?_)
      · have h136 : k ≤ 0 := zz_bG'_t (by omega) (by omega) h136
        refine Ev.run [(.aload_n 0, 1), (.getfield 86, 3)] (pc' := 159) (L' := [some (.ref 359), some (.int (nI 0)), some (.int (nI k)), some (.int (nI k)), none, none]) (S' := [.int (I1 359 0)]) rfl (by decide +kernel) rfl ?_
        rw [show I1 359 0 = nI np from by rw [hs.2 0 (by decide)]; exact hn]
        exact Ev.iret rfl (by decide +kernel) (⟨by have e1 : E1 np pd = k := hE.trans (et_np (by omega)); rw [fS, if_pos (by omega), e1, show k = np by omega]; rfl, I1, hs, rfl⟩)
      · have h136 : k > 0 := zz_bG'_f (by omega) (by omega) h136
        refine Ev.run [(.iload_n 1, 1)] (pc' := 140) (L' := [some (.ref 359), some (.int (nI 0)), some (.int (nI k)), some (.int (nI k)), none, none]) (S' := [.int (nI 0)]) rfl (by decide +kernel) rfl ?_
        refine Ev.if_eq (off := 10) (tgt := 150) (by decide +kernel) (by decide) (fun h140 => ?_) (fun h140 => absurd h140 (by decide))
        refine Ev.run [(.bipush (-6), 2)] (pc' := 152) (L' := [some (.ref 359), some (.int (nI 0)), some (.int (nI k)), some (.int (nI k)), none, none]) (S' := [.int ((-6))]) rfl (by decide +kernel) rfl ?_
        refine Ev.goto (off := 7) (tgt := 159) (by decide +kernel) (by decide) ?_
        exact Ev.iret rfl (by decide +kernel) (⟨by have e1 : E1 np pd = k := hE.trans (et_np (by omega)); rw [fS, if_neg (by omega)]; rfl, I1, hs, rfl⟩)
    · have h15 : k < np := zz_bG_f (by omega) (by omega) h15
      have r1 := hpr (k) (by omega)
      refine Ev.run [(.aload_n 0, 1), (.getfield 7, 3), (.iload_n 3, 1)] (pc' := 23) (L' := [some (.ref 359), some (.int (nI 0)), some (.int (nI k)), some (.int (nI k)), none, none]) (S' := [.int (nI k), .ref 360]) rfl (by decide +kernel) rfl ?_
      refine Ev.iald k (by decide +kernel) (rfl) (rfl) (by omega) (by first | decide | omega) ?_
      dsimp only
      rw [show I1 360 (k) = nI (pd (k)) from by rw [hs.1 360 (by decide)]; exact hpd _ (by omega)]
      refine Ev.run [(.istore 4, 2), (.iload_n 2, 1), (.bipush 12, 2)] (pc' := 29) (L' := [some (.ref 359), some (.int (nI 0)), some (.int (nI k)), some (.int (nI k)), some (.int (nI (pd k))), none]) (S' := [.int (nI 12), .int (nI k)]) rfl (by decide +kernel) rfl ?_
      refine Ev.icmp_ge (off := 49) (tgt := 78) (by decide +kernel) (by decide) (fun h29 => ?_) (fun h29 => ?_)
      · have h29 : k ≥ 12 := zz_bG_t (by omega) (by omega) h29
        refine Ev.run [(.iconst 0, 1), (.istore 5, 2), (.iload_n 1, 1), (.iconst 1, 1)] (pc' := 83) (L' := [some (.ref 359), some (.int (nI 0)), some (.int (nI k)), some (.int (nI k)), some (.int (nI (pd k))), some (.int (nI 0))]) (S' := [.int (nI 1), .int (nI 0)]) rfl (by decide +kernel) rfl ?_
        refine Ev.icmp_ne (off := 33) (tgt := 116) (by decide +kernel) (by decide) (fun h83 => ?_) (fun h83 => absurd h83 (by decide))
        refine Ev.run [(.iload 5, 2)] (pc' := 118) (L' := [some (.ref 359), some (.int (nI 0)), some (.int (nI k)), some (.int (nI k)), some (.int (nI (pd k))), some (.int (nI 0))]) (S' := [.int (nI 0)]) rfl (by decide +kernel) rfl ?_
        refine Ev.if_eq (off := 9) (tgt := 127) (by decide +kernel) (by decide) (fun h118 => ?_) (fun h118 => absurd h118 (by decide))
        refine Ev.run [(.iload_n 3, 1)] (pc' := 128) (L' := [some (.ref 359), some (.int (nI 0)), some (.int (nI k)), some (.int (nI k)), some (.int (nI (pd k))), some (.int (nI 0))]) (S' := [.int (nI k)]) rfl (by decide +kernel) rfl ?_
        exact Ev.iret rfl (by decide +kernel) (⟨by have e1 : E1 np pd = k := hE.trans (by rw [show 12 - k = 0 by omega]; rfl); rw [fS, if_pos (by omega), e1]; rfl, I1, hs, rfl⟩)
      · have h29 : k < 12 := zz_bG_f (by omega) (by omega) h29
        refine Ev.run [(.iload 4, 2)] (pc' := 34) (L' := [some (.ref 359), some (.int (nI 0)), some (.int (nI k)), some (.int (nI k)), some (.int (nI (pd k))), none]) (S' := [.int (nI (pd k))]) rfl (by decide +kernel) rfl ?_
        refine Ev.callS0 mX7_isNumber [.int (nI (pd k))] [] _ rfl lk_RX7_92 (by decide +kernel) rfl (Nat.le_of_ble_eq_true rfl) (c_X7_isNumber I1 J (nI (pd k))) ?_
        rintro _ _ ⟨rfl, ⟨rfl, h34⟩ | ⟨rfl, h34⟩⟩
        · show Ev _ _ _ _ _ 37 [some (.ref 359), some (.int (nI 0)), some (.int (nI k)), some (.int (nI k)), some (.int (nI (pd k))), none] [.int (nI 1)] (zz_SH, I1, J) _
          rw [zz_num (by omega)] at h34
          refine Ev.if_ne (off := 37) (tgt := 74) (by decide +kernel) (by decide) (fun h37 => ?_) (fun h37 => absurd h37 (by decide))
          refine Ev.run [(.iconst 1, 1)] (pc' := 75) (L' := [some (.ref 359), some (.int (nI 0)), some (.int (nI k)), some (.int (nI k)), some (.int (nI (pd k))), none]) (S' := [.int (nI 1)]) rfl (by decide +kernel) rfl ?_
          refine Ev.goto (off := 4) (tgt := 79) (by decide +kernel) (by decide) ?_
          refine Ev.run [(.istore 5, 2), (.iload_n 1, 1), (.iconst 1, 1)] (pc' := 83) (L' := [some (.ref 359), some (.int (nI 0)), some (.int (nI k)), some (.int (nI k)), some (.int (nI (pd k))), some (.int (nI 1))]) (S' := [.int (nI 1), .int (nI 0)]) rfl (by decide +kernel) rfl ?_
          refine Ev.icmp_ne (off := 33) (tgt := 116) (by decide +kernel) (by decide) (fun h83 => ?_) (fun h83 => absurd h83 (by decide))
          refine Ev.run [(.iload 5, 2)] (pc' := 118) (L' := [some (.ref 359), some (.int (nI 0)), some (.int (nI k)), some (.int (nI k)), some (.int (nI (pd k))), some (.int (nI 1))]) (S' := [.int (nI 1)]) rfl (by decide +kernel) rfl ?_
          refine Ev.if_eq (off := 9) (tgt := 127) (by decide +kernel) (by decide) (fun h118 => absurd h118 (by decide)) (fun h118 => ?_)
          refine Ev.run [(.iinc 2 1, 3)] (pc' := 124) (L' := [some (.ref 359), some (.int (nI 0)), some (.int (nI k + 1)), some (.int (nI k)), some (.int (nI (pd k))), some (.int (nI 1))]) (S' := []) rfl (by decide +kernel) rfl ?_
          rw [nI_1 k]
          refine Ev.goto (off := 5) (tgt := 129) (by decide +kernel) (by decide) ?_
          refine Ev.run [(.iinc 3 1, 3)] (pc' := 132) (L' := [some (.ref 359), some (.int (nI 0)), some (.int (nI (k + 1))), some (.int (nI k + 1)), some (.int (nI (pd k))), some (.int (nI 1))]) (S' := []) rfl (by decide +kernel) rfl ?_
          rw [nI_1 k]
          refine Ev.goto (off := (-122)) (tgt := 10) (by decide +kernel) (by decide) ?_
          refine Ev.weakL (L' := [some (.ref 359), some (.int (nI 0)), some (.int (nI (k + 1))), some (.int (nI (k + 1))), none, none]) ⟨rfl, rfl, rfl, rfl, trivial⟩ ?_
          exact ih (k + 1) I1 (by omega) (by omega) (by omega) hs hh (by rw [hE, et_st (by omega) (by omega) (stn_y (Or.inl h34))]; rfl)
        · show Ev _ _ _ _ _ 37 [some (.ref 359), some (.int (nI 0)), some (.int (nI k)), some (.int (nI k)), some (.int (nI (pd k))), none] [.int (nI 0)] (zz_SH, I1, J) _
          rw [zz_num (by omega)] at h34
          refine Ev.if_ne (off := 37) (tgt := 74) (by decide +kernel) (by decide) (fun h37 => absurd h37 (by decide)) (fun h37 => ?_)
          refine Ev.run [(.aload_n 0, 1), (.getfield 89, 3)] (pc' := 44) (L' := [some (.ref 359), some (.int (nI 0)), some (.int (nI k)), some (.int (nI k)), some (.int (nI (pd k))), none]) (S' := [.int (I1 359 15)]) rfl (by decide +kernel) rfl ?_
          rw [hh]
          refine Ev.if_ge (off := 18) (tgt := 62) (by decide +kernel) (by decide) (fun h44 => absurd h44 (by decide)) (fun h44 => ?_)
          refine Ev.run [(.iload 4, 2), (.bipush 97, 2), (.bipush 112, 2)] (pc' := 53) (L' := [some (.ref 359), some (.int (nI 0)), some (.int (nI k)), some (.int (nI k)), some (.int (nI (pd k))), none]) (S' := [.int (nI 112), .int (nI 97), .int (nI (pd k))]) rfl (by decide +kernel) rfl ?_
          refine Ev.callS0 mX7_in [.int (nI (pd k)), .int (nI 97), .int (nI 112)] [] _ rfl lk_RX7_79 (by decide +kernel) rfl (Nat.le_of_ble_eq_true rfl) (c_X7_in I1 J (nI (pd k)) (nI 97) (nI 112)) ?_
          rintro _ _ ⟨rfl, ⟨rfl, h53⟩ | ⟨rfl, h53⟩⟩
          · show Ev _ _ _ _ _ 56 [some (.ref 359), some (.int (nI 0)), some (.int (nI k)), some (.int (nI k)), some (.int (nI (pd k))), none] [.int (nI 1)] (zz_SH, I1, J) _
            rw [zz_rng (by omega) (by omega) (by omega)] at h53
            refine Ev.if_eq (off := 22) (tgt := 78) (by decide +kernel) (by decide) (fun h56 => absurd h56 (by decide)) (fun h56 => ?_)
            refine Ev.goto (off := 15) (tgt := 74) (by decide +kernel) (by decide) ?_
            refine Ev.run [(.iconst 1, 1)] (pc' := 75) (L' := [some (.ref 359), some (.int (nI 0)), some (.int (nI k)), some (.int (nI k)), some (.int (nI (pd k))), none]) (S' := [.int (nI 1)]) rfl (by decide +kernel) rfl ?_
            refine Ev.goto (off := 4) (tgt := 79) (by decide +kernel) (by decide) ?_
            refine Ev.run [(.istore 5, 2), (.iload_n 1, 1), (.iconst 1, 1)] (pc' := 83) (L' := [some (.ref 359), some (.int (nI 0)), some (.int (nI k)), some (.int (nI k)), some (.int (nI (pd k))), some (.int (nI 1))]) (S' := [.int (nI 1), .int (nI 0)]) rfl (by decide +kernel) rfl ?_
            refine Ev.icmp_ne (off := 33) (tgt := 116) (by decide +kernel) (by decide) (fun h83 => ?_) (fun h83 => absurd h83 (by decide))
            refine Ev.run [(.iload 5, 2)] (pc' := 118) (L' := [some (.ref 359), some (.int (nI 0)), some (.int (nI k)), some (.int (nI k)), some (.int (nI (pd k))), some (.int (nI 1))]) (S' := [.int (nI 1)]) rfl (by decide +kernel) rfl ?_
            refine Ev.if_eq (off := 9) (tgt := 127) (by decide +kernel) (by decide) (fun h118 => absurd h118 (by decide)) (fun h118 => ?_)
            refine Ev.run [(.iinc 2 1, 3)] (pc' := 124) (L' := [some (.ref 359), some (.int (nI 0)), some (.int (nI k + 1)), some (.int (nI k)), some (.int (nI (pd k))), some (.int (nI 1))]) (S' := []) rfl (by decide +kernel) rfl ?_
            rw [nI_1 k]
            refine Ev.goto (off := 5) (tgt := 129) (by decide +kernel) (by decide) ?_
            refine Ev.run [(.iinc 3 1, 3)] (pc' := 132) (L' := [some (.ref 359), some (.int (nI 0)), some (.int (nI (k + 1))), some (.int (nI k + 1)), some (.int (nI (pd k))), some (.int (nI 1))]) (S' := []) rfl (by decide +kernel) rfl ?_
            rw [nI_1 k]
            refine Ev.goto (off := (-122)) (tgt := 10) (by decide +kernel) (by decide) ?_
            refine Ev.weakL (L' := [some (.ref 359), some (.int (nI 0)), some (.int (nI (k + 1))), some (.int (nI (k + 1))), none, none]) ⟨rfl, rfl, rfl, rfl, trivial⟩ ?_
            exact ih (k + 1) I1 (by omega) (by omega) (by omega) hs hh (by rw [hE, et_st (by omega) (by omega) (stn_y (Or.inr h53))]; rfl)
          · show Ev _ _ _ _ _ 56 [some (.ref 359), some (.int (nI 0)), some (.int (nI k)), some (.int (nI k)), some (.int (nI (pd k))), none] [.int (nI 0)] (zz_SH, I1, J) _
            rw [zz_rng (by omega) (by omega) (by omega)] at h53
            refine Ev.if_eq (off := 22) (tgt := 78) (by decide +kernel) (by decide) (fun h56 => ?_) (fun h56 => absurd h56 (by decide))
            refine Ev.run [(.iconst 0, 1), (.istore 5, 2), (.iload_n 1, 1), (.iconst 1, 1)] (pc' := 83) (L' := [some (.ref 359), some (.int (nI 0)), some (.int (nI k)), some (.int (nI k)), some (.int (nI (pd k))), some (.int (nI 0))]) (S' := [.int (nI 1), .int (nI 0)]) rfl (by decide +kernel) rfl ?_
            refine Ev.icmp_ne (off := 33) (tgt := 116) (by decide +kernel) (by decide) (fun h83 => ?_) (fun h83 => absurd h83 (by decide))
            refine Ev.run [(.iload 5, 2)] (pc' := 118) (L' := [some (.ref 359), some (.int (nI 0)), some (.int (nI k)), some (.int (nI k)), some (.int (nI (pd k))), some (.int (nI 0))]) (S' := [.int (nI 0)]) rfl (by decide +kernel) rfl ?_
            refine Ev.if_eq (off := 9) (tgt := 127) (by decide +kernel) (by decide) (fun h118 => ?_) (fun h118 => absurd h118 (by decide))
            refine Ev.run [(.iload_n 3, 1)] (pc' := 128) (L' := [some (.ref 359), some (.int (nI 0)), some (.int (nI k)), some (.int (nI k)), some (.int (nI (pd k))), some (.int (nI 0))]) (S' := [.int (nI k)]) rfl (by decide +kernel) rfl ?_
            exact Ev.iret rfl (by decide +kernel) (⟨by have e1 : E1 np pd = k := hE.trans (et_no (stn_n h34 h53)); rw [fS, if_pos (by omega), e1]; rfl, I1, hs, rfl⟩)

set_option maxRecDepth 100000 in
set_option maxHeartbeats 4000000 in
theorem c_X7_faultOf_0 {sc : Nat × (Nat → Int32)} {d : Nat} (I : Nat → Nat → Int32) (J : Nat → Nat → Int64) (np : Nat) (pd : Nat → Nat) (hn : I 359 0 = nI np) (hpd : ∀ j, j < np → I 360 j = nI (pd j)) (hnp : np ≤ 30) (hpr : ∀ j, j < np → 33 ≤ pd j ∧ pd j ≤ 126) : EvM sc (d + 2) 0 0 mX7_faultOf [.ref 359, .int (nI 0)] (zz_SH, I, J) (fun r σ => r = some (.int (ob (fS np pd))) ∧ ∃ I' : Nat → Nat → Int32, zS7 I I' ∧ σ = (zz_SH, I', J)) := by
  refine EvM.of (by decide) rfl (Nat.le_of_ble_eq_true rfl) ?_
  show Ev _ _ _ _ _ 0 [some (.ref 359), some (.int (nI 0)), none, none, none, none] [] (zz_SH, I, J) _
  refine Ev.run [(.aload_n 0, 1), (.bipush (-6), 2)] (pc' := 3) (L' := [some (.ref 359), some (.int (nI 0)), none, none, none, none]) (S' := [.int ((-6)), .ref 359]) rfl (by decide +kernel) rfl ?_
  refine Ev.putf (idx := 89) rfl rfl rfl (by decide +kernel) (rfl) rfl ?_
  dsimp only
  refine Ev.run [(.iconst 0, 1), (.istore_n 2, 1), (.iconst 0, 1), (.istore_n 3, 1)] (pc' := 10) (L' := [some (.ref 359), some (.int (nI 0)), some (.int (nI 0)), some (.int (nI 0)), none, none]) (S' := []) rfl (by decide +kernel) rfl ?_
  exact l_X7_fA0 I J np pd hn hpd hnp hpr (np + 1) 0 _ (by omega) (by omega) (by omega) (zS7.up I _) (by rw [zz_up_eq, zz_ups]) rfl

set_option maxRecDepth 100000 in
set_option maxHeartbeats 4000000 in
theorem l_X7_fB {sc : Nat × (Nat → Int32)} {d : Nat} (I : Nat → Nat → Int32) (J : Nat → Nat → Int64) (np : Nat) (pd : Nat → Nat) (hn : I 359 0 = nI np) (hpd : ∀ j, j < np → I 360 j = nI (pd j)) (hnp : np ≤ 30) (hpr : ∀ j, j < np → 33 ≤ pd j ∧ pd j ≤ 126) (e : Nat) (he : E1 np pd = e) (he0 : 0 < e) (hen : e < np) (hpe : pd e = 61) : ∀ (μ : Nat) (n : Nat) (I1 : Nat → Nat → Int32), np - (e + 1 + n) < μ → (n ≤ 12) → (e + 1 + n ≤ np) → (zS7 I I1) → (I1 359 15 = nI (e + 1)) → (E2 np pd = et np pd 65 (12 - n) (e + 1 + n)) →  Ev sc (d + 2) 0 0 mX7_faultOf 10 [some (.ref 359), some (.int (nI 1)), some (.int (nI n)), some (.int (nI (e + 1 + n))), none, none] [] (zz_SH, I1, J) (fun r σ => r = some (.int (ob (fP np pd))) ∧ ∃ I' : Nat → Nat → Int32, zS7 I I' ∧ (fP np pd = none → I' 359 15 = nI (E1 np pd + 1)) ∧ σ = (zz_SH, I', J)) := by
  intro μ
  induction μ with
  | zero => intro n I1 hμ; exact absurd hμ (Nat.not_lt_zero _)
  | succ μ ih =>
    intro n I1 hμ hn1 hn2 hs hh hE
    refine Ev.run [(.iload_n 3, 1), (.aload_n 0, 1), (.getfield 86, 3)] (pc' := 15) (L' := [some (.ref 359), some (.int (nI 1)), some (.int (nI n)), some (.int (nI (e + 1 + n))), none, none]) (S' := [.int (I1 359 0), .int (nI (e + 1 + n))]) rfl (by decide +kernel) rfl ?_
    rw [show I1 359 0 = nI np from by rw [hs.2 0 (by decide)]; exact hn]
    refine Ev.icmp_ge (off := 120) (tgt := 135) (by decide +kernel) (by decide) (fun h15 => ?_) (fun h15 => ?_)
    · have h15 : (e + 1 + n) ≥ np := zz_bG_t (by omega) (by omega) h15
      refine Ev.run [(.iload_n 2, 1)] (pc' := 136) (L' := [some (.ref 359), some (.int (nI 1)), some (.int (nI n)), some (.int (nI (e + 1 + n))), none, none]) (S' := [.int (nI n)]) rfl (by decide +kernel) rfl ?_
      refine Ev.if_le (off := 19) (tgt := 155) (by decide +kernel) (by decide) (fun h136 => ?_) (fun h136 => ?_)
      · have h136 : n ≤ 0 := zz_bG'_t (by omega) (by omega) h136
        refine Ev.run [(.aload_n 0, 1), (.getfield 86, 3)] (pc' := 159) (L' := [some (.ref 359), some (.int (nI 1)), some (.int (nI n)), some (.int (nI (e + 1 + n))), none, none]) (S' := [.int (I1 359 0)]) rfl (by decide +kernel) rfl ?_
        rw [show I1 359 0 = nI np from by rw [hs.2 0 (by decide)]; exact hn]
        exact Ev.iret rfl (by decide +kernel) (⟨by have e2 : E2 np pd = e + 1 + n := hE.trans (et_np (by omega)); rw [fP, if_neg (by rw [he]; omega), if_pos (by omega), e2, show e + 1 + n = np by omega]; rfl, I1, hs, (fun q => by have e2 : E2 np pd = e + 1 + n := hE.trans (et_np (by omega)); rw [fP, if_neg (by rw [he]; omega), if_pos (by omega)] at q; cases q), rfl⟩)
      · have h136 : n > 0 := zz_bG'_f (by omega) (by omega) h136
        refine Ev.run [(.iload_n 1, 1)] (pc' := 140) (L' := [some (.ref 359), some (.int (nI 1)), some (.int (nI n)), some (.int (nI (e + 1 + n))), none, none]) (S' := [.int (nI 1)]) rfl (by decide +kernel) rfl ?_
        refine Ev.if_eq (off := 10) (tgt := 150) (by decide +kernel) (by decide) (fun h140 => absurd h140 (by decide)) (fun h140 => ?_)
        refine Ev.run [(.aload_n 0, 1), (.getfield 89, 3)] (pc' := 147) (L' := [some (.ref 359), some (.int (nI 1)), some (.int (nI n)), some (.int (nI (e + 1 + n))), none, none]) (S' := [.int (I1 359 15)]) rfl (by decide +kernel) rfl ?_
        rw [hh]
        refine Ev.if_lt (off := 8) (tgt := 155) (by decide +kernel) (by decide) (fun h147 => ?_) (fun h147 => ?_)
        · have h147 : (e + 1) < 0 := zz_bL_t (by omega) (by omega) h147
          exfalso; omega
        · have h147 : (e + 1) ≥ 0 := zz_bL_f (by omega) (by omega) h147
          refine Ev.run [(.bipush (-6), 2)] (pc' := 152) (L' := [some (.ref 359), some (.int (nI 1)), some (.int (nI n)), some (.int (nI (e + 1 + n))), none, none]) (S' := [.int ((-6))]) rfl (by decide +kernel) rfl ?_
          refine Ev.goto (off := 7) (tgt := 159) (by decide +kernel) (by decide) ?_
          exact Ev.iret rfl (by decide +kernel) (⟨by have e2 : E2 np pd = e + 1 + n := hE.trans (et_np (by omega)); rw [fP, if_neg (by rw [he]; omega), if_neg (by omega)]; rfl, I1, hs, fun _ => by rw [he]; exact hh, rfl⟩)
    · have h15 : (e + 1 + n) < np := zz_bG_f (by omega) (by omega) h15
      have r1 := hpr (e + 1 + n) (by omega)
      refine Ev.run [(.aload_n 0, 1), (.getfield 7, 3), (.iload_n 3, 1)] (pc' := 23) (L' := [some (.ref 359), some (.int (nI 1)), some (.int (nI n)), some (.int (nI (e + 1 + n))), none, none]) (S' := [.int (nI (e + 1 + n)), .ref 360]) rfl (by decide +kernel) rfl ?_
      refine Ev.iald (e + 1 + n) (by decide +kernel) (rfl) (rfl) (by omega) (by first | decide | omega) ?_
      dsimp only
      rw [show I1 360 (e + 1 + n) = nI (pd (e + 1 + n)) from by rw [hs.1 360 (by decide)]; exact hpd _ (by omega)]
      refine Ev.run [(.istore 4, 2), (.iload_n 2, 1), (.bipush 12, 2)] (pc' := 29) (L' := [some (.ref 359), some (.int (nI 1)), some (.int (nI n)), some (.int (nI (e + 1 + n))), some (.int (nI (pd (e + 1 + n)))), none]) (S' := [.int (nI 12), .int (nI n)]) rfl (by decide +kernel) rfl ?_
      refine Ev.icmp_ge (off := 49) (tgt := 78) (by decide +kernel) (by decide) (fun h29 => ?_) (fun h29 => ?_)
      · have h29 : n ≥ 12 := zz_bG_t (by omega) (by omega) h29
        refine Ev.run [(.iconst 0, 1), (.istore 5, 2), (.iload_n 1, 1), (.iconst 1, 1)] (pc' := 83) (L' := [some (.ref 359), some (.int (nI 1)), some (.int (nI n)), some (.int (nI (e + 1 + n))), some (.int (nI (pd (e + 1 + n)))), some (.int (nI 0))]) (S' := [.int (nI 1), .int (nI 1)]) rfl (by decide +kernel) rfl ?_
        refine Ev.icmp_ne (off := 33) (tgt := 116) (by decide +kernel) (by decide) (fun h83 => absurd h83 (by decide)) (fun h83 => ?_)
        refine Ev.run [(.aload_n 0, 1), (.getfield 89, 3)] (pc' := 90) (L' := [some (.ref 359), some (.int (nI 1)), some (.int (nI n)), some (.int (nI (e + 1 + n))), some (.int (nI (pd (e + 1 + n)))), some (.int (nI 0))]) (S' := [.int (I1 359 15)]) rfl (by decide +kernel) rfl ?_
        rw [hh]
        refine Ev.if_ge (off := 26) (tgt := 116) (by decide +kernel) (by decide) (fun h90 => ?_) (fun h90 => ?_)
        · have h90 : (e + 1) ≥ 0 := zz_bG_t (by omega) (by omega) h90
          refine Ev.run [(.iload 5, 2)] (pc' := 118) (L' := [some (.ref 359), some (.int (nI 1)), some (.int (nI n)), some (.int (nI (e + 1 + n))), some (.int (nI (pd (e + 1 + n)))), some (.int (nI 0))]) (S' := [.int (nI 0)]) rfl (by decide +kernel) rfl ?_
          refine Ev.if_eq (off := 9) (tgt := 127) (by decide +kernel) (by decide) (fun h118 => ?_) (fun h118 => absurd h118 (by decide))
          refine Ev.run [(.iload_n 3, 1)] (pc' := 128) (L' := [some (.ref 359), some (.int (nI 1)), some (.int (nI n)), some (.int (nI (e + 1 + n))), some (.int (nI (pd (e + 1 + n)))), some (.int (nI 0))]) (S' := [.int (nI (e + 1 + n))]) rfl (by decide +kernel) rfl ?_
          exact Ev.iret rfl (by decide +kernel) (⟨by have e2 : E2 np pd = e + 1 + n := hE.trans (by rw [show 12 - n = 0 by omega]; rfl); rw [fP, if_neg (by rw [he]; omega), if_pos (by omega), e2]; rfl, I1, hs, (fun q => by have e2 : E2 np pd = e + 1 + n := hE.trans (by rw [show 12 - n = 0 by omega]; rfl); rw [fP, if_neg (by rw [he]; omega), if_pos (by omega)] at q; cases q), rfl⟩)
        · have h90 : (e + 1) < 0 := zz_bG_f (by omega) (by omega) h90
          exfalso; omega
      · have h29 : n < 12 := zz_bG_f (by omega) (by omega) h29
        refine Ev.run [(.iload 4, 2)] (pc' := 34) (L' := [some (.ref 359), some (.int (nI 1)), some (.int (nI n)), some (.int (nI (e + 1 + n))), some (.int (nI (pd (e + 1 + n)))), none]) (S' := [.int (nI (pd (e + 1 + n)))]) rfl (by decide +kernel) rfl ?_
        refine Ev.callS0 mX7_isNumber [.int (nI (pd (e + 1 + n)))] [] _ rfl lk_RX7_92 (by decide +kernel) rfl (Nat.le_of_ble_eq_true rfl) (c_X7_isNumber I1 J (nI (pd (e + 1 + n)))) ?_
        rintro _ _ ⟨rfl, ⟨rfl, h34⟩ | ⟨rfl, h34⟩⟩
        · show Ev _ _ _ _ _ 37 [some (.ref 359), some (.int (nI 1)), some (.int (nI n)), some (.int (nI (e + 1 + n))), some (.int (nI (pd (e + 1 + n)))), none] [.int (nI 1)] (zz_SH, I1, J) _
          rw [zz_num (by omega)] at h34
          refine Ev.if_ne (off := 37) (tgt := 74) (by decide +kernel) (by decide) (fun h37 => ?_) (fun h37 => absurd h37 (by decide))
          refine Ev.run [(.iconst 1, 1)] (pc' := 75) (L' := [some (.ref 359), some (.int (nI 1)), some (.int (nI n)), some (.int (nI (e + 1 + n))), some (.int (nI (pd (e + 1 + n)))), none]) (S' := [.int (nI 1)]) rfl (by decide +kernel) rfl ?_
          refine Ev.goto (off := 4) (tgt := 79) (by decide +kernel) (by decide) ?_
          refine Ev.run [(.istore 5, 2), (.iload_n 1, 1), (.iconst 1, 1)] (pc' := 83) (L' := [some (.ref 359), some (.int (nI 1)), some (.int (nI n)), some (.int (nI (e + 1 + n))), some (.int (nI (pd (e + 1 + n)))), some (.int (nI 1))]) (S' := [.int (nI 1), .int (nI 1)]) rfl (by decide +kernel) rfl ?_
          refine Ev.icmp_ne (off := 33) (tgt := 116) (by decide +kernel) (by decide) (fun h83 => absurd h83 (by decide)) (fun h83 => ?_)
          refine Ev.run [(.aload_n 0, 1), (.getfield 89, 3)] (pc' := 90) (L' := [some (.ref 359), some (.int (nI 1)), some (.int (nI n)), some (.int (nI (e + 1 + n))), some (.int (nI (pd (e + 1 + n)))), some (.int (nI 1))]) (S' := [.int (I1 359 15)]) rfl (by decide +kernel) rfl ?_
          rw [hh]
          refine Ev.if_ge (off := 26) (tgt := 116) (by decide +kernel) (by decide) (fun h90 => ?_) (fun h90 => ?_)
          · have h90 : (e + 1) ≥ 0 := zz_bG_t (by omega) (by omega) h90
            refine Ev.run [(.iload 5, 2)] (pc' := 118) (L' := [some (.ref 359), some (.int (nI 1)), some (.int (nI n)), some (.int (nI (e + 1 + n))), some (.int (nI (pd (e + 1 + n)))), some (.int (nI 1))]) (S' := [.int (nI 1)]) rfl (by decide +kernel) rfl ?_
            refine Ev.if_eq (off := 9) (tgt := 127) (by decide +kernel) (by decide) (fun h118 => absurd h118 (by decide)) (fun h118 => ?_)
            refine Ev.run [(.iinc 2 1, 3)] (pc' := 124) (L' := [some (.ref 359), some (.int (nI 1)), some (.int (nI n + 1)), some (.int (nI (e + 1 + n))), some (.int (nI (pd (e + 1 + n)))), some (.int (nI 1))]) (S' := []) rfl (by decide +kernel) rfl ?_
            rw [nI_1 n]
            refine Ev.goto (off := 5) (tgt := 129) (by decide +kernel) (by decide) ?_
            refine Ev.run [(.iinc 3 1, 3)] (pc' := 132) (L' := [some (.ref 359), some (.int (nI 1)), some (.int (nI (n + 1))), some (.int (nI (e + 1 + n) + 1)), some (.int (nI (pd (e + 1 + n)))), some (.int (nI 1))]) (S' := []) rfl (by decide +kernel) rfl ?_
            rw [nI_1 (e + 1 + n)]
            refine Ev.goto (off := (-122)) (tgt := 10) (by decide +kernel) (by decide) ?_
            refine Ev.weakL (L' := [some (.ref 359), some (.int (nI 1)), some (.int (nI (n + 1))), some (.int (nI ((e + 1 + n) + 1))), none, none]) ⟨rfl, rfl, rfl, rfl, trivial⟩ ?_
            rw [show e + 1 + n + 1 = e + 1 + (n + 1) by omega]
            exact ih (n + 1) I1 (by omega) (by omega) (by omega) hs hh (by rw [hE, et_st (by omega) (by omega) (stn_y (Or.inl h34))]; rfl)
          · have h90 : (e + 1) < 0 := zz_bG_f (by omega) (by omega) h90
            exfalso; omega
        · show Ev _ _ _ _ _ 37 [some (.ref 359), some (.int (nI 1)), some (.int (nI n)), some (.int (nI (e + 1 + n))), some (.int (nI (pd (e + 1 + n)))), none] [.int (nI 0)] (zz_SH, I1, J) _
          rw [zz_num (by omega)] at h34
          refine Ev.if_ne (off := 37) (tgt := 74) (by decide +kernel) (by decide) (fun h37 => absurd h37 (by decide)) (fun h37 => ?_)
          refine Ev.run [(.aload_n 0, 1), (.getfield 89, 3)] (pc' := 44) (L' := [some (.ref 359), some (.int (nI 1)), some (.int (nI n)), some (.int (nI (e + 1 + n))), some (.int (nI (pd (e + 1 + n)))), none]) (S' := [.int (I1 359 15)]) rfl (by decide +kernel) rfl ?_
          rw [hh]
          refine Ev.if_ge (off := 18) (tgt := 62) (by decide +kernel) (by decide) (fun h44 => ?_) (fun h44 => ?_)
          · have h44 : (e + 1) ≥ 0 := zz_bG_t (by omega) (by omega) h44
            refine Ev.run [(.iload 4, 2), (.bipush 65, 2), (.bipush 80, 2)] (pc' := 68) (L' := [some (.ref 359), some (.int (nI 1)), some (.int (nI n)), some (.int (nI (e + 1 + n))), some (.int (nI (pd (e + 1 + n)))), none]) (S' := [.int (nI 80), .int (nI 65), .int (nI (pd (e + 1 + n)))]) rfl (by decide +kernel) rfl ?_
            refine Ev.callS0 mX7_in [.int (nI (pd (e + 1 + n))), .int (nI 65), .int (nI 80)] [] _ rfl lk_RX7_79 (by decide +kernel) rfl (Nat.le_of_ble_eq_true rfl) (c_X7_in I1 J (nI (pd (e + 1 + n))) (nI 65) (nI 80)) ?_
            rintro _ _ ⟨rfl, ⟨rfl, h68⟩ | ⟨rfl, h68⟩⟩
            · show Ev _ _ _ _ _ 71 [some (.ref 359), some (.int (nI 1)), some (.int (nI n)), some (.int (nI (e + 1 + n))), some (.int (nI (pd (e + 1 + n)))), none] [.int (nI 1)] (zz_SH, I1, J) _
              rw [zz_rng (by omega) (by omega) (by omega)] at h68
              refine Ev.if_eq (off := 7) (tgt := 78) (by decide +kernel) (by decide) (fun h71 => absurd h71 (by decide)) (fun h71 => ?_)
              refine Ev.run [(.iconst 1, 1)] (pc' := 75) (L' := [some (.ref 359), some (.int (nI 1)), some (.int (nI n)), some (.int (nI (e + 1 + n))), some (.int (nI (pd (e + 1 + n)))), none]) (S' := [.int (nI 1)]) rfl (by decide +kernel) rfl ?_
              refine Ev.goto (off := 4) (tgt := 79) (by decide +kernel) (by decide) ?_
              refine Ev.run [(.istore 5, 2), (.iload_n 1, 1), (.iconst 1, 1)] (pc' := 83) (L' := [some (.ref 359), some (.int (nI 1)), some (.int (nI n)), some (.int (nI (e + 1 + n))), some (.int (nI (pd (e + 1 + n)))), some (.int (nI 1))]) (S' := [.int (nI 1), .int (nI 1)]) rfl (by decide +kernel) rfl ?_
              refine Ev.icmp_ne (off := 33) (tgt := 116) (by decide +kernel) (by decide) (fun h83 => absurd h83 (by decide)) (fun h83 => ?_)
              refine Ev.run [(.aload_n 0, 1), (.getfield 89, 3)] (pc' := 90) (L' := [some (.ref 359), some (.int (nI 1)), some (.int (nI n)), some (.int (nI (e + 1 + n))), some (.int (nI (pd (e + 1 + n)))), some (.int (nI 1))]) (S' := [.int (I1 359 15)]) rfl (by decide +kernel) rfl ?_
              rw [hh]
              refine Ev.if_ge (off := 26) (tgt := 116) (by decide +kernel) (by decide) (fun h90 => ?_) (fun h90 => ?_)
              · have h90 : (e + 1) ≥ 0 := zz_bG_t (by omega) (by omega) h90
                refine Ev.run [(.iload 5, 2)] (pc' := 118) (L' := [some (.ref 359), some (.int (nI 1)), some (.int (nI n)), some (.int (nI (e + 1 + n))), some (.int (nI (pd (e + 1 + n)))), some (.int (nI 1))]) (S' := [.int (nI 1)]) rfl (by decide +kernel) rfl ?_
                refine Ev.if_eq (off := 9) (tgt := 127) (by decide +kernel) (by decide) (fun h118 => absurd h118 (by decide)) (fun h118 => ?_)
                refine Ev.run [(.iinc 2 1, 3)] (pc' := 124) (L' := [some (.ref 359), some (.int (nI 1)), some (.int (nI n + 1)), some (.int (nI (e + 1 + n))), some (.int (nI (pd (e + 1 + n)))), some (.int (nI 1))]) (S' := []) rfl (by decide +kernel) rfl ?_
                rw [nI_1 n]
                refine Ev.goto (off := 5) (tgt := 129) (by decide +kernel) (by decide) ?_
                refine Ev.run [(.iinc 3 1, 3)] (pc' := 132) (L' := [some (.ref 359), some (.int (nI 1)), some (.int (nI (n + 1))), some (.int (nI (e + 1 + n) + 1)), some (.int (nI (pd (e + 1 + n)))), some (.int (nI 1))]) (S' := []) rfl (by decide +kernel) rfl ?_
                rw [nI_1 (e + 1 + n)]
                refine Ev.goto (off := (-122)) (tgt := 10) (by decide +kernel) (by decide) ?_
                refine Ev.weakL (L' := [some (.ref 359), some (.int (nI 1)), some (.int (nI (n + 1))), some (.int (nI ((e + 1 + n) + 1))), none, none]) ⟨rfl, rfl, rfl, rfl, trivial⟩ ?_
                rw [show e + 1 + n + 1 = e + 1 + (n + 1) by omega]
                exact ih (n + 1) I1 (by omega) (by omega) (by omega) hs hh (by rw [hE, et_st (by omega) (by omega) (stn_y (Or.inr h68))]; rfl)
              · have h90 : (e + 1) < 0 := zz_bG_f (by omega) (by omega) h90
                exfalso; omega
            · show Ev _ _ _ _ _ 71 [some (.ref 359), some (.int (nI 1)), some (.int (nI n)), some (.int (nI (e + 1 + n))), some (.int (nI (pd (e + 1 + n)))), none] [.int (nI 0)] (zz_SH, I1, J) _
              rw [zz_rng (by omega) (by omega) (by omega)] at h68
              refine Ev.if_eq (off := 7) (tgt := 78) (by decide +kernel) (by decide) (fun h71 => ?_) (fun h71 => absurd h71 (by decide))
              refine Ev.run [(.iconst 0, 1), (.istore 5, 2), (.iload_n 1, 1), (.iconst 1, 1)] (pc' := 83) (L' := [some (.ref 359), some (.int (nI 1)), some (.int (nI n)), some (.int (nI (e + 1 + n))), some (.int (nI (pd (e + 1 + n)))), some (.int (nI 0))]) (S' := [.int (nI 1), .int (nI 1)]) rfl (by decide +kernel) rfl ?_
              refine Ev.icmp_ne (off := 33) (tgt := 116) (by decide +kernel) (by decide) (fun h83 => absurd h83 (by decide)) (fun h83 => ?_)
              refine Ev.run [(.aload_n 0, 1), (.getfield 89, 3)] (pc' := 90) (L' := [some (.ref 359), some (.int (nI 1)), some (.int (nI n)), some (.int (nI (e + 1 + n))), some (.int (nI (pd (e + 1 + n)))), some (.int (nI 0))]) (S' := [.int (I1 359 15)]) rfl (by decide +kernel) rfl ?_
              rw [hh]
              refine Ev.if_ge (off := 26) (tgt := 116) (by decide +kernel) (by decide) (fun h90 => ?_) (fun h90 => ?_)
              · have h90 : (e + 1) ≥ 0 := zz_bG_t (by omega) (by omega) h90
                refine Ev.run [(.iload 5, 2)] (pc' := 118) (L' := [some (.ref 359), some (.int (nI 1)), some (.int (nI n)), some (.int (nI (e + 1 + n))), some (.int (nI (pd (e + 1 + n)))), some (.int (nI 0))]) (S' := [.int (nI 0)]) rfl (by decide +kernel) rfl ?_
                refine Ev.if_eq (off := 9) (tgt := 127) (by decide +kernel) (by decide) (fun h118 => ?_) (fun h118 => absurd h118 (by decide))
                refine Ev.run [(.iload_n 3, 1)] (pc' := 128) (L' := [some (.ref 359), some (.int (nI 1)), some (.int (nI n)), some (.int (nI (e + 1 + n))), some (.int (nI (pd (e + 1 + n)))), some (.int (nI 0))]) (S' := [.int (nI (e + 1 + n))]) rfl (by decide +kernel) rfl ?_
                exact Ev.iret rfl (by decide +kernel) (⟨by have e2 : E2 np pd = e + 1 + n := hE.trans (et_no (stn_n h34 h68)); rw [fP, if_neg (by rw [he]; omega), if_pos (by omega), e2]; rfl, I1, hs, (fun q => by have e2 : E2 np pd = e + 1 + n := hE.trans (et_no (stn_n h34 h68)); rw [fP, if_neg (by rw [he]; omega), if_pos (by omega)] at q; cases q), rfl⟩)
              · have h90 : (e + 1) < 0 := zz_bG_f (by omega) (by omega) h90
                exfalso; omega
          · have h44 : (e + 1) < 0 := zz_bG_f (by omega) (by omega) h44
            exfalso; omega

set_option maxRecDepth 100000 in
set_option maxHeartbeats 4000000 in
theorem l_X7_fA1 {sc : Nat × (Nat → Int32)} {d : Nat} (I : Nat → Nat → Int32) (J : Nat → Nat → Int64) (np : Nat) (pd : Nat → Nat) (hn : I 359 0 = nI np) (hpd : ∀ j, j < np → I 360 j = nI (pd j)) (hnp : np ≤ 30) (hpr : ∀ j, j < np → 33 ≤ pd j ∧ pd j ≤ 126) : ∀ (μ : Nat) (k : Nat) (I1 : Nat → Nat → Int32), np - k < μ → (k ≤ np) → (k ≤ 12) → (zS7 I I1) → (I1 359 15 = (-6)) → (E1 np pd = et np pd 97 (12 - k) k) →  Ev sc (d + 2) 0 0 mX7_faultOf 10 [some (.ref 359), some (.int (nI 1)), some (.int (nI k)), some (.int (nI k)), none, none] [] (zz_SH, I1, J) (fun r σ => r = some (.int (ob (fP np pd))) ∧ ∃ I' : Nat → Nat → Int32, zS7 I I' ∧ (fP np pd = none → I' 359 15 = nI (E1 np pd + 1)) ∧ σ = (zz_SH, I', J)) := by
  intro μ
  induction μ with
  | zero => intro k I1 hμ; exact absurd hμ (Nat.not_lt_zero _)
  | succ μ ih =>
    intro k I1 hμ hk hk2 hs hh hE
    refine Ev.run [(.iload_n 3, 1), (.aload_n 0, 1), (.getfield 86, 3)] (pc' := 15) (L' := [some (.ref 359), some (.int (nI 1)), some (.int (nI k)), some (.int (nI k)), none, none]) (S' := [.int (I1 359 0), .int (nI k)]) rfl (by decide +kernel) rfl ?_
    rw [show I1 359 0 = nI np from by rw [hs.2 0 (by decide)]; exact hn]
    refine Ev.icmp_ge (off := 120) (tgt := 135) (by decide +kernel) (by decide) (fun h15 => ?_) (fun h15 => ?_)
    · have h15 : k ≥ np := zz_bG_t (by omega) (by omega) h15
      refine Ev.run [(.iload_n 2, 1)] (pc' := 136) (L' := [some (.ref 359), some (.int (nI 1)), some (.int (nI k)), some (.int (nI k)), none, none]) (S' := [.int (nI k)]) rfl (by decide +kernel) rfl ?_
      refine Ev.if_le (off := 19) (tgt := 155) (by decide +kernel) (by decide) (fun h136 => ?_) (fun h136 => ?_)
      · have h136 : k ≤ 0 := zz_bG'_t (by omega) (by omega) h136
        refine Ev.run [(.aload_n 0, 1), (.getfield 86, 3)] (pc' := 159) (L' := [some (.ref 359), some (.int (nI 1)), some (.int (nI k)), some (.int (nI k)), none, none]) (S' := [.int (I1 359 0)]) rfl (by decide +kernel) rfl ?_
        rw [show I1 359 0 = nI np from by rw [hs.2 0 (by decide)]; exact hn]
        exact Ev.iret rfl (by decide +kernel) (⟨by have e1 : E1 np pd = k := hE.trans (et_np (by omega)); rw [fP, if_pos (by omega), e1, show k = np by omega]; rfl, I1, hs, (fun q => by have e1 : E1 np pd = k := hE.trans (et_np (by omega)); rw [fP, if_pos (by omega)] at q; cases q), rfl⟩)
      · have h136 : k > 0 := zz_bG'_f (by omega) (by omega) h136
        refine Ev.run [(.iload_n 1, 1)] (pc' := 140) (L' := [some (.ref 359), some (.int (nI 1)), some (.int (nI k)), some (.int (nI k)), none, none]) (S' := [.int (nI 1)]) rfl (by decide +kernel) rfl ?_
        refine Ev.if_eq (off := 10) (tgt := 150) (by decide +kernel) (by decide) (fun h140 => absurd h140 (by decide)) (fun h140 => ?_)
        refine Ev.run [(.aload_n 0, 1), (.getfield 89, 3)] (pc' := 147) (L' := [some (.ref 359), some (.int (nI 1)), some (.int (nI k)), some (.int (nI k)), none, none]) (S' := [.int (I1 359 15)]) rfl (by decide +kernel) rfl ?_
        rw [hh]
        refine Ev.if_lt (off := 8) (tgt := 155) (by decide +kernel) (by decide) (fun h147 => ?_) (fun h147 => absurd h147 (by decide))
        refine Ev.run [(.aload_n 0, 1), (.getfield 86, 3)] (pc' := 159) (L' := [some (.ref 359), some (.int (nI 1)), some (.int (nI k)), some (.int (nI k)), none, none]) (S' := [.int (I1 359 0)]) rfl (by decide +kernel) rfl ?_
        rw [show I1 359 0 = nI np from by rw [hs.2 0 (by decide)]; exact hn]
        exact Ev.iret rfl (by decide +kernel) (⟨by have e1 : E1 np pd = k := hE.trans (et_np (by omega)); rw [fP, if_pos (by omega), e1, show k = np by omega]; rfl, I1, hs, (fun q => by have e1 : E1 np pd = k := hE.trans (et_np (by omega)); rw [fP, if_pos (by omega)] at q; cases q), rfl⟩)
    · have h15 : k < np := zz_bG_f (by omega) (by omega) h15
      have r1 := hpr (k) (by omega)
      refine Ev.run [(.aload_n 0, 1), (.getfield 7, 3), (.iload_n 3, 1)] (pc' := 23) (L' := [some (.ref 359), some (.int (nI 1)), some (.int (nI k)), some (.int (nI k)), none, none]) (S' := [.int (nI k), .ref 360]) rfl (by decide +kernel) rfl ?_
      refine Ev.iald k (by decide +kernel) (rfl) (rfl) (by omega) (by first | decide | omega) ?_
      dsimp only
      rw [show I1 360 (k) = nI (pd (k)) from by rw [hs.1 360 (by decide)]; exact hpd _ (by omega)]
      refine Ev.run [(.istore 4, 2), (.iload_n 2, 1), (.bipush 12, 2)] (pc' := 29) (L' := [some (.ref 359), some (.int (nI 1)), some (.int (nI k)), some (.int (nI k)), some (.int (nI (pd k))), none]) (S' := [.int (nI 12), .int (nI k)]) rfl (by decide +kernel) rfl ?_
      refine Ev.icmp_ge (off := 49) (tgt := 78) (by decide +kernel) (by decide) (fun h29 => ?_) (fun h29 => ?_)
      · have h29 : k ≥ 12 := zz_bG_t (by omega) (by omega) h29
        refine Ev.run [(.iconst 0, 1), (.istore 5, 2), (.iload_n 1, 1), (.iconst 1, 1)] (pc' := 83) (L' := [some (.ref 359), some (.int (nI 1)), some (.int (nI k)), some (.int (nI k)), some (.int (nI (pd k))), some (.int (nI 0))]) (S' := [.int (nI 1), .int (nI 1)]) rfl (by decide +kernel) rfl ?_
        refine Ev.icmp_ne (off := 33) (tgt := 116) (by decide +kernel) (by decide) (fun h83 => absurd h83 (by decide)) (fun h83 => ?_)
        refine Ev.run [(.aload_n 0, 1), (.getfield 89, 3)] (pc' := 90) (L' := [some (.ref 359), some (.int (nI 1)), some (.int (nI k)), some (.int (nI k)), some (.int (nI (pd k))), some (.int (nI 0))]) (S' := [.int (I1 359 15)]) rfl (by decide +kernel) rfl ?_
        rw [hh]
        refine Ev.if_ge (off := 26) (tgt := 116) (by decide +kernel) (by decide) (fun h90 => absurd h90 (by decide)) (fun h90 => ?_)
        refine Ev.run [(.iload 4, 2), (.bipush 61, 2)] (pc' := 97) (L' := [some (.ref 359), some (.int (nI 1)), some (.int (nI k)), some (.int (nI k)), some (.int (nI (pd k))), some (.int (nI 0))]) (S' := [.int (nI 61), .int (nI (pd k))]) rfl (by decide +kernel) rfl ?_
        refine Ev.icmp_ne (off := 19) (tgt := 116) (by decide +kernel) (by decide) (fun h97 => ?_) (fun h97 => ?_)
        · have h97 : ¬ (pd k) = 61 := zz_bE_f (by omega) (by omega) h97
          refine Ev.run [(.iload 5, 2)] (pc' := 118) (L' := [some (.ref 359), some (.int (nI 1)), some (.int (nI k)), some (.int (nI k)), some (.int (nI (pd k))), some (.int (nI 0))]) (S' := [.int (nI 0)]) rfl (by decide +kernel) rfl ?_
          refine Ev.if_eq (off := 9) (tgt := 127) (by decide +kernel) (by decide) (fun h118 => ?_) (fun h118 => absurd h118 (by decide))
          refine Ev.run [(.iload_n 3, 1)] (pc' := 128) (L' := [some (.ref 359), some (.int (nI 1)), some (.int (nI k)), some (.int (nI k)), some (.int (nI (pd k))), some (.int (nI 0))]) (S' := [.int (nI k)]) rfl (by decide +kernel) rfl ?_
          exact Ev.iret rfl (by decide +kernel) (⟨by have e1 : E1 np pd = k := hE.trans (by rw [show 12 - k = 0 by omega]; rfl); rw [fP, if_pos (Or.inr (fun q => h97 (by rw [← e1]; exact q.2))), e1]; rfl, I1, hs, (fun q => by have e1 : E1 np pd = k := hE.trans (by rw [show 12 - k = 0 by omega]; rfl); rw [fP, if_pos (Or.inr (fun q => h97 (by rw [← e1]; exact q.2)))] at q; cases q), rfl⟩)
        · have h97 : (pd k) = 61 := zz_bE_t (by omega) (by omega) h97
          refine Ev.run [(.iload_n 2, 1)] (pc' := 101) (L' := [some (.ref 359), some (.int (nI 1)), some (.int (nI k)), some (.int (nI k)), some (.int (nI (pd k))), some (.int (nI 0))]) (S' := [.int (nI k)]) rfl (by decide +kernel) rfl ?_
          refine Ev.if_le (off := 15) (tgt := 116) (by decide +kernel) (by decide) (fun h101 => ?_) (fun h101 => ?_)
          · have h101 : k ≤ 0 := zz_bG'_t (by omega) (by omega) h101
            refine Ev.run [(.iload 5, 2)] (pc' := 118) (L' := [some (.ref 359), some (.int (nI 1)), some (.int (nI k)), some (.int (nI k)), some (.int (nI (pd k))), some (.int (nI 0))]) (S' := [.int (nI 0)]) rfl (by decide +kernel) rfl ?_
            refine Ev.if_eq (off := 9) (tgt := 127) (by decide +kernel) (by decide) (fun h118 => ?_) (fun h118 => absurd h118 (by decide))
            refine Ev.run [(.iload_n 3, 1)] (pc' := 128) (L' := [some (.ref 359), some (.int (nI 1)), some (.int (nI k)), some (.int (nI k)), some (.int (nI (pd k))), some (.int (nI 0))]) (S' := [.int (nI k)]) rfl (by decide +kernel) rfl ?_
            exact Ev.iret rfl (by decide +kernel) (⟨by have e1 : E1 np pd = k := hE.trans (by rw [show 12 - k = 0 by omega]; rfl); rw [fP, if_pos (Or.inl (by omega)), e1]; rfl, I1, hs, (fun q => by have e1 : E1 np pd = k := hE.trans (by rw [show 12 - k = 0 by omega]; rfl); rw [fP, if_pos (Or.inl (by omega))] at q; cases q), rfl⟩)
          · have h101 : k > 0 := zz_bG'_f (by omega) (by omega) h101
            refine Ev.run [(.aload_n 0, 1), (.iload_n 3, 1), (.iconst 1, 1), (.iadd, 1)] (pc' := 108) (L' := [some (.ref 359), some (.int (nI 1)), some (.int (nI k)), some (.int (nI k)), some (.int (nI (pd k))), some (.int (nI 0))]) (S' := [.int (nI k + nI 1), .ref 359]) rfl (by decide +kernel) rfl ?_
            rw [nI_add k 1]
            refine Ev.putf (idx := 89) rfl rfl rfl (by decide +kernel) (rfl) rfl ?_
            dsimp only
            refine Ev.run [(.iconst 0, 1), (.istore_n 2, 1)] (pc' := 113) (L' := [some (.ref 359), some (.int (nI 1)), some (.int (nI 0)), some (.int (nI k)), some (.int (nI (pd k))), some (.int (nI 0))]) (S' := []) rfl (by decide +kernel) rfl ?_
            refine Ev.goto (off := 16) (tgt := 129) (by decide +kernel) (by decide) ?_
            refine Ev.run [(.iinc 3 1, 3)] (pc' := 132) (L' := [some (.ref 359), some (.int (nI 1)), some (.int (nI 0)), some (.int (nI k + 1)), some (.int (nI (pd k))), some (.int (nI 0))]) (S' := []) rfl (by decide +kernel) rfl ?_
            rw [nI_1 k]
            refine Ev.goto (off := (-122)) (tgt := 10) (by decide +kernel) (by decide) ?_
            refine Ev.weakL (L' := [some (.ref 359), some (.int (nI 1)), some (.int (nI 0)), some (.int (nI (k + 1))), none, none]) ⟨rfl, rfl, rfl, rfl, trivial⟩ ?_
            have e1 : E1 np pd = k := hE.trans (et_no (by rw [h97]; decide))
            exact l_X7_fB I J np pd hn hpd hnp hpr k e1 (by omega) (by omega) h97 (np + 1) 0 _ (by omega) (by omega) (by omega) (hs.tr (zS7.up I1 _)) (by rw [zz_up_eq, zz_ups]) (by rw [E2, e1])
      · have h29 : k < 12 := zz_bG_f (by omega) (by omega) h29
        refine Ev.run [(.iload 4, 2)] (pc' := 34) (L' := [some (.ref 359), some (.int (nI 1)), some (.int (nI k)), some (.int (nI k)), some (.int (nI (pd k))), none]) (S' := [.int (nI (pd k))]) rfl (by decide +kernel) rfl ?_
        refine Ev.callS0 mX7_isNumber [.int (nI (pd k))] [] _ rfl lk_RX7_92 (by decide +kernel) rfl (Nat.le_of_ble_eq_true rfl) (c_X7_isNumber I1 J (nI (pd k))) ?_
        rintro _ _ ⟨rfl, ⟨rfl, h34⟩ | ⟨rfl, h34⟩⟩
        · show Ev _ _ _ _ _ 37 [some (.ref 359), some (.int (nI 1)), some (.int (nI k)), some (.int (nI k)), some (.int (nI (pd k))), none] [.int (nI 1)] (zz_SH, I1, J) _
          rw [zz_num (by omega)] at h34
          refine Ev.if_ne (off := 37) (tgt := 74) (by decide +kernel) (by decide) (fun h37 => ?_) (fun h37 => absurd h37 (by decide))
          refine Ev.run [(.iconst 1, 1)] (pc' := 75) (L' := [some (.ref 359), some (.int (nI 1)), some (.int (nI k)), some (.int (nI k)), some (.int (nI (pd k))), none]) (S' := [.int (nI 1)]) rfl (by decide +kernel) rfl ?_
          refine Ev.goto (off := 4) (tgt := 79) (by decide +kernel) (by decide) ?_
          refine Ev.run [(.istore 5, 2), (.iload_n 1, 1), (.iconst 1, 1)] (pc' := 83) (L' := [some (.ref 359), some (.int (nI 1)), some (.int (nI k)), some (.int (nI k)), some (.int (nI (pd k))), some (.int (nI 1))]) (S' := [.int (nI 1), .int (nI 1)]) rfl (by decide +kernel) rfl ?_
          refine Ev.icmp_ne (off := 33) (tgt := 116) (by decide +kernel) (by decide) (fun h83 => absurd h83 (by decide)) (fun h83 => ?_)
          refine Ev.run [(.aload_n 0, 1), (.getfield 89, 3)] (pc' := 90) (L' := [some (.ref 359), some (.int (nI 1)), some (.int (nI k)), some (.int (nI k)), some (.int (nI (pd k))), some (.int (nI 1))]) (S' := [.int (I1 359 15)]) rfl (by decide +kernel) rfl ?_
          rw [hh]
          refine Ev.if_ge (off := 26) (tgt := 116) (by decide +kernel) (by decide) (fun h90 => absurd h90 (by decide)) (fun h90 => ?_)
          refine Ev.run [(.iload 4, 2), (.bipush 61, 2)] (pc' := 97) (L' := [some (.ref 359), some (.int (nI 1)), some (.int (nI k)), some (.int (nI k)), some (.int (nI (pd k))), some (.int (nI 1))]) (S' := [.int (nI 61), .int (nI (pd k))]) rfl (by decide +kernel) rfl ?_
          refine Ev.icmp_ne (off := 19) (tgt := 116) (by decide +kernel) (by decide) (fun h97 => ?_) (fun h97 => ?_)
          · have h97 : ¬ (pd k) = 61 := zz_bE_f (by omega) (by omega) h97
            refine Ev.run [(.iload 5, 2)] (pc' := 118) (L' := [some (.ref 359), some (.int (nI 1)), some (.int (nI k)), some (.int (nI k)), some (.int (nI (pd k))), some (.int (nI 1))]) (S' := [.int (nI 1)]) rfl (by decide +kernel) rfl ?_
            refine Ev.if_eq (off := 9) (tgt := 127) (by decide +kernel) (by decide) (fun h118 => absurd h118 (by decide)) (fun h118 => ?_)
            refine Ev.run [(.iinc 2 1, 3)] (pc' := 124) (L' := [some (.ref 359), some (.int (nI 1)), some (.int (nI k + 1)), some (.int (nI k)), some (.int (nI (pd k))), some (.int (nI 1))]) (S' := []) rfl (by decide +kernel) rfl ?_
            rw [nI_1 k]
            refine Ev.goto (off := 5) (tgt := 129) (by decide +kernel) (by decide) ?_
            refine Ev.run [(.iinc 3 1, 3)] (pc' := 132) (L' := [some (.ref 359), some (.int (nI 1)), some (.int (nI (k + 1))), some (.int (nI k + 1)), some (.int (nI (pd k))), some (.int (nI 1))]) (S' := []) rfl (by decide +kernel) rfl ?_
            rw [nI_1 k]
            refine Ev.goto (off := (-122)) (tgt := 10) (by decide +kernel) (by decide) ?_
            refine Ev.weakL (L' := [some (.ref 359), some (.int (nI 1)), some (.int (nI (k + 1))), some (.int (nI (k + 1))), none, none]) ⟨rfl, rfl, rfl, rfl, trivial⟩ ?_
            exact ih (k + 1) I1 (by omega) (by omega) (by omega) hs hh (by rw [hE, et_st (by omega) (by omega) (stn_y (Or.inl h34))]; rfl)
          · have h97 : (pd k) = 61 := zz_bE_t (by omega) (by omega) h97
            refine Ev.run [(.iload_n 2, 1)] (pc' := 101) (L' := [some (.ref 359), some (.int (nI 1)), some (.int (nI k)), some (.int (nI k)), some (.int (nI (pd k))), some (.int (nI 1))]) (S' := [.int (nI k)]) rfl (by decide +kernel) rfl ?_
            refine Ev.if_le (off := 15) (tgt := 116) (by decide +kernel) (by decide) (fun h101 => ?_) (fun h101 => ?_)
            · have h101 : k ≤ 0 := zz_bG'_t (by omega) (by omega) h101
              refine Ev.run [(.iload 5, 2)] (pc' := 118) (L' := [some (.ref 359), some (.int (nI 1)), some (.int (nI k)), some (.int (nI k)), some (.int (nI (pd k))), some (.int (nI 1))]) (S' := [.int (nI 1)]) rfl (by decide +kernel) rfl ?_
              refine Ev.if_eq (off := 9) (tgt := 127) (by decide +kernel) (by decide) (fun h118 => absurd h118 (by decide)) (fun h118 => ?_)
              refine Ev.run [(.iinc 2 1, 3)] (pc' := 124) (L' := [some (.ref 359), some (.int (nI 1)), some (.int (nI k + 1)), some (.int (nI k)), some (.int (nI (pd k))), some (.int (nI 1))]) (S' := []) rfl (by decide +kernel) rfl ?_
              rw [nI_1 k]
              refine Ev.goto (off := 5) (tgt := 129) (by decide +kernel) (by decide) ?_
              refine Ev.run [(.iinc 3 1, 3)] (pc' := 132) (L' := [some (.ref 359), some (.int (nI 1)), some (.int (nI (k + 1))), some (.int (nI k + 1)), some (.int (nI (pd k))), some (.int (nI 1))]) (S' := []) rfl (by decide +kernel) rfl ?_
              rw [nI_1 k]
              refine Ev.goto (off := (-122)) (tgt := 10) (by decide +kernel) (by decide) ?_
              refine Ev.weakL (L' := [some (.ref 359), some (.int (nI 1)), some (.int (nI (k + 1))), some (.int (nI (k + 1))), none, none]) ⟨rfl, rfl, rfl, rfl, trivial⟩ ?_
              exact ih (k + 1) I1 (by omega) (by omega) (by omega) hs hh (by rw [hE, et_st (by omega) (by omega) (stn_y (Or.inl h34))]; rfl)
            · have h101 : k > 0 := zz_bG'_f (by omega) (by omega) h101
              refine Ev.run [(.aload_n 0, 1), (.iload_n 3, 1), (.iconst 1, 1), (.iadd, 1)] (pc' := 108) (L' := [some (.ref 359), some (.int (nI 1)), some (.int (nI k)), some (.int (nI k)), some (.int (nI (pd k))), some (.int (nI 1))]) (S' := [.int (nI k + nI 1), .ref 359]) rfl (by decide +kernel) rfl ?_
              rw [nI_add k 1]
              refine Ev.putf (idx := 89) rfl rfl rfl (by decide +kernel) (rfl) rfl ?_
              dsimp only
              refine Ev.run [(.iconst 0, 1), (.istore_n 2, 1)] (pc' := 113) (L' := [some (.ref 359), some (.int (nI 1)), some (.int (nI 0)), some (.int (nI k)), some (.int (nI (pd k))), some (.int (nI 1))]) (S' := []) rfl (by decide +kernel) rfl ?_
              refine Ev.goto (off := 16) (tgt := 129) (by decide +kernel) (by decide) ?_
              refine Ev.run [(.iinc 3 1, 3)] (pc' := 132) (L' := [some (.ref 359), some (.int (nI 1)), some (.int (nI 0)), some (.int (nI k + 1)), some (.int (nI (pd k))), some (.int (nI 1))]) (S' := []) rfl (by decide +kernel) rfl ?_
              rw [nI_1 k]
              refine Ev.goto (off := (-122)) (tgt := 10) (by decide +kernel) (by decide) ?_
              refine Ev.weakL (L' := [some (.ref 359), some (.int (nI 1)), some (.int (nI 0)), some (.int (nI (k + 1))), none, none]) ⟨rfl, rfl, rfl, rfl, trivial⟩ ?_
              have e1 : E1 np pd = k := hE.trans (et_no (by rw [h97]; decide))
              exact l_X7_fB I J np pd hn hpd hnp hpr k e1 (by omega) (by omega) h97 (np + 1) 0 _ (by omega) (by omega) (by omega) (hs.tr (zS7.up I1 _)) (by rw [zz_up_eq, zz_ups]) (by rw [E2, e1])
        · show Ev _ _ _ _ _ 37 [some (.ref 359), some (.int (nI 1)), some (.int (nI k)), some (.int (nI k)), some (.int (nI (pd k))), none] [.int (nI 0)] (zz_SH, I1, J) _
          rw [zz_num (by omega)] at h34
          refine Ev.if_ne (off := 37) (tgt := 74) (by decide +kernel) (by decide) (fun h37 => absurd h37 (by decide)) (fun h37 => ?_)
          refine Ev.run [(.aload_n 0, 1), (.getfield 89, 3)] (pc' := 44) (L' := [some (.ref 359), some (.int (nI 1)), some (.int (nI k)), some (.int (nI k)), some (.int (nI (pd k))), none]) (S' := [.int (I1 359 15)]) rfl (by decide +kernel) rfl ?_
          rw [hh]
          refine Ev.if_ge (off := 18) (tgt := 62) (by decide +kernel) (by decide) (fun h44 => absurd h44 (by decide)) (fun h44 => ?_)
          refine Ev.run [(.iload 4, 2), (.bipush 97, 2), (.bipush 112, 2)] (pc' := 53) (L' := [some (.ref 359), some (.int (nI 1)), some (.int (nI k)), some (.int (nI k)), some (.int (nI (pd k))), none]) (S' := [.int (nI 112), .int (nI 97), .int (nI (pd k))]) rfl (by decide +kernel) rfl ?_
          refine Ev.callS0 mX7_in [.int (nI (pd k)), .int (nI 97), .int (nI 112)] [] _ rfl lk_RX7_79 (by decide +kernel) rfl (Nat.le_of_ble_eq_true rfl) (c_X7_in I1 J (nI (pd k)) (nI 97) (nI 112)) ?_
          rintro _ _ ⟨rfl, ⟨rfl, h53⟩ | ⟨rfl, h53⟩⟩
          · show Ev _ _ _ _ _ 56 [some (.ref 359), some (.int (nI 1)), some (.int (nI k)), some (.int (nI k)), some (.int (nI (pd k))), none] [.int (nI 1)] (zz_SH, I1, J) _
            rw [zz_rng (by omega) (by omega) (by omega)] at h53
            refine Ev.if_eq (off := 22) (tgt := 78) (by decide +kernel) (by decide) (fun h56 => absurd h56 (by decide)) (fun h56 => ?_)
            refine Ev.goto (off := 15) (tgt := 74) (by decide +kernel) (by decide) ?_
            refine Ev.run [(.iconst 1, 1)] (pc' := 75) (L' := [some (.ref 359), some (.int (nI 1)), some (.int (nI k)), some (.int (nI k)), some (.int (nI (pd k))), none]) (S' := [.int (nI 1)]) rfl (by decide +kernel) rfl ?_
            refine Ev.goto (off := 4) (tgt := 79) (by decide +kernel) (by decide) ?_
            refine Ev.run [(.istore 5, 2), (.iload_n 1, 1), (.iconst 1, 1)] (pc' := 83) (L' := [some (.ref 359), some (.int (nI 1)), some (.int (nI k)), some (.int (nI k)), some (.int (nI (pd k))), some (.int (nI 1))]) (S' := [.int (nI 1), .int (nI 1)]) rfl (by decide +kernel) rfl ?_
            refine Ev.icmp_ne (off := 33) (tgt := 116) (by decide +kernel) (by decide) (fun h83 => absurd h83 (by decide)) (fun h83 => ?_)
            refine Ev.run [(.aload_n 0, 1), (.getfield 89, 3)] (pc' := 90) (L' := [some (.ref 359), some (.int (nI 1)), some (.int (nI k)), some (.int (nI k)), some (.int (nI (pd k))), some (.int (nI 1))]) (S' := [.int (I1 359 15)]) rfl (by decide +kernel) rfl ?_
            rw [hh]
            refine Ev.if_ge (off := 26) (tgt := 116) (by decide +kernel) (by decide) (fun h90 => absurd h90 (by decide)) (fun h90 => ?_)
            refine Ev.run [(.iload 4, 2), (.bipush 61, 2)] (pc' := 97) (L' := [some (.ref 359), some (.int (nI 1)), some (.int (nI k)), some (.int (nI k)), some (.int (nI (pd k))), some (.int (nI 1))]) (S' := [.int (nI 61), .int (nI (pd k))]) rfl (by decide +kernel) rfl ?_
            refine Ev.icmp_ne (off := 19) (tgt := 116) (by decide +kernel) (by decide) (fun h97 => ?_) (fun h97 => ?_)
            · have h97 : ¬ (pd k) = 61 := zz_bE_f (by omega) (by omega) h97
              refine Ev.run [(.iload 5, 2)] (pc' := 118) (L' := [some (.ref 359), some (.int (nI 1)), some (.int (nI k)), some (.int (nI k)), some (.int (nI (pd k))), some (.int (nI 1))]) (S' := [.int (nI 1)]) rfl (by decide +kernel) rfl ?_
              refine Ev.if_eq (off := 9) (tgt := 127) (by decide +kernel) (by decide) (fun h118 => absurd h118 (by decide)) (fun h118 => ?_)
              refine Ev.run [(.iinc 2 1, 3)] (pc' := 124) (L' := [some (.ref 359), some (.int (nI 1)), some (.int (nI k + 1)), some (.int (nI k)), some (.int (nI (pd k))), some (.int (nI 1))]) (S' := []) rfl (by decide +kernel) rfl ?_
              rw [nI_1 k]
              refine Ev.goto (off := 5) (tgt := 129) (by decide +kernel) (by decide) ?_
              refine Ev.run [(.iinc 3 1, 3)] (pc' := 132) (L' := [some (.ref 359), some (.int (nI 1)), some (.int (nI (k + 1))), some (.int (nI k + 1)), some (.int (nI (pd k))), some (.int (nI 1))]) (S' := []) rfl (by decide +kernel) rfl ?_
              rw [nI_1 k]
              refine Ev.goto (off := (-122)) (tgt := 10) (by decide +kernel) (by decide) ?_
              refine Ev.weakL (L' := [some (.ref 359), some (.int (nI 1)), some (.int (nI (k + 1))), some (.int (nI (k + 1))), none, none]) ⟨rfl, rfl, rfl, rfl, trivial⟩ ?_
              exact ih (k + 1) I1 (by omega) (by omega) (by omega) hs hh (by rw [hE, et_st (by omega) (by omega) (stn_y (Or.inr h53))]; rfl)
            · have h97 : (pd k) = 61 := zz_bE_t (by omega) (by omega) h97
              refine Ev.run [(.iload_n 2, 1)] (pc' := 101) (L' := [some (.ref 359), some (.int (nI 1)), some (.int (nI k)), some (.int (nI k)), some (.int (nI (pd k))), some (.int (nI 1))]) (S' := [.int (nI k)]) rfl (by decide +kernel) rfl ?_
              refine Ev.if_le (off := 15) (tgt := 116) (by decide +kernel) (by decide) (fun h101 => ?_) (fun h101 => ?_)
              · have h101 : k ≤ 0 := zz_bG'_t (by omega) (by omega) h101
                refine Ev.run [(.iload 5, 2)] (pc' := 118) (L' := [some (.ref 359), some (.int (nI 1)), some (.int (nI k)), some (.int (nI k)), some (.int (nI (pd k))), some (.int (nI 1))]) (S' := [.int (nI 1)]) rfl (by decide +kernel) rfl ?_
                refine Ev.if_eq (off := 9) (tgt := 127) (by decide +kernel) (by decide) (fun h118 => absurd h118 (by decide)) (fun h118 => ?_)
                refine Ev.run [(.iinc 2 1, 3)] (pc' := 124) (L' := [some (.ref 359), some (.int (nI 1)), some (.int (nI k + 1)), some (.int (nI k)), some (.int (nI (pd k))), some (.int (nI 1))]) (S' := []) rfl (by decide +kernel) rfl ?_
                rw [nI_1 k]
                refine Ev.goto (off := 5) (tgt := 129) (by decide +kernel) (by decide) ?_
                refine Ev.run [(.iinc 3 1, 3)] (pc' := 132) (L' := [some (.ref 359), some (.int (nI 1)), some (.int (nI (k + 1))), some (.int (nI k + 1)), some (.int (nI (pd k))), some (.int (nI 1))]) (S' := []) rfl (by decide +kernel) rfl ?_
                rw [nI_1 k]
                refine Ev.goto (off := (-122)) (tgt := 10) (by decide +kernel) (by decide) ?_
                refine Ev.weakL (L' := [some (.ref 359), some (.int (nI 1)), some (.int (nI (k + 1))), some (.int (nI (k + 1))), none, none]) ⟨rfl, rfl, rfl, rfl, trivial⟩ ?_
                exact ih (k + 1) I1 (by omega) (by omega) (by omega) hs hh (by rw [hE, et_st (by omega) (by omega) (stn_y (Or.inr h53))]; rfl)
              · have h101 : k > 0 := zz_bG'_f (by omega) (by omega) h101
                refine Ev.run [(.aload_n 0, 1), (.iload_n 3, 1), (.iconst 1, 1), (.iadd, 1)] (pc' := 108) (L' := [some (.ref 359), some (.int (nI 1)), some (.int (nI k)), some (.int (nI k)), some (.int (nI (pd k))), some (.int (nI 1))]) (S' := [.int (nI k + nI 1), .ref 359]) rfl (by decide +kernel) rfl ?_
                rw [nI_add k 1]
                refine Ev.putf (idx := 89) rfl rfl rfl (by decide +kernel) (rfl) rfl ?_
                dsimp only
                refine Ev.run [(.iconst 0, 1), (.istore_n 2, 1)] (pc' := 113) (L' := [some (.ref 359), some (.int (nI 1)), some (.int (nI 0)), some (.int (nI k)), some (.int (nI (pd k))), some (.int (nI 1))]) (S' := []) rfl (by decide +kernel) rfl ?_
                refine Ev.goto (off := 16) (tgt := 129) (by decide +kernel) (by decide) ?_
                refine Ev.run [(.iinc 3 1, 3)] (pc' := 132) (L' := [some (.ref 359), some (.int (nI 1)), some (.int (nI 0)), some (.int (nI k + 1)), some (.int (nI (pd k))), some (.int (nI 1))]) (S' := []) rfl (by decide +kernel) rfl ?_
                rw [nI_1 k]
                refine Ev.goto (off := (-122)) (tgt := 10) (by decide +kernel) (by decide) ?_
                refine Ev.weakL (L' := [some (.ref 359), some (.int (nI 1)), some (.int (nI 0)), some (.int (nI (k + 1))), none, none]) ⟨rfl, rfl, rfl, rfl, trivial⟩ ?_
                have e1 : E1 np pd = k := hE.trans (et_no (by rw [h97]; decide))
                exact l_X7_fB I J np pd hn hpd hnp hpr k e1 (by omega) (by omega) h97 (np + 1) 0 _ (by omega) (by omega) (by omega) (hs.tr (zS7.up I1 _)) (by rw [zz_up_eq, zz_ups]) (by rw [E2, e1])
          · show Ev _ _ _ _ _ 56 [some (.ref 359), some (.int (nI 1)), some (.int (nI k)), some (.int (nI k)), some (.int (nI (pd k))), none] [.int (nI 0)] (zz_SH, I1, J) _
            rw [zz_rng (by omega) (by omega) (by omega)] at h53
            refine Ev.if_eq (off := 22) (tgt := 78) (by decide +kernel) (by decide) (fun h56 => ?_) (fun h56 => absurd h56 (by decide))
            refine Ev.run [(.iconst 0, 1), (.istore 5, 2), (.iload_n 1, 1), (.iconst 1, 1)] (pc' := 83) (L' := [some (.ref 359), some (.int (nI 1)), some (.int (nI k)), some (.int (nI k)), some (.int (nI (pd k))), some (.int (nI 0))]) (S' := [.int (nI 1), .int (nI 1)]) rfl (by decide +kernel) rfl ?_
            refine Ev.icmp_ne (off := 33) (tgt := 116) (by decide +kernel) (by decide) (fun h83 => absurd h83 (by decide)) (fun h83 => ?_)
            refine Ev.run [(.aload_n 0, 1), (.getfield 89, 3)] (pc' := 90) (L' := [some (.ref 359), some (.int (nI 1)), some (.int (nI k)), some (.int (nI k)), some (.int (nI (pd k))), some (.int (nI 0))]) (S' := [.int (I1 359 15)]) rfl (by decide +kernel) rfl ?_
            rw [hh]
            refine Ev.if_ge (off := 26) (tgt := 116) (by decide +kernel) (by decide) (fun h90 => absurd h90 (by decide)) (fun h90 => ?_)
            refine Ev.run [(.iload 4, 2), (.bipush 61, 2)] (pc' := 97) (L' := [some (.ref 359), some (.int (nI 1)), some (.int (nI k)), some (.int (nI k)), some (.int (nI (pd k))), some (.int (nI 0))]) (S' := [.int (nI 61), .int (nI (pd k))]) rfl (by decide +kernel) rfl ?_
            refine Ev.icmp_ne (off := 19) (tgt := 116) (by decide +kernel) (by decide) (fun h97 => ?_) (fun h97 => ?_)
            · have h97 : ¬ (pd k) = 61 := zz_bE_f (by omega) (by omega) h97
              refine Ev.run [(.iload 5, 2)] (pc' := 118) (L' := [some (.ref 359), some (.int (nI 1)), some (.int (nI k)), some (.int (nI k)), some (.int (nI (pd k))), some (.int (nI 0))]) (S' := [.int (nI 0)]) rfl (by decide +kernel) rfl ?_
              refine Ev.if_eq (off := 9) (tgt := 127) (by decide +kernel) (by decide) (fun h118 => ?_) (fun h118 => absurd h118 (by decide))
              refine Ev.run [(.iload_n 3, 1)] (pc' := 128) (L' := [some (.ref 359), some (.int (nI 1)), some (.int (nI k)), some (.int (nI k)), some (.int (nI (pd k))), some (.int (nI 0))]) (S' := [.int (nI k)]) rfl (by decide +kernel) rfl ?_
              exact Ev.iret rfl (by decide +kernel) (⟨by have e1 : E1 np pd = k := hE.trans (et_no (stn_n h34 h53)); rw [fP, if_pos (Or.inr (fun q => h97 (by rw [← e1]; exact q.2))), e1]; rfl, I1, hs, (fun q => by have e1 : E1 np pd = k := hE.trans (et_no (stn_n h34 h53)); rw [fP, if_pos (Or.inr (fun q => h97 (by rw [← e1]; exact q.2)))] at q; cases q), rfl⟩)
            · have h97 : (pd k) = 61 := zz_bE_t (by omega) (by omega) h97
              refine Ev.run [(.iload_n 2, 1)] (pc' := 101) (L' := [some (.ref 359), some (.int (nI 1)), some (.int (nI k)), some (.int (nI k)), some (.int (nI (pd k))), some (.int (nI 0))]) (S' := [.int (nI k)]) rfl (by decide +kernel) rfl ?_
              refine Ev.if_le (off := 15) (tgt := 116) (by decide +kernel) (by decide) (fun h101 => ?_) (fun h101 => ?_)
              · have h101 : k ≤ 0 := zz_bG'_t (by omega) (by omega) h101
                refine Ev.run [(.iload 5, 2)] (pc' := 118) (L' := [some (.ref 359), some (.int (nI 1)), some (.int (nI k)), some (.int (nI k)), some (.int (nI (pd k))), some (.int (nI 0))]) (S' := [.int (nI 0)]) rfl (by decide +kernel) rfl ?_
                refine Ev.if_eq (off := 9) (tgt := 127) (by decide +kernel) (by decide) (fun h118 => ?_) (fun h118 => absurd h118 (by decide))
                refine Ev.run [(.iload_n 3, 1)] (pc' := 128) (L' := [some (.ref 359), some (.int (nI 1)), some (.int (nI k)), some (.int (nI k)), some (.int (nI (pd k))), some (.int (nI 0))]) (S' := [.int (nI k)]) rfl (by decide +kernel) rfl ?_
                exact Ev.iret rfl (by decide +kernel) (⟨by have e1 : E1 np pd = k := hE.trans (et_no (stn_n h34 h53)); rw [fP, if_pos (Or.inl (by omega)), e1]; rfl, I1, hs, (fun q => by have e1 : E1 np pd = k := hE.trans (et_no (stn_n h34 h53)); rw [fP, if_pos (Or.inl (by omega))] at q; cases q), rfl⟩)
              · have h101 : k > 0 := zz_bG'_f (by omega) (by omega) h101
                refine Ev.run [(.aload_n 0, 1), (.iload_n 3, 1), (.iconst 1, 1), (.iadd, 1)] (pc' := 108) (L' := [some (.ref 359), some (.int (nI 1)), some (.int (nI k)), some (.int (nI k)), some (.int (nI (pd k))), some (.int (nI 0))]) (S' := [.int (nI k + nI 1), .ref 359]) rfl (by decide +kernel) rfl ?_
                rw [nI_add k 1]
                refine Ev.putf (idx := 89) rfl rfl rfl (by decide +kernel) (rfl) rfl ?_
                dsimp only
                refine Ev.run [(.iconst 0, 1), (.istore_n 2, 1)] (pc' := 113) (L' := [some (.ref 359), some (.int (nI 1)), some (.int (nI 0)), some (.int (nI k)), some (.int (nI (pd k))), some (.int (nI 0))]) (S' := []) rfl (by decide +kernel) rfl ?_
                refine Ev.goto (off := 16) (tgt := 129) (by decide +kernel) (by decide) ?_
                refine Ev.run [(.iinc 3 1, 3)] (pc' := 132) (L' := [some (.ref 359), some (.int (nI 1)), some (.int (nI 0)), some (.int (nI k + 1)), some (.int (nI (pd k))), some (.int (nI 0))]) (S' := []) rfl (by decide +kernel) rfl ?_
                rw [nI_1 k]
                refine Ev.goto (off := (-122)) (tgt := 10) (by decide +kernel) (by decide) ?_
                refine Ev.weakL (L' := [some (.ref 359), some (.int (nI 1)), some (.int (nI 0)), some (.int (nI (k + 1))), none, none]) ⟨rfl, rfl, rfl, rfl, trivial⟩ ?_
                have e1 : E1 np pd = k := hE.trans (et_no (by rw [h97]; decide))
                exact l_X7_fB I J np pd hn hpd hnp hpr k e1 (by omega) (by omega) h97 (np + 1) 0 _ (by omega) (by omega) (by omega) (hs.tr (zS7.up I1 _)) (by rw [zz_up_eq, zz_ups]) (by rw [E2, e1])

set_option maxRecDepth 100000 in
set_option maxHeartbeats 4000000 in
theorem c_X7_faultOf_1 {sc : Nat × (Nat → Int32)} {d : Nat} (I : Nat → Nat → Int32) (J : Nat → Nat → Int64) (np : Nat) (pd : Nat → Nat) (hn : I 359 0 = nI np) (hpd : ∀ j, j < np → I 360 j = nI (pd j)) (hnp : np ≤ 30) (hpr : ∀ j, j < np → 33 ≤ pd j ∧ pd j ≤ 126) : EvM sc (d + 2) 0 0 mX7_faultOf [.ref 359, .int (nI 1)] (zz_SH, I, J) (fun r σ => r = some (.int (ob (fP np pd))) ∧ ∃ I' : Nat → Nat → Int32, zS7 I I' ∧ (fP np pd = none → I' 359 15 = nI (E1 np pd + 1)) ∧ σ = (zz_SH, I', J)) := by
  refine EvM.of (by decide) rfl (Nat.le_of_ble_eq_true rfl) ?_
  show Ev _ _ _ _ _ 0 [some (.ref 359), some (.int (nI 1)), none, none, none, none] [] (zz_SH, I, J) _
  refine Ev.run [(.aload_n 0, 1), (.bipush (-6), 2)] (pc' := 3) (L' := [some (.ref 359), some (.int (nI 1)), none, none, none, none]) (S' := [.int ((-6)), .ref 359]) rfl (by decide +kernel) rfl ?_
  refine Ev.putf (idx := 89) rfl rfl rfl (by decide +kernel) (rfl) rfl ?_
  dsimp only
  refine Ev.run [(.iconst 0, 1), (.istore_n 2, 1), (.iconst 0, 1), (.istore_n 3, 1)] (pc' := 10) (L' := [some (.ref 359), some (.int (nI 1)), some (.int (nI 0)), some (.int (nI 0)), none, none]) (S' := []) rfl (by decide +kernel) rfl ?_
  exact l_X7_fA1 I J np pd hn hpd hnp hpr (np + 1) 0 _ (by omega) (by omega) (by omega) (zS7.up I _) (by rw [zz_up_eq, zz_ups]) rfl

set_option maxRecDepth 100000 in
set_option maxHeartbeats 4000000 in
theorem c_X7_fault_0 {sc : Nat × (Nat → Int32)} {d : Nat} (I : Nat → Nat → Int32) (J : Nat → Nat → Int64) (np : Nat) (pd : Nat → Nat) (hn : I 359 0 = nI np) (hpd : ∀ j, j < np → I 360 j = nI (pd j)) (hnp : np ≤ 30) (hpr : ∀ j, j < np → 33 ≤ pd j ∧ pd j ≤ 126) : EvM sc (d + 3) 0 0 mX7_fault [.ref 359, .int (nI 0)] (zz_SH, I, J) (fun r σ => r = some (.int (ob (fS np pd))) ∧ ∃ I' : Nat → Nat → Int32, zSc I I' ∧ σ = (zz_SH, I', J)) := by
  refine EvM.of (by decide) rfl (Nat.le_of_ble_eq_true rfl) ?_
  show Ev _ _ _ _ _ 0 [some (.ref 359), some (.int (nI 0))] [] (zz_SH, I, J) _
  refine Ev.run [(.iload_n 1, 1), (.iconst 0, 1), (.iconst 1, 1)] (pc' := 3) (L' := [some (.ref 359), some (.int (nI 0))]) (S' := [.int (nI 1), .int (nI 0), .int (nI 0)]) rfl (by decide +kernel) rfl ?_
  refine Ev.callS0 mX7_in [.int (nI 0), .int (nI 0), .int (nI 1)] [] _ rfl lk_RX7_79 (by decide +kernel) rfl (Nat.le_of_ble_eq_true rfl) (c_X7_in I J (nI 0) (nI 0) (nI 1)) ?_
  rintro _ _ ⟨rfl, ⟨rfl, h3⟩ | ⟨rfl, h3⟩⟩
  · show Ev _ _ _ _ _ 6 [some (.ref 359), some (.int (nI 0))] [.int (nI 1)] (zz_SH, I, J) _
    refine Ev.if_eq (off := 11) (tgt := 17) (by decide +kernel) (by decide) (fun h6 => absurd h6 (by decide)) (fun h6 => ?_)
    refine Ev.run [(.aload_n 0, 1), (.iload_n 1, 1)] (pc' := 11) (L' := [some (.ref 359), some (.int (nI 0))]) (S' := [.int (nI 0), .ref 359]) rfl (by decide +kernel) rfl ?_
    refine Ev.callV0 mX7_faultOf [.int (nI 0)] [] _ rfl lk_RX7_96 (by decide +kernel) (rfl) rfl rfl rfl (Nat.le_of_ble_eq_true rfl) (c_X7_faultOf_0 I J np pd hn hpd hnp hpr) ?_
    rintro _ _ ⟨rfl, I1, hs1, rfl⟩
    show Ev _ _ _ _ _ 14 [some (.ref 359), some (.int (nI 0))] [.int (ob (fS np pd))] (zz_SH, I1, J) _
    refine Ev.goto (off := 5) (tgt := 19) (by decide +kernel) (by decide) ?_
    exact Ev.iret rfl (by decide +kernel) (⟨rfl, I1, hs1.sc, rfl⟩)
  · exact absurd (by decide) h3

set_option maxRecDepth 100000 in
set_option maxHeartbeats 4000000 in
theorem c_X7_fault_1 {sc : Nat × (Nat → Int32)} {d : Nat} (I : Nat → Nat → Int32) (J : Nat → Nat → Int64) (np : Nat) (pd : Nat → Nat) (hn : I 359 0 = nI np) (hpd : ∀ j, j < np → I 360 j = nI (pd j)) (hnp : np ≤ 30) (hpr : ∀ j, j < np → 33 ≤ pd j ∧ pd j ≤ 126) : EvM sc (d + 3) 0 0 mX7_fault [.ref 359, .int (nI 1)] (zz_SH, I, J) (fun r σ => r = some (.int (ob (fP np pd))) ∧ ∃ I' : Nat → Nat → Int32, zSc I I' ∧ σ = (zz_SH, I', J)) := by
  refine EvM.of (by decide) rfl (Nat.le_of_ble_eq_true rfl) ?_
  show Ev _ _ _ _ _ 0 [some (.ref 359), some (.int (nI 1))] [] (zz_SH, I, J) _
  refine Ev.run [(.iload_n 1, 1), (.iconst 0, 1), (.iconst 1, 1)] (pc' := 3) (L' := [some (.ref 359), some (.int (nI 1))]) (S' := [.int (nI 1), .int (nI 0), .int (nI 1)]) rfl (by decide +kernel) rfl ?_
  refine Ev.callS0 mX7_in [.int (nI 1), .int (nI 0), .int (nI 1)] [] _ rfl lk_RX7_79 (by decide +kernel) rfl (Nat.le_of_ble_eq_true rfl) (c_X7_in I J (nI 1) (nI 0) (nI 1)) ?_
  rintro _ _ ⟨rfl, ⟨rfl, h3⟩ | ⟨rfl, h3⟩⟩
  · show Ev _ _ _ _ _ 6 [some (.ref 359), some (.int (nI 1))] [.int (nI 1)] (zz_SH, I, J) _
    refine Ev.if_eq (off := 11) (tgt := 17) (by decide +kernel) (by decide) (fun h6 => absurd h6 (by decide)) (fun h6 => ?_)
    refine Ev.run [(.aload_n 0, 1), (.iload_n 1, 1)] (pc' := 11) (L' := [some (.ref 359), some (.int (nI 1))]) (S' := [.int (nI 1), .ref 359]) rfl (by decide +kernel) rfl ?_
    refine Ev.callV0 mX7_faultOf [.int (nI 1)] [] _ rfl lk_RX7_96 (by decide +kernel) (rfl) rfl rfl rfl (Nat.le_of_ble_eq_true rfl) (c_X7_faultOf_1 I J np pd hn hpd hnp hpr) ?_
    rintro _ _ ⟨rfl, I1, hs1, hq1, rfl⟩
    show Ev _ _ _ _ _ 14 [some (.ref 359), some (.int (nI 1))] [.int (ob (fP np pd))] (zz_SH, I1, J) _
    refine Ev.goto (off := 5) (tgt := 19) (by decide +kernel) (by decide) ?_
    exact Ev.iret rfl (by decide +kernel) (⟨rfl, I1, hs1.sc, rfl⟩)
  · exact absurd (by decide) h3

set_option maxRecDepth 100000 in
set_option maxHeartbeats 4000000 in
theorem c_X7_fault_o {sc : Nat × (Nat → Int32)} {d : Nat} (I : Nat → Nat → Int32) (J : Nat → Nat → Int64) (x : Int32) (hx : ¬ zz_ix x 2) : EvM sc (d + 3) 0 0 mX7_fault [.ref 359, .int x] (zz_SH, I, J) (zz_is (.int (-2)) (zz_SH, I, J)) := by
  refine EvM.of (by decide) rfl (Nat.le_of_ble_eq_true rfl) ?_
  show Ev _ _ _ _ _ 0 [some (.ref 359), some (.int x)] [] (zz_SH, I, J) _
  refine Ev.run [(.iload_n 1, 1), (.iconst 0, 1), (.iconst 1, 1)] (pc' := 3) (L' := [some (.ref 359), some (.int x)]) (S' := [.int (nI 1), .int (nI 0), .int x]) rfl (by decide +kernel) rfl ?_
  refine Ev.callS0 mX7_in [.int x, .int (nI 0), .int (nI 1)] [] _ rfl lk_RX7_79 (by decide +kernel) rfl (Nat.le_of_ble_eq_true rfl) (c_X7_in I J x (nI 0) (nI 1)) ?_
  rintro _ _ ⟨rfl, ⟨rfl, h3⟩ | ⟨rfl, h3⟩⟩
  · rw [show (nI 1 : Int32) = nI 2 - nI 1 by decide, zz_ix_iff (by decide)] at h3; exact absurd h3 hx
  · show Ev _ _ _ _ _ 6 [some (.ref 359), some (.int x)] [.int (nI 0)] (zz_SH, I, J) _
    refine Ev.if_eq (off := 11) (tgt := 17) (by decide +kernel) (by decide) (fun h6 => ?_) (fun h6 => absurd h6 (by decide))
    refine Ev.run [(.bipush (-2), 2)] (pc' := 19) (L' := [some (.ref 359), some (.int x)]) (S' := [.int ((-2))]) rfl (by decide +kernel) rfl ?_
    exact Ev.iret rfl (by decide +kernel) (⟨rfl, rfl⟩)
end
section
/-! ===== the model: keep, write ===== -/
def addT (A : zA) (np : Nat) (pd : Nat → Nat) : zA := ((aN A, aM A + 1, aa A, ab A), (fz A, gz A, fun s => if s = aM A then np else tz A s), (ff A, gg A, fun s j => if s = aM A then pd j else tt A s j), aB A, rt A, mu A, la A, lb A)
def addP (A : zA) (np : Nat) (pd : Nat → Nat) (e : Nat) (b : Option Nat) : zA := ((aN A + 1, aM A, aa A, ab A), ((fun p => if p = aN A then e else fz A p), (fun p => if p = aN A then np - (e + 1) else gz A p), tz A), ((fun p j => if p = aN A then pd j else ff A p j), (fun p j => if p = aN A then pd (e + 1 + j) else gg A p j), tt A), (fun p => if p = aN A then b else aB A p), rt A, mu A, la A, lb A)
def KP (I I' : Nat → Nat → Int32) : Prop := (∀ c, c < 359 → I' c = I c) ∧ I' 379 = I 379 ∧ I' 380 = I 380 ∧ I' 359 0 = nI 0
theorem MV_addT {I I' : Nat → Nat → Int32} {A : zA} {np : Nat} {pd : Nat → Nat} (hV : MV (zVm I) A) (hW : WF A) (f0 : I' 359 2 = I 359 2) (f1 : I' 359 8 = nI (aM A + 1)) (f2 : ∀ c, 361 ≤ c → c ≤ 371 → c ≠ 366 → c ≠ 367 → I' c = I c) (f3 : I' 366 (aM A) = nI np) (f4 : ∀ s, s < aM A → I' 366 s = I 366 s) (f5 : ∀ j, j < np → I' 367 (12 * aM A + j) = nI (pd j)) (f6 : ∀ x, x < 12 * aM A → I' 367 x = I 367 x) : MV (zVm I') (addT A np pd) := by
  obtain ⟨⟨v1, v2, v3, v4⟩, v5, v6, v7, v8, v9, v10⟩ := hV
  refine ⟨⟨f0.trans v1, f1, ?_, ?_⟩, fun p hp => ?_, fun s hs => ?_, fun r hr => ?_, fun w hw => ?_, fun j hj => ?_, fun j hj => ?_⟩
  · exact (congrFun (f2 370 (by decide) (by decide) (by decide) (by decide)) 0).trans v3
  · exact (congrFun (f2 370 (by decide) (by decide) (by decide) (by decide)) 1).trans v4
  · obtain ⟨a1, a2, a3, a4, a5⟩ := v5 p hp
    refine ⟨(congrFun (f2 361 (by decide) (by decide) (by decide) (by decide)) p).trans a1, (congrFun (f2 362 (by decide) (by decide) (by decide) (by decide)) p).trans a2, (congrFun (f2 363 (by decide) (by decide) (by decide) (by decide)) p).trans a3, fun j hj => (congrFun (f2 364 (by decide) (by decide) (by decide) (by decide)) _).trans (a4 j hj), fun j hj => (congrFun (f2 365 (by decide) (by decide) (by decide) (by decide)) _).trans (a5 j hj)⟩
  · have hs' : s < aM A + 1 := hs
    show I' 366 s = nI (if s = aM A then np else tz A s) ∧ ∀ j, j < (if s = aM A then np else tz A s) → I' 367 (12 * s + j) = nI (if s = aM A then pd j else tt A s j)
    by_cases e : s = aM A
    · subst e
      simp only [if_true]
      exact ⟨f3, f5⟩
    · simp only [if_neg e]
      have hsM : s < aM A := by omega
      have hz := (hW.2.2.1 s hsM).1
      exact ⟨(f4 s hsM).trans (v6 s hsM).1, fun j hj => (f6 _ (by omega)).trans ((v6 s hsM).2 j hj)⟩
  · exact (congrFun (f2 368 (by decide) (by decide) (by decide) (by decide)) r).trans (v7 r hr)
  · exact (congrFun (f2 369 (by decide) (by decide) (by decide) (by decide)) w).trans (v8 w hw)
  · exact (congrFun (f2 371 (by decide) (by decide) (by decide) (by decide)) j).trans (v9 j hj)
  · exact (congrFun (f2 371 (by decide) (by decide) (by decide) (by decide)) _).trans (v10 j hj)
theorem MV_addP {I I' : Nat → Nat → Int32} {A : zA} {np e : Nat} {pd : Nat → Nat} {b : Option Nat} (hV : MV (zVm I) A) (hW : WF A) (f0 : I' 359 8 = I 359 8) (f1 : I' 359 2 = nI (aN A + 1)) (f2 : ∀ c, 366 ≤ c → c ≤ 371 → I' c = I c) (f3 : I' 361 (aN A) = ob b ∧ I' 362 (aN A) = nI e ∧ I' 363 (aN A) = nI (np - (e + 1))) (f4 : ∀ p, p < aN A → I' 361 p = I 361 p ∧ I' 362 p = I 362 p ∧ I' 363 p = I 363 p) (f5 : ∀ j, j < e → I' 364 (12 * aN A + j) = nI (pd j)) (f5' : ∀ j, j < np - (e + 1) → I' 365 (12 * aN A + j) = nI (pd (e + 1 + j))) (f6 : ∀ x, x < 12 * aN A → I' 364 x = I 364 x ∧ I' 365 x = I 365 x) : MV (zVm I') (addP A np pd e b) := by
  obtain ⟨⟨v1, v2, v3, v4⟩, v5, v6, v7, v8, v9, v10⟩ := hV
  refine ⟨⟨f1, f0.trans v2, ?_, ?_⟩, fun p hp => ?_, fun s hs => ?_, fun r hr => ?_, fun w hw => ?_, fun j hj => ?_, fun j hj => ?_⟩
  · exact (congrFun (f2 370 (by decide) (by decide)) 0).trans v3
  · exact (congrFun (f2 370 (by decide) (by decide)) 1).trans v4
  · have hp' : p < aN A + 1 := hp
    show I' 361 p = ob (if p = aN A then b else aB A p) ∧ I' 362 p = nI (if p = aN A then e else fz A p) ∧ I' 363 p = nI (if p = aN A then np - (e + 1) else gz A p) ∧ (∀ j, j < (if p = aN A then e else fz A p) → I' 364 (12 * p + j) = nI (if p = aN A then pd j else ff A p j)) ∧ ∀ j, j < (if p = aN A then np - (e + 1) else gz A p) → I' 365 (12 * p + j) = nI (if p = aN A then pd (e + 1 + j) else gg A p j)
    by_cases q : p = aN A
    · subst q
      simp only [if_true]
      exact ⟨f3.1, f3.2.1, f3.2.2, f5, f5'⟩
    · simp only [if_neg q]
      have hpN : p < aN A := by omega
      have hz := (hW.2.1 p hpN).1
      obtain ⟨a1, a2, a3, a4, a5⟩ := v5 p hpN
      obtain ⟨c1, c2, c3⟩ := f4 p hpN
      exact ⟨c1.trans a1, c2.trans a2, c3.trans a3, fun j hj => ((f6 _ (by omega)).1).trans (a4 j hj), fun j hj => ((f6 _ (by omega)).2).trans (a5 j hj)⟩
  · exact ⟨(congrFun (f2 366 (by decide) (by decide)) s).trans (v6 s hs).1, fun j hj => (congrFun (f2 367 (by decide) (by decide)) _).trans ((v6 s hs).2 j hj)⟩
  · exact (congrFun (f2 368 (by decide) (by decide)) r).trans (v7 r hr)
  · exact (congrFun (f2 369 (by decide) (by decide)) w).trans (v8 w hw)
  · exact (congrFun (f2 371 (by decide) (by decide)) j).trans (v9 j hj)
  · exact (congrFun (f2 371 (by decide) (by decide)) _).trans (v10 j hj)
theorem fS_none {np : Nat} {pd : Nat → Nat} (h : fS np pd = none) : 1 ≤ np ∧ np ≤ 12 := by
  rw [fS] at h
  split at h
  · cases h
  · next q =>
    have := et_b np pd 97 12 0 (Nat.zero_le np)
    have e : E1 np pd = et np pd 97 12 0 := rfl
    omega
theorem fP_none {np : Nat} {pd : Nat → Nat} (h : fP np pd = none) : 1 ≤ E1 np pd ∧ E1 np pd ≤ 12 ∧ E1 np pd + 1 < np ∧ np ≤ E1 np pd + 1 + 12 := by
  rw [fP] at h
  split at h
  · cases h
  · next q =>
    split at h
    · cases h
    · next q2 =>
      have a1 := et_b np pd 97 12 0 (Nat.zero_le np)
      have e : E1 np pd = et np pd 97 12 0 := rfl
      have q3 : ¬ E1 np pd = 0 ∧ E1 np pd < np := by
        refine ⟨fun z => q (Or.inl z), ?_⟩
        apply Classical.byContradiction
        intro z
        exact q (Or.inr (fun y => z y.1))
      have a2 := et_b np pd 65 12 (E1 np pd + 1) (by omega)
      have e2 : E2 np pd = et np pd 65 12 (E1 np pd + 1) := rfl
      omega

set_option maxRecDepth 100000 in
set_option maxHeartbeats 4000000 in
theorem c_X7_write_f {sc : Nat × (Nat → Int32)} {d : Nat} (I : Nat → Nat → Int32) (J : Nat → Nat → Int64) (A : zA) (hV : MV (zVm I) A) (hW : WF A) (hM : aM A = 10) : EvM sc (d + 3) 0 0 mX7_write [.ref 359] (zz_SH, I, J) (zz_is (.int (-4)) (zz_SH, I, J)) := by
  have w1 := hW.1.1
  have w2 := hW.1.2.1
  refine EvM.of (by decide) rfl (Nat.le_of_ble_eq_true rfl) ?_
  show Ev _ _ _ _ _ 0 [some (.ref 359), none] [] (zz_SH, I, J) _
  refine Ev.run [(.aload_n 0, 1), (.getfield 83, 3)] (pc' := 4) (L' := [some (.ref 359), none]) (S' := [.int (I 359 8)]) rfl (by decide +kernel) rfl ?_
  rw [show I 359 8 = nI (aM A) from hV.1.2.1]
  refine Ev.run [(.bipush 10, 2)] (pc' := 6) (L' := [some (.ref 359), none]) (S' := [.int (nI 10), .int (nI (aM A))]) rfl (by decide +kernel) rfl ?_
  refine Ev.icmp_ne (off := 6) (tgt := 12) (by decide +kernel) (by decide) (fun h6 => ?_) (fun h6 => ?_)
  · have h6 : ¬ (aM A) = 10 := zz_bE_f (by omega) (by omega) h6
    exfalso; omega
  · have h6 : (aM A) = 10 := zz_bE_t (by omega) (by omega) h6
    refine Ev.run [(.bipush (-4), 2)] (pc' := 11) (L' := [some (.ref 359), none]) (S' := [.int ((-4))]) rfl (by decide +kernel) rfl ?_
    exact Ev.iret rfl (by decide +kernel) (⟨rfl, rfl⟩)

set_option maxRecDepth 100000 in
set_option maxHeartbeats 4000000 in
theorem c_X7_write_n {sc : Nat × (Nat → Int32)} {d : Nat} (I : Nat → Nat → Int32) (J : Nat → Nat → Int64) (A : zA) (hV : MV (zVm I) A) (hW : WF A) (np : Nat) (pd : Nat → Nat) (hn : I 359 0 = nI np) (hpd : ∀ j, j < np → I 360 j = nI (pd j)) (hnp : np ≤ 30) (hpr : ∀ j, j < np → 33 ≤ pd j ∧ pd j ≤ 126) (hM : aM A < 10) (x : Nat) (hf : fS np pd = some x) (hx : x < 1000) : EvM sc (d + 3) 0 0 mX7_write [.ref 359] (zz_SH, I, J) (fun r σ => r = some (.int (-5)) ∧ ∃ I' : Nat → Nat → Int32, zSc I I' ∧ σ = (zz_SH, I', J)) := by
  have w1 := hW.1.1
  have w2 := hW.1.2.1
  refine EvM.of (by decide) rfl (Nat.le_of_ble_eq_true rfl) ?_
  show Ev _ _ _ _ _ 0 [some (.ref 359), none] [] (zz_SH, I, J) _
  refine Ev.run [(.aload_n 0, 1), (.getfield 83, 3)] (pc' := 4) (L' := [some (.ref 359), none]) (S' := [.int (I 359 8)]) rfl (by decide +kernel) rfl ?_
  rw [show I 359 8 = nI (aM A) from hV.1.2.1]
  refine Ev.run [(.bipush 10, 2)] (pc' := 6) (L' := [some (.ref 359), none]) (S' := [.int (nI 10), .int (nI (aM A))]) rfl (by decide +kernel) rfl ?_
  refine Ev.icmp_ne (off := 6) (tgt := 12) (by decide +kernel) (by decide) (fun h6 => ?_) (fun h6 => ?_)
  · have h6 : ¬ (aM A) = 10 := zz_bE_f (by omega) (by omega) h6
    refine Ev.run [(.aload_n 0, 1), (.iconst 0, 1)] (pc' := 14) (L' := [some (.ref 359), none]) (S' := [.int (nI 0), .ref 359]) rfl (by decide +kernel) rfl ?_
    refine Ev.callV0 mX7_faultOf [.int (nI 0)] [] _ rfl lk_RX7_96 (by decide +kernel) (rfl) rfl rfl rfl (Nat.le_of_ble_eq_true rfl) (c_X7_faultOf_0 I J np pd hn hpd hnp hpr) ?_
    rintro _ _ ⟨rfl, I1, hs1, rfl⟩
    rw [hf]
    show Ev _ _ _ _ _ 17 [some (.ref 359), none] [.int (nI x)] (zz_SH, I1, J) _
    refine Ev.if_lt (off := 6) (tgt := 23) (by decide +kernel) (by decide) (fun h17 => ?_) (fun h17 => ?_)
    · have h17 : x < 0 := zz_bL_t (by omega) (by omega) h17
      exfalso; omega
    · have h17 : x ≥ 0 := zz_bL_f (by omega) (by omega) h17
      refine Ev.run [(.bipush (-5), 2)] (pc' := 22) (L' := [some (.ref 359), none]) (S' := [.int ((-5))]) rfl (by decide +kernel) rfl ?_
      exact Ev.iret rfl (by decide +kernel) (⟨rfl, I1, hs1.sc, rfl⟩)
  · have h6 : (aM A) = 10 := zz_bE_t (by omega) (by omega) h6
    exfalso; omega

set_option maxRecDepth 100000 in
set_option maxHeartbeats 4000000 in
theorem l_X7_write {sc : Nat × (Nat → Int32)} {d : Nat} (I : Nat → Nat → Int32) (J : Nat → Nat → Int64) (A : zA) (hV : MV (zVm I) A) (hW : WF A) (np : Nat) (pd : Nat → Nat) (hn : I 359 0 = nI np) (hpd : ∀ j, j < np → I 360 j = nI (pd j)) (hnp : np ≤ 30) (hpr : ∀ j, j < np → 33 ≤ pd j ∧ pd j ≤ 126) (hM : aM A < 10) (hf : fS np pd = none) (I1 : Nat → Nat → Int32) (hs1 : zS7 I I1) : ∀ (μ : Nat) (k : Nat) (I2 : Nat → Nat → Int32), np - k < μ → (k ≤ np) → ((∀ c, c ≠ 366 → c ≠ 367 → I2 c = I1 c) ∧ I2 366 = upd (I1 366) (aM A) (nI np)) → (∀ j, j < k → I2 367 (12 * aM A + j) = nI (pd j)) → (∀ x, x < 12 * aM A → I2 367 x = I 367 x) →  Ev sc (d + 3) 0 0 mX7_write 38 [some (.ref 359), some (.int (nI k))] [] (zz_SH, I2, J) (fun r σ => r = some (.int (nI (aM A))) ∧ ∃ I' : Nat → Nat → Int32, KP I I' ∧ MV (zVm I') (addT A np pd) ∧ σ = (zz_SH, I', J)) := by
  intro μ
  induction μ with
  | zero => intro k I2 hμ; exact absurd hμ (Nat.not_lt_zero _)
  | succ μ ih =>
    intro k I2 hμ hk hz ht hu
    have w1 := hW.1.1
    have w2 := hW.1.2.1
    have g1 := fS_none hf
    refine Ev.run [(.iload_n 1, 1), (.aload_n 0, 1), (.getfield 86, 3)] (pc' := 43) (L' := [some (.ref 359), some (.int (nI k))]) (S' := [.int (I2 359 0), .int (nI k)]) rfl (by decide +kernel) rfl ?_
    rw [show I2 359 0 = nI (np) from by rw [hz.1 359 (by decide) (by decide), hs1.2 0 (by decide)]; exact hn]
    refine Ev.icmp_ge (off := 29) (tgt := 72) (by decide +kernel) (by decide) (fun h43 => ?_) (fun h43 => ?_)
    · have h43 : k ≥ np := zz_bG_t (by omega) (by omega) h43
      have hkn : np = k := by omega
      refine Ev.run [(.aload_n 0, 1), (.iconst 0, 1)] (pc' := 74) (L' := [some (.ref 359), some (.int (nI k))]) (S' := [.int (nI 0), .ref 359]) rfl (by decide +kernel) rfl ?_
      refine Ev.putf (idx := 86) rfl rfl rfl (by decide +kernel) (rfl) rfl ?_
      dsimp only
      refine Ev.run [(.aload_n 0, 1), (.dup, 1), (.getfield 83, 3)] (pc' := 82) (L' := [some (.ref 359), some (.int (nI k))]) (S' := [.int ((zz_up I2 359 0 (nI 0)) 359 8), .ref 359]) rfl (by decide +kernel) rfl ?_
      rw [show (zz_up I2 359 0 (nI 0)) 359 8 = nI (aM A) from by rw [zz_up_eq, zz_upn (by decide), hz.1 359 (by decide) (by decide), hs1.2 8 (by decide)]; exact hV.1.2.1]
      refine Ev.run [(.iconst 1, 1), (.iadd, 1)] (pc' := 84) (L' := [some (.ref 359), some (.int (nI k))]) (S' := [.int (nI (aM A) + nI 1), .ref 359]) rfl (by decide +kernel) rfl ?_
      rw [nI_add (aM A) 1]
      refine Ev.putf (idx := 83) rfl rfl rfl (by decide +kernel) (rfl) rfl ?_
      dsimp only
      refine Ev.run [(.aload_n 0, 1), (.getfield 83, 3)] (pc' := 91) (L' := [some (.ref 359), some (.int (nI k))]) (S' := [.int ((zz_up (zz_up I2 359 0 (nI 0)) 359 8 (nI ((aM A) + 1))) 359 8)]) rfl (by decide +kernel) rfl ?_
      rw [show (zz_up (zz_up I2 359 0 (nI 0)) 359 8 (nI ((aM A) + 1))) 359 8 = nI (aM A + 1) from by rw [zz_up_eq, zz_ups]]
      refine Ev.run [(.iconst 1, 1), (.isub, 1)] (pc' := 93) (L' := [some (.ref 359), some (.int (nI k))]) (S' := [.int (nI (aM A + 1) - nI 1)]) rfl (by decide +kernel) rfl ?_
      rw [show nI (aM A + 1) - nI 1 = nI (aM A) from zz_sub (by omega)]
      exact Ev.iret rfl (by decide +kernel) (⟨rfl, _, ⟨fun c hc => by rw [zz_up_ne (by omega), zz_up_ne (by omega), hz.1 c (by omega) (by omega), hs1.1 c (by omega)], by rw [zz_up_ne (by decide), zz_up_ne (by decide), hz.1 379 (by decide) (by decide), hs1.1 379 (by decide)], by rw [zz_up_ne (by decide), zz_up_ne (by decide), hz.1 380 (by decide) (by decide), hs1.1 380 (by decide)], by rw [zz_up_eq, zz_upn (by decide), zz_up_eq, zz_ups]⟩, MV_addT hV hW (by rw [zz_up_eq, zz_upn (by decide), zz_up_eq, zz_upn (by decide), hz.1 359 (by decide) (by decide), hs1.2 2 (by decide)]) (by rw [zz_up_eq, zz_ups]) (fun c h1 h2 h3 h4 => by rw [zz_up_ne (by omega), zz_up_ne (by omega), hz.1 c h3 h4, hs1.1 c (by omega)]) (by rw [zz_up_ne (by decide), zz_up_ne (by decide), hz.2, zz_ups]) (fun s hs => by rw [zz_up_ne (by decide), zz_up_ne (by decide), hz.2, zz_upn (by omega), hs1.1 366 (by decide)]) (fun j hj => by rw [zz_up_ne (by decide), zz_up_ne (by decide)]; exact ht j (by omega)) (fun x hx => by rw [zz_up_ne (by decide), zz_up_ne (by decide)]; exact hu x hx), rfl⟩)
    · have h43 : k < np := zz_bG_f (by omega) (by omega) h43
      refine Ev.run [(.aload_n 0, 1), (.getfield 31, 3), (.bipush 12, 2), (.aload_n 0, 1), (.getfield 83, 3)] (pc' := 56) (L' := [some (.ref 359), some (.int (nI k))]) (S' := [.int (I2 359 8), .int (nI 12), .ref 367]) rfl (by decide +kernel) rfl ?_
      rw [show I2 359 8 = nI (aM A) from by rw [hz.1 359 (by decide) (by decide), hs1.2 8 (by decide)]; exact hV.1.2.1]
      refine Ev.run [(.imul, 1)] (pc' := 57) (L' := [some (.ref 359), some (.int (nI k))]) (S' := [.int (nI 12 * nI (aM A)), .ref 367]) rfl (by decide +kernel) rfl ?_
      rw [pk_mul 12 (aM A)]
      refine Ev.run [(.iload_n 1, 1), (.iadd, 1)] (pc' := 59) (L' := [some (.ref 359), some (.int (nI k))]) (S' := [.int (nI (12 * (aM A)) + nI k), .ref 367]) rfl (by decide +kernel) rfl ?_
      rw [nI_add (12 * (aM A)) k]
      refine Ev.run [(.aload_n 0, 1), (.getfield 7, 3), (.iload_n 1, 1)] (pc' := 64) (L' := [some (.ref 359), some (.int (nI k))]) (S' := [.int (nI k), .ref 360, .int (nI ((12 * (aM A)) + k)), .ref 367]) rfl (by decide +kernel) rfl ?_
      refine Ev.iald k (by decide +kernel) (rfl) (rfl) (by omega) (by first | decide | omega) ?_
      dsimp only
      rw [show I2 360 k = nI (pd k) from by rw [hz.1 360 (by decide) (by decide), hs1.1 360 (by decide)]; exact hpd k (by omega)]
      refine Ev.iast ((12 * (aM A)) + k) (by decide +kernel) (rfl) (rfl) (by omega) (by first | decide | omega) ?_
      dsimp only
      refine Ev.run [(.iinc 1 1, 3)] (pc' := 69) (L' := [some (.ref 359), some (.int (nI k + 1))]) (S' := []) rfl (by decide +kernel) rfl ?_
      rw [nI_1 k]
      refine Ev.goto (off := (-31)) (tgt := 38) (by decide +kernel) (by decide) ?_
      refine ih (k + 1) _ (by omega) (by omega) ⟨fun c h1 h2 => by rw [zz_up_ne h2]; exact hz.1 c h1 h2, by rw [zz_up_ne (by decide)]; exact hz.2⟩ (fun j hj => ?_) (fun x hx => ?_)
      · by_cases e : j = k
        · subst e; rw [zz_up_eq, zz_ups]
        · rw [zz_up_eq, zz_upn (by omega)]; exact ht j (by omega)
      · rw [zz_up_eq, zz_upn (by omega)]; exact hu x hx

set_option maxRecDepth 100000 in
set_option maxHeartbeats 4000000 in
theorem c_X7_write_k {sc : Nat × (Nat → Int32)} {d : Nat} (I : Nat → Nat → Int32) (J : Nat → Nat → Int64) (A : zA) (hV : MV (zVm I) A) (hW : WF A) (np : Nat) (pd : Nat → Nat) (hn : I 359 0 = nI np) (hpd : ∀ j, j < np → I 360 j = nI (pd j)) (hnp : np ≤ 30) (hpr : ∀ j, j < np → 33 ≤ pd j ∧ pd j ≤ 126) (hM : aM A < 10) (hf : fS np pd = none) : EvM sc (d + 3) 0 0 mX7_write [.ref 359] (zz_SH, I, J) (fun r σ => r = some (.int (nI (aM A))) ∧ ∃ I' : Nat → Nat → Int32, KP I I' ∧ MV (zVm I') (addT A np pd) ∧ σ = (zz_SH, I', J)) := by
  have w1 := hW.1.1
  have w2 := hW.1.2.1
  refine EvM.of (by decide) rfl (Nat.le_of_ble_eq_true rfl) ?_
  show Ev _ _ _ _ _ 0 [some (.ref 359), none] [] (zz_SH, I, J) _
  refine Ev.run [(.aload_n 0, 1), (.getfield 83, 3)] (pc' := 4) (L' := [some (.ref 359), none]) (S' := [.int (I 359 8)]) rfl (by decide +kernel) rfl ?_
  rw [show I 359 8 = nI (aM A) from hV.1.2.1]
  refine Ev.run [(.bipush 10, 2)] (pc' := 6) (L' := [some (.ref 359), none]) (S' := [.int (nI 10), .int (nI (aM A))]) rfl (by decide +kernel) rfl ?_
  refine Ev.icmp_ne (off := 6) (tgt := 12) (by decide +kernel) (by decide) (fun h6 => ?_) (fun h6 => ?_)
  · have h6 : ¬ (aM A) = 10 := zz_bE_f (by omega) (by omega) h6
    refine Ev.run [(.aload_n 0, 1), (.iconst 0, 1)] (pc' := 14) (L' := [some (.ref 359), none]) (S' := [.int (nI 0), .ref 359]) rfl (by decide +kernel) rfl ?_
    refine Ev.callV0 mX7_faultOf [.int (nI 0)] [] _ rfl lk_RX7_96 (by decide +kernel) (rfl) rfl rfl rfl (Nat.le_of_ble_eq_true rfl) (c_X7_faultOf_0 I J np pd hn hpd hnp hpr) ?_
    rintro _ _ ⟨rfl, I1, hs1, rfl⟩
    rw [hf]
    show Ev _ _ _ _ _ 17 [some (.ref 359), none] [.int ((-6))] (zz_SH, I1, J) _
    refine Ev.if_lt (off := 6) (tgt := 23) (by decide +kernel) (by decide) (fun h17 => ?_) (fun h17 => absurd h17 (by decide))
    refine Ev.run [(.aload_n 0, 1), (.getfield 28, 3), (.aload_n 0, 1), (.getfield 83, 3)] (pc' := 31) (L' := [some (.ref 359), none]) (S' := [.int (I1 359 8), .ref 366]) rfl (by decide +kernel) rfl ?_
    rw [show I1 359 8 = nI (aM A) from by rw [hs1.2 8 (by decide)]; exact hV.1.2.1]
    refine Ev.run [(.aload_n 0, 1), (.getfield 86, 3)] (pc' := 35) (L' := [some (.ref 359), none]) (S' := [.int (I1 359 0), .int (nI (aM A)), .ref 366]) rfl (by decide +kernel) rfl ?_
    rw [show I1 359 0 = nI np from by rw [hs1.2 0 (by decide)]; exact hn]
    refine Ev.iast (aM A) (by decide +kernel) (rfl) (rfl) (by omega) (by first | decide | omega) ?_
    dsimp only
    refine Ev.run [(.iconst 0, 1), (.istore_n 1, 1)] (pc' := 38) (L' := [some (.ref 359), some (.int (nI 0))]) (S' := []) rfl (by decide +kernel) rfl ?_
    exact l_X7_write I J A hV hW np pd hn hpd hnp hpr hM hf I1 hs1 (np + 1) 0 _ (by omega) (by omega) ⟨fun c h1 h2 => zz_up_ne h1, zz_up_eq _ _ _ _⟩ (fun j hj => absurd hj (Nat.not_lt_zero j)) (fun x hx => by rw [zz_up_ne (by decide), hs1.1 367 (by decide)])
  · have h6 : (aM A) = 10 := zz_bE_t (by omega) (by omega) h6
    exfalso; omega
end
section
/-! ===== the model: keep ===== -/

set_option maxRecDepth 100000 in
set_option maxHeartbeats 4000000 in
theorem c_X7_keep_u {sc : Nat × (Nat → Int32)} {d : Nat} (I : Nat → Nat → Int32) (J : Nat → Nat → Int64) (A : zA) (hV : MV (zVm I) A) (hW : WF A) (x : Int32) (hx1 : ¬ x = (-1)) (hx : ¬ zz_ix x (aN A)) : EvM sc (d + 3) 0 0 mX7_keep [.ref 359, .int x] (zz_SH, I, J) (zz_is (.int (-1)) (zz_SH, I, J)) := by
  have w1 := hW.1.1
  have w2 := hW.1.2.1
  refine EvM.of (by decide) rfl (Nat.le_of_ble_eq_true rfl) ?_
  show Ev _ _ _ _ _ 0 [some (.ref 359), some (.int x), none] [] (zz_SH, I, J) _
  refine Ev.run [(.iload_n 1, 1), (.iconst (-1), 1)] (pc' := 2) (L' := [some (.ref 359), some (.int x), none]) (S' := [.int ((-1)), .int x]) rfl (by decide +kernel) rfl ?_
  refine Ev.icmp_eq (off := 13) (tgt := 15) (by decide +kernel) (by decide) (fun h2 => absurd h2 hx1) (fun h2 => ?_)
  refine Ev.run [(.aload_n 0, 1), (.iload_n 1, 1)] (pc' := 7) (L' := [some (.ref 359), some (.int x), none]) (S' := [.int x, .ref 359]) rfl (by decide +kernel) rfl ?_
  refine Ev.callV0 mX7_isPair [.int x] [] _ rfl lk_RX7_100 (by decide +kernel) (rfl) rfl rfl rfl (Nat.le_of_ble_eq_true rfl) (c_X7_isPair I J (aN A) x hV.1.1 (by omega)) ?_
  rintro _ _ ⟨rfl, ⟨rfl, h7⟩ | ⟨rfl, h7⟩⟩
  · exact absurd h7 hx
  · show Ev _ _ _ _ _ 10 [some (.ref 359), some (.int x), none] [.int (nI 0)] (zz_SH, I, J) _
    refine Ev.if_ne (off := 5) (tgt := 15) (by decide +kernel) (by decide) (fun h10 => absurd h10 (by decide)) (fun h10 => ?_)
    refine Ev.run [(.iconst (-1), 1)] (pc' := 14) (L' := [some (.ref 359), some (.int x), none]) (S' := [.int ((-1))]) rfl (by decide +kernel) rfl ?_
    exact Ev.iret rfl (by decide +kernel) (⟨rfl, rfl⟩)

set_option maxRecDepth 100000 in
set_option maxHeartbeats 4000000 in
theorem c_X7_keep_fn {sc : Nat × (Nat → Int32)} {d : Nat} (I : Nat → Nat → Int32) (J : Nat → Nat → Int64) (A : zA) (hV : MV (zVm I) A) (hW : WF A) (hN : aN A = 12) : EvM sc (d + 3) 0 0 mX7_keep [.ref 359, .int ((-1))] (zz_SH, I, J) (zz_is (.int (-4)) (zz_SH, I, J)) := by
  have w1 := hW.1.1
  have w2 := hW.1.2.1
  refine EvM.of (by decide) rfl (Nat.le_of_ble_eq_true rfl) ?_
  show Ev _ _ _ _ _ 0 [some (.ref 359), some (.int ((-1))), none] [] (zz_SH, I, J) _
  refine Ev.run [(.iload_n 1, 1), (.iconst (-1), 1)] (pc' := 2) (L' := [some (.ref 359), some (.int ((-1))), none]) (S' := [.int ((-1)), .int ((-1))]) rfl (by decide +kernel) rfl ?_
  refine Ev.icmp_eq (off := 13) (tgt := 15) (by decide +kernel) (by decide) (fun h2 => ?_) (fun h2 => absurd h2 (fun q => q rfl))
  refine Ev.run [(.aload_n 0, 1), (.getfield 75, 3)] (pc' := 19) (L' := [some (.ref 359), some (.int ((-1))), none]) (S' := [.int (I 359 2)]) rfl (by decide +kernel) rfl ?_
  rw [show I 359 2 = nI (aN A) from hV.1.1]
  refine Ev.run [(.bipush 12, 2)] (pc' := 21) (L' := [some (.ref 359), some (.int ((-1))), none]) (S' := [.int (nI 12), .int (nI (aN A))]) rfl (by decide +kernel) rfl ?_
  refine Ev.icmp_ne (off := 6) (tgt := 27) (by decide +kernel) (by decide) (fun h21 => ?_) (fun h21 => ?_)
  · have h21 : ¬ (aN A) = 12 := zz_bE_f (by omega) (by omega) h21
    exfalso; omega
  · have h21 : (aN A) = 12 := zz_bE_t (by omega) (by omega) h21
    refine Ev.run [(.bipush (-4), 2)] (pc' := 26) (L' := [some (.ref 359), some (.int ((-1))), none]) (S' := [.int ((-4))]) rfl (by decide +kernel) rfl ?_
    exact Ev.iret rfl (by decide +kernel) (⟨rfl, rfl⟩)

set_option maxRecDepth 100000 in
set_option maxHeartbeats 4000000 in
theorem c_X7_keep_nn {sc : Nat × (Nat → Int32)} {d : Nat} (I : Nat → Nat → Int32) (J : Nat → Nat → Int64) (A : zA) (hV : MV (zVm I) A) (hW : WF A) (np : Nat) (pd : Nat → Nat) (hn : I 359 0 = nI np) (hpd : ∀ j, j < np → I 360 j = nI (pd j)) (hnp : np ≤ 30) (hpr : ∀ j, j < np → 33 ≤ pd j ∧ pd j ≤ 126) (hN : aN A < 12) (x : Nat) (hf : fP np pd = some x) (hx : x < 1000) : EvM sc (d + 3) 0 0 mX7_keep [.ref 359, .int ((-1))] (zz_SH, I, J) (fun r σ => r = some (.int (-5)) ∧ ∃ I' : Nat → Nat → Int32, zSc I I' ∧ σ = (zz_SH, I', J)) := by
  have w1 := hW.1.1
  have w2 := hW.1.2.1
  refine EvM.of (by decide) rfl (Nat.le_of_ble_eq_true rfl) ?_
  show Ev _ _ _ _ _ 0 [some (.ref 359), some (.int ((-1))), none] [] (zz_SH, I, J) _
  refine Ev.run [(.iload_n 1, 1), (.iconst (-1), 1)] (pc' := 2) (L' := [some (.ref 359), some (.int ((-1))), none]) (S' := [.int ((-1)), .int ((-1))]) rfl (by decide +kernel) rfl ?_
  refine Ev.icmp_eq (off := 13) (tgt := 15) (by decide +kernel) (by decide) (fun h2 => ?_) (fun h2 => absurd h2 (fun q => q rfl))
  refine Ev.run [(.aload_n 0, 1), (.getfield 75, 3)] (pc' := 19) (L' := [some (.ref 359), some (.int ((-1))), none]) (S' := [.int (I 359 2)]) rfl (by decide +kernel) rfl ?_
  rw [show I 359 2 = nI (aN A) from hV.1.1]
  refine Ev.run [(.bipush 12, 2)] (pc' := 21) (L' := [some (.ref 359), some (.int ((-1))), none]) (S' := [.int (nI 12), .int (nI (aN A))]) rfl (by decide +kernel) rfl ?_
  refine Ev.icmp_ne (off := 6) (tgt := 27) (by decide +kernel) (by decide) (fun h21 => ?_) (fun h21 => ?_)
  · have h21 : ¬ (aN A) = 12 := zz_bE_f (by omega) (by omega) h21
    refine Ev.run [(.aload_n 0, 1), (.iconst 1, 1)] (pc' := 29) (L' := [some (.ref 359), some (.int ((-1))), none]) (S' := [.int (nI 1), .ref 359]) rfl (by decide +kernel) rfl ?_
    refine Ev.callV0 mX7_faultOf [.int (nI 1)] [] _ rfl lk_RX7_96 (by decide +kernel) (rfl) rfl rfl rfl (Nat.le_of_ble_eq_true rfl) (c_X7_faultOf_1 I J np pd hn hpd hnp hpr) ?_
    rintro _ _ ⟨rfl, I1, hs1, hh1, rfl⟩
    rw [hf]
    show Ev _ _ _ _ _ 32 [some (.ref 359), some (.int ((-1))), none] [.int (nI x)] (zz_SH, I1, J) _
    refine Ev.if_lt (off := 6) (tgt := 38) (by decide +kernel) (by decide) (fun h32 => ?_) (fun h32 => ?_)
    · have h32 : x < 0 := zz_bL_t (by omega) (by omega) h32
      exfalso; omega
    · have h32 : x ≥ 0 := zz_bL_f (by omega) (by omega) h32
      refine Ev.run [(.bipush (-5), 2)] (pc' := 37) (L' := [some (.ref 359), some (.int ((-1))), none]) (S' := [.int ((-5))]) rfl (by decide +kernel) rfl ?_
      exact Ev.iret rfl (by decide +kernel) (⟨rfl, I1, hs1.sc, rfl⟩)
  · have h21 : (aN A) = 12 := zz_bE_t (by omega) (by omega) h21
    exfalso; omega

set_option maxRecDepth 100000 in
set_option maxHeartbeats 4000000 in
theorem l_X7_k2n {sc : Nat × (Nat → Int32)} {d : Nat} (I : Nat → Nat → Int32) (J : Nat → Nat → Int64) (A : zA) (hV : MV (zVm I) A) (hW : WF A) (np : Nat) (pd : Nat → Nat) (hn : I 359 0 = nI np) (hpd : ∀ j, j < np → I 360 j = nI (pd j)) (hnp : np ≤ 30) (hpr : ∀ j, j < np → 33 ≤ pd j ∧ pd j ≤ 126) (hN : aN A < 12) (e : Nat) (h_e1 : 1 ≤ e) (h_e2 : e ≤ 12) (h_e3 : e + 1 < np) (h_e4 : np ≤ e + 1 + 12) (I1 : Nat → Nat → Int32) (hs1 : zS7 I I1) (hh : I1 359 15 = nI (e + 1)) : ∀ (μ : Nat) (i : Nat) (I2 : Nat → Nat → Int32), np - (e + 1 + i) < μ → (e + 1 + i ≤ np) → ((∀ c, (c < 361 ∨ 366 ≤ c) → I2 c = I1 c) ∧ I2 361 = I1 361 ∧ I2 362 = upd (I1 362) (aN A) (nI e) ∧ I2 363 = upd (I1 363) (aN A) (nI (np - (e + 1)))) → (∀ j, j < e → I2 364 (12 * aN A + j) = nI (pd j)) → (∀ x, x < 12 * aN A → I2 364 x = I 364 x) → (∀ j, j < i → I2 365 (12 * aN A + j) = nI (pd (e + 1 + j))) → (∀ x, x < 12 * aN A → I2 365 x = I 365 x) →  Ev sc (d + 3) 0 0 mX7_keep 114 [some (.ref 359), some (.int ((-1))), some (.int (nI (e + 1 + i)))] [] (zz_SH, I2, J) (fun r σ => r = some (.int (nI (aN A))) ∧ ∃ I' : Nat → Nat → Int32, KP I I' ∧ MV (zVm I') (addP A np pd e none) ∧ σ = (zz_SH, I', J)) := by
  intro μ
  induction μ with
  | zero => intro i I2 hμ; exact absurd hμ (Nat.not_lt_zero _)
  | succ μ ih =>
    intro i I2 hμ hi hz h4 h4' ht hu
    have w1 := hW.1.1
    have w2 := hW.1.2.1
    refine Ev.run [(.iload_n 2, 1), (.aload_n 0, 1), (.getfield 86, 3)] (pc' := 119) (L' := [some (.ref 359), some (.int ((-1))), some (.int (nI (e + 1 + i)))]) (S' := [.int (I2 359 0), .int (nI (e + 1 + i))]) rfl (by decide +kernel) rfl ?_
    rw [show I2 359 0 = nI (np) from by rw [hz.1 359 (by decide), hs1.2 0 (by decide)]; exact hn]
    refine Ev.icmp_ge (off := 34) (tgt := 153) (by decide +kernel) (by decide) (fun h119 => ?_) (fun h119 => ?_)
    · have h119 : (e + 1 + i) ≥ np := zz_bG_t (by omega) (by omega) h119
      refine Ev.run [(.aload_n 0, 1), (.getfield 13, 3), (.aload_n 0, 1), (.getfield 75, 3)] (pc' := 161) (L' := [some (.ref 359), some (.int ((-1))), some (.int (nI (e + 1 + i)))]) (S' := [.int (I2 359 2), .ref 361]) rfl (by decide +kernel) rfl ?_
      rw [show I2 359 2 = nI (aN A) from by rw [hz.1 359 (by decide), hs1.2 2 (by decide)]; exact hV.1.1]
      refine Ev.run [(.iload_n 1, 1)] (pc' := 162) (L' := [some (.ref 359), some (.int ((-1))), some (.int (nI (e + 1 + i)))]) (S' := [.int ((-1)), .int (nI (aN A)), .ref 361]) rfl (by decide +kernel) rfl ?_
      refine Ev.if_ge (off := 8) (tgt := 170) (by decide +kernel) (by decide) (fun h162 => absurd h162 (by decide)) (fun h162 => ?_)
      refine Ev.run [(.bipush (-6), 2)] (pc' := 167) (L' := [some (.ref 359), some (.int ((-1))), some (.int (nI (e + 1 + i)))]) (S' := [.int ((-6)), .int (nI (aN A)), .ref 361]) rfl (by decide +kernel) rfl ?_
      refine Ev.goto (off := 4) (tgt := 171) (by decide +kernel) (by decide) ?_
      refine Ev.iast (aN A) (by decide +kernel) (rfl) (rfl) (by omega) (by first | decide | omega) ?_
      dsimp only
      refine Ev.run [(.aload_n 0, 1), (.iconst 0, 1)] (pc' := 174) (L' := [some (.ref 359), some (.int ((-1))), some (.int (nI (e + 1 + i)))]) (S' := [.int (nI 0), .ref 359]) rfl (by decide +kernel) rfl ?_
      refine Ev.putf (idx := 86) rfl rfl rfl (by decide +kernel) (rfl) rfl ?_
      dsimp only
      refine Ev.run [(.aload_n 0, 1), (.dup, 1), (.getfield 75, 3)] (pc' := 182) (L' := [some (.ref 359), some (.int ((-1))), some (.int (nI (e + 1 + i)))]) (S' := [.int ((zz_up (zz_up I2 361 (aN A) ((-6))) 359 0 (nI 0)) 359 2), .ref 359]) rfl (by decide +kernel) rfl ?_
      rw [show (zz_up (zz_up I2 361 (aN A) ((-6))) 359 0 (nI 0)) 359 2 = nI (aN A) from by rw [zz_up_eq, zz_upn (by decide), zz_up_ne (by decide), hz.1 359 (by decide), hs1.2 2 (by decide)]; exact hV.1.1]
      refine Ev.run [(.iconst 1, 1), (.iadd, 1)] (pc' := 184) (L' := [some (.ref 359), some (.int ((-1))), some (.int (nI (e + 1 + i)))]) (S' := [.int (nI (aN A) + nI 1), .ref 359]) rfl (by decide +kernel) rfl ?_
      rw [nI_add (aN A) 1]
      refine Ev.putf (idx := 75) rfl rfl rfl (by decide +kernel) (rfl) rfl ?_
      dsimp only
      refine Ev.run [(.aload_n 0, 1), (.getfield 75, 3)] (pc' := 191) (L' := [some (.ref 359), some (.int ((-1))), some (.int (nI (e + 1 + i)))]) (S' := [.int ((zz_up (zz_up (zz_up I2 361 (aN A) ((-6))) 359 0 (nI 0)) 359 2 (nI ((aN A) + 1))) 359 2)]) rfl (by decide +kernel) rfl ?_
      rw [show (zz_up (zz_up (zz_up I2 361 (aN A) ((-6))) 359 0 (nI 0)) 359 2 (nI ((aN A) + 1))) 359 2 = nI (aN A + 1) from by rw [zz_up_eq, zz_ups]]
      refine Ev.run [(.iconst 1, 1), (.isub, 1)] (pc' := 193) (L' := [some (.ref 359), some (.int ((-1))), some (.int (nI (e + 1 + i)))]) (S' := [.int (nI (aN A + 1) - nI 1)]) rfl (by decide +kernel) rfl ?_
      rw [show nI (aN A + 1) - nI 1 = nI (aN A) from zz_sub (by omega)]
      exact Ev.iret rfl (by decide +kernel) (⟨rfl, _, ⟨fun c hc => by rw [zz_up_ne (by omega), zz_up_ne (by omega), zz_up_ne (by omega), hz.1 c (by omega), hs1.1 c (by omega)], by rw [zz_up_ne (by decide), zz_up_ne (by decide), zz_up_ne (by decide), hz.1 379 (by decide), hs1.1 379 (by decide)], by rw [zz_up_ne (by decide), zz_up_ne (by decide), zz_up_ne (by decide), hz.1 380 (by decide), hs1.1 380 (by decide)], by rw [zz_up_eq, zz_upn (by decide), zz_up_eq, zz_ups]⟩, MV_addP hV hW (by rw [zz_up_eq, zz_upn (by decide), zz_up_eq, zz_upn (by decide), zz_up_ne (by decide), hz.1 359 (by decide), hs1.2 8 (by decide)]) (by rw [zz_up_eq, zz_ups]) (fun c h1 h2 => by rw [zz_up_ne (by omega), zz_up_ne (by omega), zz_up_ne (by omega), hz.1 c (by omega), hs1.1 c (by omega)]) ⟨by rw [zz_up_ne (by decide), zz_up_ne (by decide), zz_up_eq, zz_ups]; rfl, by rw [zz_up_ne (by decide), zz_up_ne (by decide), zz_up_ne (by decide), hz.2.2.1, zz_ups], by rw [zz_up_ne (by decide), zz_up_ne (by decide), zz_up_ne (by decide), hz.2.2.2, zz_ups]⟩ (fun p hp => ⟨by rw [zz_up_ne (by decide), zz_up_ne (by decide), zz_up_eq, zz_upn (by omega), hz.2.1, hs1.1 361 (by decide)], by rw [zz_up_ne (by decide), zz_up_ne (by decide), zz_up_ne (by decide), hz.2.2.1, zz_upn (by omega), hs1.1 362 (by decide)], by rw [zz_up_ne (by decide), zz_up_ne (by decide), zz_up_ne (by decide), hz.2.2.2, zz_upn (by omega), hs1.1 363 (by decide)]⟩) (fun j hj => by rw [zz_up_ne (by decide), zz_up_ne (by decide), zz_up_ne (by decide)]; exact h4 j hj) (fun j hj => by rw [zz_up_ne (by decide), zz_up_ne (by decide), zz_up_ne (by decide)]; exact ht j (by omega)) (fun x hx => ⟨by rw [zz_up_ne (by decide), zz_up_ne (by decide), zz_up_ne (by decide)]; exact h4' x hx, by rw [zz_up_ne (by decide), zz_up_ne (by decide), zz_up_ne (by decide)]; exact hu x hx⟩), rfl⟩)
    · have h119 : (e + 1 + i) < np := zz_bG_f (by omega) (by omega) h119
      refine Ev.run [(.aload_n 0, 1), (.getfield 25, 3), (.bipush 12, 2), (.aload_n 0, 1), (.getfield 75, 3)] (pc' := 132) (L' := [some (.ref 359), some (.int ((-1))), some (.int (nI (e + 1 + i)))]) (S' := [.int (I2 359 2), .int (nI 12), .ref 365]) rfl (by decide +kernel) rfl ?_
      rw [show I2 359 2 = nI (aN A) from by rw [hz.1 359 (by decide), hs1.2 2 (by decide)]; exact hV.1.1]
      refine Ev.run [(.imul, 1)] (pc' := 133) (L' := [some (.ref 359), some (.int ((-1))), some (.int (nI (e + 1 + i)))]) (S' := [.int (nI 12 * nI (aN A)), .ref 365]) rfl (by decide +kernel) rfl ?_
      rw [pk_mul 12 (aN A)]
      refine Ev.run [(.iload_n 2, 1), (.iadd, 1)] (pc' := 135) (L' := [some (.ref 359), some (.int ((-1))), some (.int (nI (e + 1 + i)))]) (S' := [.int (nI (12 * (aN A)) + nI (e + 1 + i)), .ref 365]) rfl (by decide +kernel) rfl ?_
      rw [nI_add (12 * (aN A)) (e + 1 + i)]
      refine Ev.run [(.aload_n 0, 1), (.getfield 89, 3)] (pc' := 139) (L' := [some (.ref 359), some (.int ((-1))), some (.int (nI (e + 1 + i)))]) (S' := [.int (I2 359 15), .int (nI ((12 * (aN A)) + (e + 1 + i))), .ref 365]) rfl (by decide +kernel) rfl ?_
      rw [show I2 359 15 = nI (e + 1) from by rw [hz.1 359 (by decide)]; exact hh]
      refine Ev.run [(.isub, 1)] (pc' := 140) (L' := [some (.ref 359), some (.int ((-1))), some (.int (nI (e + 1 + i)))]) (S' := [.int (nI ((12 * (aN A)) + (e + 1 + i)) - nI (e + 1)), .ref 365]) rfl (by decide +kernel) rfl ?_
      rw [show nI ((12 * (aN A)) + (e + 1 + i)) - nI (e + 1) = nI (12 * aN A + i) from zz_sub (by omega)]
      refine Ev.run [(.aload_n 0, 1), (.getfield 7, 3), (.iload_n 2, 1)] (pc' := 145) (L' := [some (.ref 359), some (.int ((-1))), some (.int (nI (e + 1 + i)))]) (S' := [.int (nI (e + 1 + i)), .ref 360, .int (nI (12 * aN A + i)), .ref 365]) rfl (by decide +kernel) rfl ?_
      refine Ev.iald (e + 1 + i) (by decide +kernel) (rfl) (rfl) (by omega) (by first | decide | omega) ?_
      dsimp only
      rw [show I2 360 (e + 1 + i) = nI (pd (e + 1 + i)) from by rw [hz.1 360 (by decide), hs1.1 360 (by decide)]; exact hpd _ (by omega)]
      refine Ev.iast (12 * aN A + i) (by decide +kernel) (rfl) (rfl) (by omega) (by first | decide | omega) ?_
      dsimp only
      refine Ev.run [(.iinc 2 1, 3)] (pc' := 150) (L' := [some (.ref 359), some (.int ((-1))), some (.int (nI (e + 1 + i) + 1))]) (S' := []) rfl (by decide +kernel) rfl ?_
      rw [nI_1 (e + 1 + i)]
      refine Ev.goto (off := (-36)) (tgt := 114) (by decide +kernel) (by decide) ?_
      rw [show e + 1 + i + 1 = e + 1 + (i + 1) by omega]
      refine ih (i + 1) _ (by omega) (by omega) ⟨fun c h1 => by rw [zz_up_ne (by omega)]; exact hz.1 c h1, by rw [zz_up_ne (by decide)]; exact hz.2.1, by rw [zz_up_ne (by decide)]; exact hz.2.2.1, by rw [zz_up_ne (by decide)]; exact hz.2.2.2⟩ (fun j hj => by rw [zz_up_ne (by decide)]; exact h4 j hj) (fun x hx => by rw [zz_up_ne (by decide)]; exact h4' x hx) (fun j hj => ?_) (fun x hx => ?_)
      · by_cases q : j = i
        · subst q; rw [zz_up_eq, zz_ups]
        · rw [zz_up_eq, zz_upn (by omega)]; exact ht j (by omega)
      · rw [zz_up_eq, zz_upn (by omega)]; exact hu x hx

set_option maxRecDepth 100000 in
set_option maxHeartbeats 4000000 in
theorem l_X7_k1n {sc : Nat × (Nat → Int32)} {d : Nat} (I : Nat → Nat → Int32) (J : Nat → Nat → Int64) (A : zA) (hV : MV (zVm I) A) (hW : WF A) (np : Nat) (pd : Nat → Nat) (hn : I 359 0 = nI np) (hpd : ∀ j, j < np → I 360 j = nI (pd j)) (hnp : np ≤ 30) (hpr : ∀ j, j < np → 33 ≤ pd j ∧ pd j ≤ 126) (hN : aN A < 12) (e : Nat) (h_e1 : 1 ≤ e) (h_e2 : e ≤ 12) (h_e3 : e + 1 < np) (h_e4 : np ≤ e + 1 + 12) (I1 : Nat → Nat → Int32) (hs1 : zS7 I I1) (hh : I1 359 15 = nI (e + 1)) : ∀ (μ : Nat) (k : Nat) (I2 : Nat → Nat → Int32), e - k < μ → (k ≤ e) → ((∀ c, (c < 361 ∨ 366 ≤ c) → I2 c = I1 c) ∧ I2 361 = I1 361 ∧ I2 362 = upd (I1 362) (aN A) (nI e) ∧ I2 363 = upd (I1 363) (aN A) (nI (np - (e + 1)))) → (∀ j, j < k → I2 364 (12 * aN A + j) = nI (pd j)) → (∀ x, x < 12 * aN A → I2 364 x = I 364 x) → (∀ x, x < 12 * aN A → I2 365 x = I 365 x) →  Ev sc (d + 3) 0 0 mX7_keep 73 [some (.ref 359), some (.int ((-1))), some (.int (nI k))] [] (zz_SH, I2, J) (fun r σ => r = some (.int (nI (aN A))) ∧ ∃ I' : Nat → Nat → Int32, KP I I' ∧ MV (zVm I') (addP A np pd e none) ∧ σ = (zz_SH, I', J)) := by
  intro μ
  induction μ with
  | zero => intro k I2 hμ; exact absurd hμ (Nat.not_lt_zero _)
  | succ μ ih =>
    intro k I2 hμ hk hz ht hu h5
    have w1 := hW.1.1
    have w2 := hW.1.2.1
    refine Ev.run [(.iload_n 2, 1), (.aload_n 0, 1), (.getfield 89, 3)] (pc' := 78) (L' := [some (.ref 359), some (.int ((-1))), some (.int (nI k))]) (S' := [.int (I2 359 15), .int (nI k)]) rfl (by decide +kernel) rfl ?_
    rw [show I2 359 15 = nI (e + 1) from by rw [hz.1 359 (by decide)]; exact hh]
    refine Ev.run [(.iconst 1, 1), (.isub, 1)] (pc' := 80) (L' := [some (.ref 359), some (.int ((-1))), some (.int (nI k))]) (S' := [.int (nI (e + 1) - nI 1), .int (nI k)]) rfl (by decide +kernel) rfl ?_
    rw [show nI (e + 1) - nI 1 = nI e from zz_sub (by omega)]
    refine Ev.icmp_ge (off := 29) (tgt := 109) (by decide +kernel) (by decide) (fun h80 => ?_) (fun h80 => ?_)
    · have h80 : k ≥ e := zz_bG_t (by omega) (by omega) h80
      refine Ev.run [(.aload_n 0, 1), (.getfield 89, 3)] (pc' := 113) (L' := [some (.ref 359), some (.int ((-1))), some (.int (nI k))]) (S' := [.int (I2 359 15)]) rfl (by decide +kernel) rfl ?_
      rw [show I2 359 15 = nI (e + 1) from by rw [hz.1 359 (by decide)]; exact hh]
      refine Ev.run [(.istore_n 2, 1)] (pc' := 114) (L' := [some (.ref 359), some (.int ((-1))), some (.int (nI (e + 1)))]) (S' := []) rfl (by decide +kernel) rfl ?_
      exact l_X7_k2n I J A hV hW np pd hn hpd hnp hpr hN e h_e1 h_e2 h_e3 h_e4 I1 hs1 hh (np + 1) 0 I2 (by omega) (by omega) hz (fun j hj => ht j (by omega)) hu (fun j hj => absurd hj (Nat.not_lt_zero j)) h5
    · have h80 : k < e := zz_bG_f (by omega) (by omega) h80
      refine Ev.run [(.aload_n 0, 1), (.getfield 22, 3), (.bipush 12, 2), (.aload_n 0, 1), (.getfield 75, 3)] (pc' := 93) (L' := [some (.ref 359), some (.int ((-1))), some (.int (nI k))]) (S' := [.int (I2 359 2), .int (nI 12), .ref 364]) rfl (by decide +kernel) rfl ?_
      rw [show I2 359 2 = nI (aN A) from by rw [hz.1 359 (by decide), hs1.2 2 (by decide)]; exact hV.1.1]
      refine Ev.run [(.imul, 1)] (pc' := 94) (L' := [some (.ref 359), some (.int ((-1))), some (.int (nI k))]) (S' := [.int (nI 12 * nI (aN A)), .ref 364]) rfl (by decide +kernel) rfl ?_
      rw [pk_mul 12 (aN A)]
      refine Ev.run [(.iload_n 2, 1), (.iadd, 1)] (pc' := 96) (L' := [some (.ref 359), some (.int ((-1))), some (.int (nI k))]) (S' := [.int (nI (12 * (aN A)) + nI k), .ref 364]) rfl (by decide +kernel) rfl ?_
      rw [nI_add (12 * (aN A)) k]
      refine Ev.run [(.aload_n 0, 1), (.getfield 7, 3), (.iload_n 2, 1)] (pc' := 101) (L' := [some (.ref 359), some (.int ((-1))), some (.int (nI k))]) (S' := [.int (nI k), .ref 360, .int (nI ((12 * (aN A)) + k)), .ref 364]) rfl (by decide +kernel) rfl ?_
      refine Ev.iald k (by decide +kernel) (rfl) (rfl) (by omega) (by first | decide | omega) ?_
      dsimp only
      rw [show I2 360 k = nI (pd k) from by rw [hz.1 360 (by decide), hs1.1 360 (by decide)]; exact hpd _ (by omega)]
      refine Ev.iast ((12 * (aN A)) + k) (by decide +kernel) (rfl) (rfl) (by omega) (by first | decide | omega) ?_
      dsimp only
      refine Ev.run [(.iinc 2 1, 3)] (pc' := 106) (L' := [some (.ref 359), some (.int ((-1))), some (.int (nI k + 1))]) (S' := []) rfl (by decide +kernel) rfl ?_
      rw [nI_1 k]
      refine Ev.goto (off := (-33)) (tgt := 73) (by decide +kernel) (by decide) ?_
      refine ih (k + 1) _ (by omega) (by omega) ⟨fun c h1 => by rw [zz_up_ne (by omega)]; exact hz.1 c h1, by rw [zz_up_ne (by decide)]; exact hz.2.1, by rw [zz_up_ne (by decide)]; exact hz.2.2.1, by rw [zz_up_ne (by decide)]; exact hz.2.2.2⟩ (fun j hj => ?_) (fun x hx => ?_) (fun x hx => by rw [zz_up_ne (by decide)]; exact h5 x hx)
      · by_cases q : j = k
        · subst q; rw [zz_up_eq, zz_ups]
        · rw [zz_up_eq, zz_upn (by omega)]; exact ht j (by omega)
      · rw [zz_up_eq, zz_upn (by omega)]; exact hu x hx

set_option maxRecDepth 100000 in
set_option maxHeartbeats 4000000 in
theorem c_X7_keep_kn {sc : Nat × (Nat → Int32)} {d : Nat} (I : Nat → Nat → Int32) (J : Nat → Nat → Int64) (A : zA) (hV : MV (zVm I) A) (hW : WF A) (np : Nat) (pd : Nat → Nat) (hn : I 359 0 = nI np) (hpd : ∀ j, j < np → I 360 j = nI (pd j)) (hnp : np ≤ 30) (hpr : ∀ j, j < np → 33 ≤ pd j ∧ pd j ≤ 126) (hN : aN A < 12) (hf : fP np pd = none) (e : Nat) (he : E1 np pd = e) : EvM sc (d + 3) 0 0 mX7_keep [.ref 359, .int ((-1))] (zz_SH, I, J) (fun r σ => r = some (.int (nI (aN A))) ∧ ∃ I' : Nat → Nat → Int32, KP I I' ∧ MV (zVm I') (addP A np pd e none) ∧ σ = (zz_SH, I', J)) := by
  have w1 := hW.1.1
  have w2 := hW.1.2.1
  have g1 := fP_none hf
  refine EvM.of (by decide) rfl (Nat.le_of_ble_eq_true rfl) ?_
  show Ev _ _ _ _ _ 0 [some (.ref 359), some (.int ((-1))), none] [] (zz_SH, I, J) _
  refine Ev.run [(.iload_n 1, 1), (.iconst (-1), 1)] (pc' := 2) (L' := [some (.ref 359), some (.int ((-1))), none]) (S' := [.int ((-1)), .int ((-1))]) rfl (by decide +kernel) rfl ?_
  refine Ev.icmp_eq (off := 13) (tgt := 15) (by decide +kernel) (by decide) (fun h2 => ?_) (fun h2 => absurd h2 (fun q => q rfl))
  refine Ev.run [(.aload_n 0, 1), (.getfield 75, 3)] (pc' := 19) (L' := [some (.ref 359), some (.int ((-1))), none]) (S' := [.int (I 359 2)]) rfl (by decide +kernel) rfl ?_
  rw [show I 359 2 = nI (aN A) from hV.1.1]
  refine Ev.run [(.bipush 12, 2)] (pc' := 21) (L' := [some (.ref 359), some (.int ((-1))), none]) (S' := [.int (nI 12), .int (nI (aN A))]) rfl (by decide +kernel) rfl ?_
  refine Ev.icmp_ne (off := 6) (tgt := 27) (by decide +kernel) (by decide) (fun h21 => ?_) (fun h21 => ?_)
  · have h21 : ¬ (aN A) = 12 := zz_bE_f (by omega) (by omega) h21
    refine Ev.run [(.aload_n 0, 1), (.iconst 1, 1)] (pc' := 29) (L' := [some (.ref 359), some (.int ((-1))), none]) (S' := [.int (nI 1), .ref 359]) rfl (by decide +kernel) rfl ?_
    refine Ev.callV0 mX7_faultOf [.int (nI 1)] [] _ rfl lk_RX7_96 (by decide +kernel) (rfl) rfl rfl rfl (Nat.le_of_ble_eq_true rfl) (c_X7_faultOf_1 I J np pd hn hpd hnp hpr) ?_
    rintro _ _ ⟨rfl, I1, hs1, hh1, rfl⟩
    rw [hf]
    have hh := hh1 hf
    rw [he] at hh
    show Ev _ _ _ _ _ 32 [some (.ref 359), some (.int ((-1))), none] [.int ((-6))] (zz_SH, I1, J) _
    refine Ev.if_lt (off := 6) (tgt := 38) (by decide +kernel) (by decide) (fun h32 => ?_) (fun h32 => absurd h32 (by decide))
    refine Ev.run [(.aload_n 0, 1), (.getfield 16, 3), (.aload_n 0, 1), (.getfield 75, 3)] (pc' := 46) (L' := [some (.ref 359), some (.int ((-1))), none]) (S' := [.int (I1 359 2), .ref 362]) rfl (by decide +kernel) rfl ?_
    rw [show (I1) 359 2 = nI (aN A) from by rw [hs1.2 2 (by decide)]; exact hV.1.1]
    refine Ev.run [(.aload_n 0, 1), (.getfield 89, 3)] (pc' := 50) (L' := [some (.ref 359), some (.int ((-1))), none]) (S' := [.int (I1 359 15), .int (nI (aN A)), .ref 362]) rfl (by decide +kernel) rfl ?_
    rw [show (I1) 359 15 = nI (e + 1) from by exact hh]
    refine Ev.run [(.iconst 1, 1), (.isub, 1)] (pc' := 52) (L' := [some (.ref 359), some (.int ((-1))), none]) (S' := [.int (nI (e + 1) - nI 1), .int (nI (aN A)), .ref 362]) rfl (by decide +kernel) rfl ?_
    rw [show nI (e + 1) - nI 1 = nI e from zz_sub (by omega)]
    refine Ev.iast (aN A) (by decide +kernel) (rfl) (rfl) (by omega) (by first | decide | omega) ?_
    dsimp only
    refine Ev.run [(.aload_n 0, 1), (.getfield 19, 3), (.aload_n 0, 1), (.getfield 75, 3)] (pc' := 61) (L' := [some (.ref 359), some (.int ((-1))), none]) (S' := [.int ((zz_up I1 362 (aN A) (nI e)) 359 2), .ref 363]) rfl (by decide +kernel) rfl ?_
    rw [show (zz_up I1 362 (aN A) (nI e)) 359 2 = nI (aN A) from by rw [zz_up_ne (by decide)]; rw [hs1.2 2 (by decide)]; exact hV.1.1]
    refine Ev.run [(.aload_n 0, 1), (.getfield 86, 3)] (pc' := 65) (L' := [some (.ref 359), some (.int ((-1))), none]) (S' := [.int ((zz_up I1 362 (aN A) (nI e)) 359 0), .int (nI (aN A)), .ref 363]) rfl (by decide +kernel) rfl ?_
    rw [show (zz_up I1 362 (aN A) (nI e)) 359 0 = nI (np) from by rw [zz_up_ne (by decide)]; rw [hs1.2 0 (by decide)]; exact hn]
    refine Ev.run [(.aload_n 0, 1), (.getfield 89, 3)] (pc' := 69) (L' := [some (.ref 359), some (.int ((-1))), none]) (S' := [.int ((zz_up I1 362 (aN A) (nI e)) 359 15), .int (nI np), .int (nI (aN A)), .ref 363]) rfl (by decide +kernel) rfl ?_
    rw [show (zz_up I1 362 (aN A) (nI e)) 359 15 = nI (e + 1) from by rw [zz_up_ne (by decide)]; exact hh]
    refine Ev.run [(.isub, 1)] (pc' := 70) (L' := [some (.ref 359), some (.int ((-1))), none]) (S' := [.int (nI np - nI (e + 1)), .int (nI (aN A)), .ref 363]) rfl (by decide +kernel) rfl ?_
    rw [show nI np - nI (e + 1) = nI (np - (e + 1)) from zz_sub (by omega)]
    refine Ev.iast (aN A) (by decide +kernel) (rfl) (rfl) (by omega) (by first | decide | omega) ?_
    dsimp only
    refine Ev.run [(.iconst 0, 1), (.istore_n 2, 1)] (pc' := 73) (L' := [some (.ref 359), some (.int ((-1))), some (.int (nI 0))]) (S' := []) rfl (by decide +kernel) rfl ?_
    exact l_X7_k1n I J A hV hW np pd hn hpd hnp hpr hN e (by omega) (by omega) (by omega) (by omega) I1 hs1 hh (e + 1) 0 _ (by omega) (by omega) ⟨fun c h1 => by rw [zz_up_ne (by omega), zz_up_ne (by omega)], by rw [zz_up_ne (by decide), zz_up_ne (by decide)], by rw [zz_up_ne (by decide), zz_up_eq], by rw [zz_up_eq, zz_up_ne (by decide)]⟩ (fun j hj => absurd hj (Nat.not_lt_zero j)) (fun x hx => by rw [zz_up_ne (by decide), zz_up_ne (by decide), hs1.1 364 (by decide)]) (fun x hx => by rw [zz_up_ne (by decide), zz_up_ne (by decide), hs1.1 365 (by decide)])
  · have h21 : (aN A) = 12 := zz_bE_t (by omega) (by omega) h21
    exfalso; omega

set_option maxRecDepth 100000 in
set_option maxHeartbeats 4000000 in
theorem c_X7_keep_fs {sc : Nat × (Nat → Int32)} {d : Nat} (I : Nat → Nat → Int32) (J : Nat → Nat → Int64) (A : zA) (hV : MV (zVm I) A) (hW : WF A) (b : Nat) (hb : b < aN A) (hN : aN A = 12) : EvM sc (d + 3) 0 0 mX7_keep [.ref 359, .int (nI b)] (zz_SH, I, J) (zz_is (.int (-4)) (zz_SH, I, J)) := by
  have w1 := hW.1.1
  have w2 := hW.1.2.1
  refine EvM.of (by decide) rfl (Nat.le_of_ble_eq_true rfl) ?_
  show Ev _ _ _ _ _ 0 [some (.ref 359), some (.int (nI b)), none] [] (zz_SH, I, J) _
  refine Ev.run [(.iload_n 1, 1), (.iconst (-1), 1)] (pc' := 2) (L' := [some (.ref 359), some (.int (nI b)), none]) (S' := [.int ((-1)), .int (nI b)]) rfl (by decide +kernel) rfl ?_
  refine Ev.icmp_eq (off := 13) (tgt := 15) (by decide +kernel) (by decide) (fun h2 => absurd h2 (zz_nm b (by omega))) (fun h2 => ?_)
  refine Ev.run [(.aload_n 0, 1), (.iload_n 1, 1)] (pc' := 7) (L' := [some (.ref 359), some (.int (nI b)), none]) (S' := [.int (nI b), .ref 359]) rfl (by decide +kernel) rfl ?_
  refine Ev.callV0 mX7_isPair [.int (nI b)] [] _ rfl lk_RX7_100 (by decide +kernel) (rfl) rfl rfl rfl (Nat.le_of_ble_eq_true rfl) (c_X7_isPair I J (aN A) (nI b) hV.1.1 (by omega)) ?_
  rintro _ _ ⟨rfl, ⟨rfl, h7⟩ | ⟨rfl, h7⟩⟩
  · show Ev _ _ _ _ _ 10 [some (.ref 359), some (.int (nI b)), none] [.int (nI 1)] (zz_SH, I, J) _
    refine Ev.if_ne (off := 5) (tgt := 15) (by decide +kernel) (by decide) (fun h10 => ?_) (fun h10 => absurd h10 (by decide))
    refine Ev.run [(.aload_n 0, 1), (.getfield 75, 3)] (pc' := 19) (L' := [some (.ref 359), some (.int (nI b)), none]) (S' := [.int (I 359 2)]) rfl (by decide +kernel) rfl ?_
    rw [show I 359 2 = nI (aN A) from hV.1.1]
    refine Ev.run [(.bipush 12, 2)] (pc' := 21) (L' := [some (.ref 359), some (.int (nI b)), none]) (S' := [.int (nI 12), .int (nI (aN A))]) rfl (by decide +kernel) rfl ?_
    refine Ev.icmp_ne (off := 6) (tgt := 27) (by decide +kernel) (by decide) (fun h21 => ?_) (fun h21 => ?_)
    · have h21 : ¬ (aN A) = 12 := zz_bE_f (by omega) (by omega) h21
      exfalso; omega
    · have h21 : (aN A) = 12 := zz_bE_t (by omega) (by omega) h21
      refine Ev.run [(.bipush (-4), 2)] (pc' := 26) (L' := [some (.ref 359), some (.int (nI b)), none]) (S' := [.int ((-4))]) rfl (by decide +kernel) rfl ?_
      exact Ev.iret rfl (by decide +kernel) (⟨rfl, rfl⟩)
  · exact absurd ⟨b, hb, rfl⟩ h7

set_option maxRecDepth 100000 in
set_option maxHeartbeats 4000000 in
theorem c_X7_keep_ns {sc : Nat × (Nat → Int32)} {d : Nat} (I : Nat → Nat → Int32) (J : Nat → Nat → Int64) (A : zA) (hV : MV (zVm I) A) (hW : WF A) (np : Nat) (pd : Nat → Nat) (hn : I 359 0 = nI np) (hpd : ∀ j, j < np → I 360 j = nI (pd j)) (hnp : np ≤ 30) (hpr : ∀ j, j < np → 33 ≤ pd j ∧ pd j ≤ 126) (b : Nat) (hb : b < aN A) (hN : aN A < 12) (x : Nat) (hf : fP np pd = some x) (hx : x < 1000) : EvM sc (d + 3) 0 0 mX7_keep [.ref 359, .int (nI b)] (zz_SH, I, J) (fun r σ => r = some (.int (-5)) ∧ ∃ I' : Nat → Nat → Int32, zSc I I' ∧ σ = (zz_SH, I', J)) := by
  have w1 := hW.1.1
  have w2 := hW.1.2.1
  refine EvM.of (by decide) rfl (Nat.le_of_ble_eq_true rfl) ?_
  show Ev _ _ _ _ _ 0 [some (.ref 359), some (.int (nI b)), none] [] (zz_SH, I, J) _
  refine Ev.run [(.iload_n 1, 1), (.iconst (-1), 1)] (pc' := 2) (L' := [some (.ref 359), some (.int (nI b)), none]) (S' := [.int ((-1)), .int (nI b)]) rfl (by decide +kernel) rfl ?_
  refine Ev.icmp_eq (off := 13) (tgt := 15) (by decide +kernel) (by decide) (fun h2 => absurd h2 (zz_nm b (by omega))) (fun h2 => ?_)
  refine Ev.run [(.aload_n 0, 1), (.iload_n 1, 1)] (pc' := 7) (L' := [some (.ref 359), some (.int (nI b)), none]) (S' := [.int (nI b), .ref 359]) rfl (by decide +kernel) rfl ?_
  refine Ev.callV0 mX7_isPair [.int (nI b)] [] _ rfl lk_RX7_100 (by decide +kernel) (rfl) rfl rfl rfl (Nat.le_of_ble_eq_true rfl) (c_X7_isPair I J (aN A) (nI b) hV.1.1 (by omega)) ?_
  rintro _ _ ⟨rfl, ⟨rfl, h7⟩ | ⟨rfl, h7⟩⟩
  · show Ev _ _ _ _ _ 10 [some (.ref 359), some (.int (nI b)), none] [.int (nI 1)] (zz_SH, I, J) _
    refine Ev.if_ne (off := 5) (tgt := 15) (by decide +kernel) (by decide) (fun h10 => ?_) (fun h10 => absurd h10 (by decide))
    refine Ev.run [(.aload_n 0, 1), (.getfield 75, 3)] (pc' := 19) (L' := [some (.ref 359), some (.int (nI b)), none]) (S' := [.int (I 359 2)]) rfl (by decide +kernel) rfl ?_
    rw [show I 359 2 = nI (aN A) from hV.1.1]
    refine Ev.run [(.bipush 12, 2)] (pc' := 21) (L' := [some (.ref 359), some (.int (nI b)), none]) (S' := [.int (nI 12), .int (nI (aN A))]) rfl (by decide +kernel) rfl ?_
    refine Ev.icmp_ne (off := 6) (tgt := 27) (by decide +kernel) (by decide) (fun h21 => ?_) (fun h21 => ?_)
    · have h21 : ¬ (aN A) = 12 := zz_bE_f (by omega) (by omega) h21
      refine Ev.run [(.aload_n 0, 1), (.iconst 1, 1)] (pc' := 29) (L' := [some (.ref 359), some (.int (nI b)), none]) (S' := [.int (nI 1), .ref 359]) rfl (by decide +kernel) rfl ?_
      refine Ev.callV0 mX7_faultOf [.int (nI 1)] [] _ rfl lk_RX7_96 (by decide +kernel) (rfl) rfl rfl rfl (Nat.le_of_ble_eq_true rfl) (c_X7_faultOf_1 I J np pd hn hpd hnp hpr) ?_
      rintro _ _ ⟨rfl, I1, hs1, hh1, rfl⟩
      rw [hf]
      show Ev _ _ _ _ _ 32 [some (.ref 359), some (.int (nI b)), none] [.int (nI x)] (zz_SH, I1, J) _
      refine Ev.if_lt (off := 6) (tgt := 38) (by decide +kernel) (by decide) (fun h32 => ?_) (fun h32 => ?_)
      · have h32 : x < 0 := zz_bL_t (by omega) (by omega) h32
        exfalso; omega
      · have h32 : x ≥ 0 := zz_bL_f (by omega) (by omega) h32
        refine Ev.run [(.bipush (-5), 2)] (pc' := 37) (L' := [some (.ref 359), some (.int (nI b)), none]) (S' := [.int ((-5))]) rfl (by decide +kernel) rfl ?_
        exact Ev.iret rfl (by decide +kernel) (⟨rfl, I1, hs1.sc, rfl⟩)
    · have h21 : (aN A) = 12 := zz_bE_t (by omega) (by omega) h21
      exfalso; omega
  · exact absurd ⟨b, hb, rfl⟩ h7

set_option maxRecDepth 100000 in
set_option maxHeartbeats 4000000 in
theorem l_X7_k2s {sc : Nat × (Nat → Int32)} {d : Nat} (I : Nat → Nat → Int32) (J : Nat → Nat → Int64) (A : zA) (hV : MV (zVm I) A) (hW : WF A) (np : Nat) (pd : Nat → Nat) (hn : I 359 0 = nI np) (hpd : ∀ j, j < np → I 360 j = nI (pd j)) (hnp : np ≤ 30) (hpr : ∀ j, j < np → 33 ≤ pd j ∧ pd j ≤ 126) (b : Nat) (hb : b < aN A) (hN : aN A < 12) (e : Nat) (h_e1 : 1 ≤ e) (h_e2 : e ≤ 12) (h_e3 : e + 1 < np) (h_e4 : np ≤ e + 1 + 12) (I1 : Nat → Nat → Int32) (hs1 : zS7 I I1) (hh : I1 359 15 = nI (e + 1)) : ∀ (μ : Nat) (i : Nat) (I2 : Nat → Nat → Int32), np - (e + 1 + i) < μ → (e + 1 + i ≤ np) → ((∀ c, (c < 361 ∨ 366 ≤ c) → I2 c = I1 c) ∧ I2 361 = I1 361 ∧ I2 362 = upd (I1 362) (aN A) (nI e) ∧ I2 363 = upd (I1 363) (aN A) (nI (np - (e + 1)))) → (∀ j, j < e → I2 364 (12 * aN A + j) = nI (pd j)) → (∀ x, x < 12 * aN A → I2 364 x = I 364 x) → (∀ j, j < i → I2 365 (12 * aN A + j) = nI (pd (e + 1 + j))) → (∀ x, x < 12 * aN A → I2 365 x = I 365 x) →  Ev sc (d + 3) 0 0 mX7_keep 114 [some (.ref 359), some (.int (nI b)), some (.int (nI (e + 1 + i)))] [] (zz_SH, I2, J) (fun r σ => r = some (.int (nI (aN A))) ∧ ∃ I' : Nat → Nat → Int32, KP I I' ∧ MV (zVm I') (addP A np pd e (some b)) ∧ σ = (zz_SH, I', J)) := by
  intro μ
  induction μ with
  | zero => intro i I2 hμ; exact absurd hμ (Nat.not_lt_zero _)
  | succ μ ih =>
    intro i I2 hμ hi hz h4 h4' ht hu
    have w1 := hW.1.1
    have w2 := hW.1.2.1
    refine Ev.run [(.iload_n 2, 1), (.aload_n 0, 1), (.getfield 86, 3)] (pc' := 119) (L' := [some (.ref 359), some (.int (nI b)), some (.int (nI (e + 1 + i)))]) (S' := [.int (I2 359 0), .int (nI (e + 1 + i))]) rfl (by decide +kernel) rfl ?_
    rw [show I2 359 0 = nI (np) from by rw [hz.1 359 (by decide), hs1.2 0 (by decide)]; exact hn]
    refine Ev.icmp_ge (off := 34) (tgt := 153) (by decide +kernel) (by decide) (fun h119 => ?_) (fun h119 => ?_)
    · have h119 : (e + 1 + i) ≥ np := zz_bG_t (by omega) (by omega) h119
      refine Ev.run [(.aload_n 0, 1), (.getfield 13, 3), (.aload_n 0, 1), (.getfield 75, 3)] (pc' := 161) (L' := [some (.ref 359), some (.int (nI b)), some (.int (nI (e + 1 + i)))]) (S' := [.int (I2 359 2), .ref 361]) rfl (by decide +kernel) rfl ?_
      rw [show I2 359 2 = nI (aN A) from by rw [hz.1 359 (by decide), hs1.2 2 (by decide)]; exact hV.1.1]
      refine Ev.run [(.iload_n 1, 1)] (pc' := 162) (L' := [some (.ref 359), some (.int (nI b)), some (.int (nI (e + 1 + i)))]) (S' := [.int (nI b), .int (nI (aN A)), .ref 361]) rfl (by decide +kernel) rfl ?_
      refine Ev.if_ge (off := 8) (tgt := 170) (by decide +kernel) (by decide) (fun h162 => ?_) (fun h162 => ?_)
      · have h162 : b ≥ 0 := zz_bG_t (by omega) (by omega) h162
        refine Ev.run [(.iload_n 1, 1)] (pc' := 171) (L' := [some (.ref 359), some (.int (nI b)), some (.int (nI (e + 1 + i)))]) (S' := [.int (nI b), .int (nI (aN A)), .ref 361]) rfl (by decide +kernel) rfl ?_
        refine Ev.iast (aN A) (by decide +kernel) (rfl) (rfl) (by omega) (by first | decide | omega) ?_
        dsimp only
        refine Ev.run [(.aload_n 0, 1), (.iconst 0, 1)] (pc' := 174) (L' := [some (.ref 359), some (.int (nI b)), some (.int (nI (e + 1 + i)))]) (S' := [.int (nI 0), .ref 359]) rfl (by decide +kernel) rfl ?_
        refine Ev.putf (idx := 86) rfl rfl rfl (by decide +kernel) (rfl) rfl ?_
        dsimp only
        refine Ev.run [(.aload_n 0, 1), (.dup, 1), (.getfield 75, 3)] (pc' := 182) (L' := [some (.ref 359), some (.int (nI b)), some (.int (nI (e + 1 + i)))]) (S' := [.int ((zz_up (zz_up I2 361 (aN A) (nI b)) 359 0 (nI 0)) 359 2), .ref 359]) rfl (by decide +kernel) rfl ?_
        rw [show (zz_up (zz_up I2 361 (aN A) (nI b)) 359 0 (nI 0)) 359 2 = nI (aN A) from by rw [zz_up_eq, zz_upn (by decide), zz_up_ne (by decide), hz.1 359 (by decide), hs1.2 2 (by decide)]; exact hV.1.1]
        refine Ev.run [(.iconst 1, 1), (.iadd, 1)] (pc' := 184) (L' := [some (.ref 359), some (.int (nI b)), some (.int (nI (e + 1 + i)))]) (S' := [.int (nI (aN A) + nI 1), .ref 359]) rfl (by decide +kernel) rfl ?_
        rw [nI_add (aN A) 1]
        refine Ev.putf (idx := 75) rfl rfl rfl (by decide +kernel) (rfl) rfl ?_
        dsimp only
        refine Ev.run [(.aload_n 0, 1), (.getfield 75, 3)] (pc' := 191) (L' := [some (.ref 359), some (.int (nI b)), some (.int (nI (e + 1 + i)))]) (S' := [.int ((zz_up (zz_up (zz_up I2 361 (aN A) (nI b)) 359 0 (nI 0)) 359 2 (nI ((aN A) + 1))) 359 2)]) rfl (by decide +kernel) rfl ?_
        rw [show (zz_up (zz_up (zz_up I2 361 (aN A) (nI b)) 359 0 (nI 0)) 359 2 (nI ((aN A) + 1))) 359 2 = nI (aN A + 1) from by rw [zz_up_eq, zz_ups]]
        refine Ev.run [(.iconst 1, 1), (.isub, 1)] (pc' := 193) (L' := [some (.ref 359), some (.int (nI b)), some (.int (nI (e + 1 + i)))]) (S' := [.int (nI (aN A + 1) - nI 1)]) rfl (by decide +kernel) rfl ?_
        rw [show nI (aN A + 1) - nI 1 = nI (aN A) from zz_sub (by omega)]
        exact Ev.iret rfl (by decide +kernel) (⟨rfl, _, ⟨fun c hc => by rw [zz_up_ne (by omega), zz_up_ne (by omega), zz_up_ne (by omega), hz.1 c (by omega), hs1.1 c (by omega)], by rw [zz_up_ne (by decide), zz_up_ne (by decide), zz_up_ne (by decide), hz.1 379 (by decide), hs1.1 379 (by decide)], by rw [zz_up_ne (by decide), zz_up_ne (by decide), zz_up_ne (by decide), hz.1 380 (by decide), hs1.1 380 (by decide)], by rw [zz_up_eq, zz_upn (by decide), zz_up_eq, zz_ups]⟩, MV_addP hV hW (by rw [zz_up_eq, zz_upn (by decide), zz_up_eq, zz_upn (by decide), zz_up_ne (by decide), hz.1 359 (by decide), hs1.2 8 (by decide)]) (by rw [zz_up_eq, zz_ups]) (fun c h1 h2 => by rw [zz_up_ne (by omega), zz_up_ne (by omega), zz_up_ne (by omega), hz.1 c (by omega), hs1.1 c (by omega)]) ⟨by rw [zz_up_ne (by decide), zz_up_ne (by decide), zz_up_eq, zz_ups]; rfl, by rw [zz_up_ne (by decide), zz_up_ne (by decide), zz_up_ne (by decide), hz.2.2.1, zz_ups], by rw [zz_up_ne (by decide), zz_up_ne (by decide), zz_up_ne (by decide), hz.2.2.2, zz_ups]⟩ (fun p hp => ⟨by rw [zz_up_ne (by decide), zz_up_ne (by decide), zz_up_eq, zz_upn (by omega), hz.2.1, hs1.1 361 (by decide)], by rw [zz_up_ne (by decide), zz_up_ne (by decide), zz_up_ne (by decide), hz.2.2.1, zz_upn (by omega), hs1.1 362 (by decide)], by rw [zz_up_ne (by decide), zz_up_ne (by decide), zz_up_ne (by decide), hz.2.2.2, zz_upn (by omega), hs1.1 363 (by decide)]⟩) (fun j hj => by rw [zz_up_ne (by decide), zz_up_ne (by decide), zz_up_ne (by decide)]; exact h4 j hj) (fun j hj => by rw [zz_up_ne (by decide), zz_up_ne (by decide), zz_up_ne (by decide)]; exact ht j (by omega)) (fun x hx => ⟨by rw [zz_up_ne (by decide), zz_up_ne (by decide), zz_up_ne (by decide)]; exact h4' x hx, by rw [zz_up_ne (by decide), zz_up_ne (by decide), zz_up_ne (by decide)]; exact hu x hx⟩), rfl⟩)
      · have h162 : b < 0 := zz_bG_f (by omega) (by omega) h162
        exfalso; omega
    · have h119 : (e + 1 + i) < np := zz_bG_f (by omega) (by omega) h119
      refine Ev.run [(.aload_n 0, 1), (.getfield 25, 3), (.bipush 12, 2), (.aload_n 0, 1), (.getfield 75, 3)] (pc' := 132) (L' := [some (.ref 359), some (.int (nI b)), some (.int (nI (e + 1 + i)))]) (S' := [.int (I2 359 2), .int (nI 12), .ref 365]) rfl (by decide +kernel) rfl ?_
      rw [show I2 359 2 = nI (aN A) from by rw [hz.1 359 (by decide), hs1.2 2 (by decide)]; exact hV.1.1]
      refine Ev.run [(.imul, 1)] (pc' := 133) (L' := [some (.ref 359), some (.int (nI b)), some (.int (nI (e + 1 + i)))]) (S' := [.int (nI 12 * nI (aN A)), .ref 365]) rfl (by decide +kernel) rfl ?_
      rw [pk_mul 12 (aN A)]
      refine Ev.run [(.iload_n 2, 1), (.iadd, 1)] (pc' := 135) (L' := [some (.ref 359), some (.int (nI b)), some (.int (nI (e + 1 + i)))]) (S' := [.int (nI (12 * (aN A)) + nI (e + 1 + i)), .ref 365]) rfl (by decide +kernel) rfl ?_
      rw [nI_add (12 * (aN A)) (e + 1 + i)]
      refine Ev.run [(.aload_n 0, 1), (.getfield 89, 3)] (pc' := 139) (L' := [some (.ref 359), some (.int (nI b)), some (.int (nI (e + 1 + i)))]) (S' := [.int (I2 359 15), .int (nI ((12 * (aN A)) + (e + 1 + i))), .ref 365]) rfl (by decide +kernel) rfl ?_
      rw [show I2 359 15 = nI (e + 1) from by rw [hz.1 359 (by decide)]; exact hh]
      refine Ev.run [(.isub, 1)] (pc' := 140) (L' := [some (.ref 359), some (.int (nI b)), some (.int (nI (e + 1 + i)))]) (S' := [.int (nI ((12 * (aN A)) + (e + 1 + i)) - nI (e + 1)), .ref 365]) rfl (by decide +kernel) rfl ?_
      rw [show nI ((12 * (aN A)) + (e + 1 + i)) - nI (e + 1) = nI (12 * aN A + i) from zz_sub (by omega)]
      refine Ev.run [(.aload_n 0, 1), (.getfield 7, 3), (.iload_n 2, 1)] (pc' := 145) (L' := [some (.ref 359), some (.int (nI b)), some (.int (nI (e + 1 + i)))]) (S' := [.int (nI (e + 1 + i)), .ref 360, .int (nI (12 * aN A + i)), .ref 365]) rfl (by decide +kernel) rfl ?_
      refine Ev.iald (e + 1 + i) (by decide +kernel) (rfl) (rfl) (by omega) (by first | decide | omega) ?_
      dsimp only
      rw [show I2 360 (e + 1 + i) = nI (pd (e + 1 + i)) from by rw [hz.1 360 (by decide), hs1.1 360 (by decide)]; exact hpd _ (by omega)]
      refine Ev.iast (12 * aN A + i) (by decide +kernel) (rfl) (rfl) (by omega) (by first | decide | omega) ?_
      dsimp only
      refine Ev.run [(.iinc 2 1, 3)] (pc' := 150) (L' := [some (.ref 359), some (.int (nI b)), some (.int (nI (e + 1 + i) + 1))]) (S' := []) rfl (by decide +kernel) rfl ?_
      rw [nI_1 (e + 1 + i)]
      refine Ev.goto (off := (-36)) (tgt := 114) (by decide +kernel) (by decide) ?_
      rw [show e + 1 + i + 1 = e + 1 + (i + 1) by omega]
      refine ih (i + 1) _ (by omega) (by omega) ⟨fun c h1 => by rw [zz_up_ne (by omega)]; exact hz.1 c h1, by rw [zz_up_ne (by decide)]; exact hz.2.1, by rw [zz_up_ne (by decide)]; exact hz.2.2.1, by rw [zz_up_ne (by decide)]; exact hz.2.2.2⟩ (fun j hj => by rw [zz_up_ne (by decide)]; exact h4 j hj) (fun x hx => by rw [zz_up_ne (by decide)]; exact h4' x hx) (fun j hj => ?_) (fun x hx => ?_)
      · by_cases q : j = i
        · subst q; rw [zz_up_eq, zz_ups]
        · rw [zz_up_eq, zz_upn (by omega)]; exact ht j (by omega)
      · rw [zz_up_eq, zz_upn (by omega)]; exact hu x hx

set_option maxRecDepth 100000 in
set_option maxHeartbeats 4000000 in
theorem l_X7_k1s {sc : Nat × (Nat → Int32)} {d : Nat} (I : Nat → Nat → Int32) (J : Nat → Nat → Int64) (A : zA) (hV : MV (zVm I) A) (hW : WF A) (np : Nat) (pd : Nat → Nat) (hn : I 359 0 = nI np) (hpd : ∀ j, j < np → I 360 j = nI (pd j)) (hnp : np ≤ 30) (hpr : ∀ j, j < np → 33 ≤ pd j ∧ pd j ≤ 126) (b : Nat) (hb : b < aN A) (hN : aN A < 12) (e : Nat) (h_e1 : 1 ≤ e) (h_e2 : e ≤ 12) (h_e3 : e + 1 < np) (h_e4 : np ≤ e + 1 + 12) (I1 : Nat → Nat → Int32) (hs1 : zS7 I I1) (hh : I1 359 15 = nI (e + 1)) : ∀ (μ : Nat) (k : Nat) (I2 : Nat → Nat → Int32), e - k < μ → (k ≤ e) → ((∀ c, (c < 361 ∨ 366 ≤ c) → I2 c = I1 c) ∧ I2 361 = I1 361 ∧ I2 362 = upd (I1 362) (aN A) (nI e) ∧ I2 363 = upd (I1 363) (aN A) (nI (np - (e + 1)))) → (∀ j, j < k → I2 364 (12 * aN A + j) = nI (pd j)) → (∀ x, x < 12 * aN A → I2 364 x = I 364 x) → (∀ x, x < 12 * aN A → I2 365 x = I 365 x) →  Ev sc (d + 3) 0 0 mX7_keep 73 [some (.ref 359), some (.int (nI b)), some (.int (nI k))] [] (zz_SH, I2, J) (fun r σ => r = some (.int (nI (aN A))) ∧ ∃ I' : Nat → Nat → Int32, KP I I' ∧ MV (zVm I') (addP A np pd e (some b)) ∧ σ = (zz_SH, I', J)) := by
  intro μ
  induction μ with
  | zero => intro k I2 hμ; exact absurd hμ (Nat.not_lt_zero _)
  | succ μ ih =>
    intro k I2 hμ hk hz ht hu h5
    have w1 := hW.1.1
    have w2 := hW.1.2.1
    refine Ev.run [(.iload_n 2, 1), (.aload_n 0, 1), (.getfield 89, 3)] (pc' := 78) (L' := [some (.ref 359), some (.int (nI b)), some (.int (nI k))]) (S' := [.int (I2 359 15), .int (nI k)]) rfl (by decide +kernel) rfl ?_
    rw [show I2 359 15 = nI (e + 1) from by rw [hz.1 359 (by decide)]; exact hh]
    refine Ev.run [(.iconst 1, 1), (.isub, 1)] (pc' := 80) (L' := [some (.ref 359), some (.int (nI b)), some (.int (nI k))]) (S' := [.int (nI (e + 1) - nI 1), .int (nI k)]) rfl (by decide +kernel) rfl ?_
    rw [show nI (e + 1) - nI 1 = nI e from zz_sub (by omega)]
    refine Ev.icmp_ge (off := 29) (tgt := 109) (by decide +kernel) (by decide) (fun h80 => ?_) (fun h80 => ?_)
    · have h80 : k ≥ e := zz_bG_t (by omega) (by omega) h80
      refine Ev.run [(.aload_n 0, 1), (.getfield 89, 3)] (pc' := 113) (L' := [some (.ref 359), some (.int (nI b)), some (.int (nI k))]) (S' := [.int (I2 359 15)]) rfl (by decide +kernel) rfl ?_
      rw [show I2 359 15 = nI (e + 1) from by rw [hz.1 359 (by decide)]; exact hh]
      refine Ev.run [(.istore_n 2, 1)] (pc' := 114) (L' := [some (.ref 359), some (.int (nI b)), some (.int (nI (e + 1)))]) (S' := []) rfl (by decide +kernel) rfl ?_
      exact l_X7_k2s I J A hV hW np pd hn hpd hnp hpr b hb hN e h_e1 h_e2 h_e3 h_e4 I1 hs1 hh (np + 1) 0 I2 (by omega) (by omega) hz (fun j hj => ht j (by omega)) hu (fun j hj => absurd hj (Nat.not_lt_zero j)) h5
    · have h80 : k < e := zz_bG_f (by omega) (by omega) h80
      refine Ev.run [(.aload_n 0, 1), (.getfield 22, 3), (.bipush 12, 2), (.aload_n 0, 1), (.getfield 75, 3)] (pc' := 93) (L' := [some (.ref 359), some (.int (nI b)), some (.int (nI k))]) (S' := [.int (I2 359 2), .int (nI 12), .ref 364]) rfl (by decide +kernel) rfl ?_
      rw [show I2 359 2 = nI (aN A) from by rw [hz.1 359 (by decide), hs1.2 2 (by decide)]; exact hV.1.1]
      refine Ev.run [(.imul, 1)] (pc' := 94) (L' := [some (.ref 359), some (.int (nI b)), some (.int (nI k))]) (S' := [.int (nI 12 * nI (aN A)), .ref 364]) rfl (by decide +kernel) rfl ?_
      rw [pk_mul 12 (aN A)]
      refine Ev.run [(.iload_n 2, 1), (.iadd, 1)] (pc' := 96) (L' := [some (.ref 359), some (.int (nI b)), some (.int (nI k))]) (S' := [.int (nI (12 * (aN A)) + nI k), .ref 364]) rfl (by decide +kernel) rfl ?_
      rw [nI_add (12 * (aN A)) k]
      refine Ev.run [(.aload_n 0, 1), (.getfield 7, 3), (.iload_n 2, 1)] (pc' := 101) (L' := [some (.ref 359), some (.int (nI b)), some (.int (nI k))]) (S' := [.int (nI k), .ref 360, .int (nI ((12 * (aN A)) + k)), .ref 364]) rfl (by decide +kernel) rfl ?_
      refine Ev.iald k (by decide +kernel) (rfl) (rfl) (by omega) (by first | decide | omega) ?_
      dsimp only
      rw [show I2 360 k = nI (pd k) from by rw [hz.1 360 (by decide), hs1.1 360 (by decide)]; exact hpd _ (by omega)]
      refine Ev.iast ((12 * (aN A)) + k) (by decide +kernel) (rfl) (rfl) (by omega) (by first | decide | omega) ?_
      dsimp only
      refine Ev.run [(.iinc 2 1, 3)] (pc' := 106) (L' := [some (.ref 359), some (.int (nI b)), some (.int (nI k + 1))]) (S' := []) rfl (by decide +kernel) rfl ?_
      rw [nI_1 k]
      refine Ev.goto (off := (-33)) (tgt := 73) (by decide +kernel) (by decide) ?_
      refine ih (k + 1) _ (by omega) (by omega) ⟨fun c h1 => by rw [zz_up_ne (by omega)]; exact hz.1 c h1, by rw [zz_up_ne (by decide)]; exact hz.2.1, by rw [zz_up_ne (by decide)]; exact hz.2.2.1, by rw [zz_up_ne (by decide)]; exact hz.2.2.2⟩ (fun j hj => ?_) (fun x hx => ?_) (fun x hx => by rw [zz_up_ne (by decide)]; exact h5 x hx)
      · by_cases q : j = k
        · subst q; rw [zz_up_eq, zz_ups]
        · rw [zz_up_eq, zz_upn (by omega)]; exact ht j (by omega)
      · rw [zz_up_eq, zz_upn (by omega)]; exact hu x hx

set_option maxRecDepth 100000 in
set_option maxHeartbeats 4000000 in
theorem c_X7_keep_ks {sc : Nat × (Nat → Int32)} {d : Nat} (I : Nat → Nat → Int32) (J : Nat → Nat → Int64) (A : zA) (hV : MV (zVm I) A) (hW : WF A) (np : Nat) (pd : Nat → Nat) (hn : I 359 0 = nI np) (hpd : ∀ j, j < np → I 360 j = nI (pd j)) (hnp : np ≤ 30) (hpr : ∀ j, j < np → 33 ≤ pd j ∧ pd j ≤ 126) (b : Nat) (hb : b < aN A) (hN : aN A < 12) (hf : fP np pd = none) (e : Nat) (he : E1 np pd = e) : EvM sc (d + 3) 0 0 mX7_keep [.ref 359, .int (nI b)] (zz_SH, I, J) (fun r σ => r = some (.int (nI (aN A))) ∧ ∃ I' : Nat → Nat → Int32, KP I I' ∧ MV (zVm I') (addP A np pd e (some b)) ∧ σ = (zz_SH, I', J)) := by
  have w1 := hW.1.1
  have w2 := hW.1.2.1
  have g1 := fP_none hf
  refine EvM.of (by decide) rfl (Nat.le_of_ble_eq_true rfl) ?_
  show Ev _ _ _ _ _ 0 [some (.ref 359), some (.int (nI b)), none] [] (zz_SH, I, J) _
  refine Ev.run [(.iload_n 1, 1), (.iconst (-1), 1)] (pc' := 2) (L' := [some (.ref 359), some (.int (nI b)), none]) (S' := [.int ((-1)), .int (nI b)]) rfl (by decide +kernel) rfl ?_
  refine Ev.icmp_eq (off := 13) (tgt := 15) (by decide +kernel) (by decide) (fun h2 => absurd h2 (zz_nm b (by omega))) (fun h2 => ?_)
  refine Ev.run [(.aload_n 0, 1), (.iload_n 1, 1)] (pc' := 7) (L' := [some (.ref 359), some (.int (nI b)), none]) (S' := [.int (nI b), .ref 359]) rfl (by decide +kernel) rfl ?_
  refine Ev.callV0 mX7_isPair [.int (nI b)] [] _ rfl lk_RX7_100 (by decide +kernel) (rfl) rfl rfl rfl (Nat.le_of_ble_eq_true rfl) (c_X7_isPair I J (aN A) (nI b) hV.1.1 (by omega)) ?_
  rintro _ _ ⟨rfl, ⟨rfl, h7⟩ | ⟨rfl, h7⟩⟩
  · show Ev _ _ _ _ _ 10 [some (.ref 359), some (.int (nI b)), none] [.int (nI 1)] (zz_SH, I, J) _
    refine Ev.if_ne (off := 5) (tgt := 15) (by decide +kernel) (by decide) (fun h10 => ?_) (fun h10 => absurd h10 (by decide))
    refine Ev.run [(.aload_n 0, 1), (.getfield 75, 3)] (pc' := 19) (L' := [some (.ref 359), some (.int (nI b)), none]) (S' := [.int (I 359 2)]) rfl (by decide +kernel) rfl ?_
    rw [show I 359 2 = nI (aN A) from hV.1.1]
    refine Ev.run [(.bipush 12, 2)] (pc' := 21) (L' := [some (.ref 359), some (.int (nI b)), none]) (S' := [.int (nI 12), .int (nI (aN A))]) rfl (by decide +kernel) rfl ?_
    refine Ev.icmp_ne (off := 6) (tgt := 27) (by decide +kernel) (by decide) (fun h21 => ?_) (fun h21 => ?_)
    · have h21 : ¬ (aN A) = 12 := zz_bE_f (by omega) (by omega) h21
      refine Ev.run [(.aload_n 0, 1), (.iconst 1, 1)] (pc' := 29) (L' := [some (.ref 359), some (.int (nI b)), none]) (S' := [.int (nI 1), .ref 359]) rfl (by decide +kernel) rfl ?_
      refine Ev.callV0 mX7_faultOf [.int (nI 1)] [] _ rfl lk_RX7_96 (by decide +kernel) (rfl) rfl rfl rfl (Nat.le_of_ble_eq_true rfl) (c_X7_faultOf_1 I J np pd hn hpd hnp hpr) ?_
      rintro _ _ ⟨rfl, I1, hs1, hh1, rfl⟩
      rw [hf]
      have hh := hh1 hf
      rw [he] at hh
      show Ev _ _ _ _ _ 32 [some (.ref 359), some (.int (nI b)), none] [.int ((-6))] (zz_SH, I1, J) _
      refine Ev.if_lt (off := 6) (tgt := 38) (by decide +kernel) (by decide) (fun h32 => ?_) (fun h32 => absurd h32 (by decide))
      refine Ev.run [(.aload_n 0, 1), (.getfield 16, 3), (.aload_n 0, 1), (.getfield 75, 3)] (pc' := 46) (L' := [some (.ref 359), some (.int (nI b)), none]) (S' := [.int (I1 359 2), .ref 362]) rfl (by decide +kernel) rfl ?_
      rw [show (I1) 359 2 = nI (aN A) from by rw [hs1.2 2 (by decide)]; exact hV.1.1]
      refine Ev.run [(.aload_n 0, 1), (.getfield 89, 3)] (pc' := 50) (L' := [some (.ref 359), some (.int (nI b)), none]) (S' := [.int (I1 359 15), .int (nI (aN A)), .ref 362]) rfl (by decide +kernel) rfl ?_
      rw [show (I1) 359 15 = nI (e + 1) from by exact hh]
      refine Ev.run [(.iconst 1, 1), (.isub, 1)] (pc' := 52) (L' := [some (.ref 359), some (.int (nI b)), none]) (S' := [.int (nI (e + 1) - nI 1), .int (nI (aN A)), .ref 362]) rfl (by decide +kernel) rfl ?_
      rw [show nI (e + 1) - nI 1 = nI e from zz_sub (by omega)]
      refine Ev.iast (aN A) (by decide +kernel) (rfl) (rfl) (by omega) (by first | decide | omega) ?_
      dsimp only
      refine Ev.run [(.aload_n 0, 1), (.getfield 19, 3), (.aload_n 0, 1), (.getfield 75, 3)] (pc' := 61) (L' := [some (.ref 359), some (.int (nI b)), none]) (S' := [.int ((zz_up I1 362 (aN A) (nI e)) 359 2), .ref 363]) rfl (by decide +kernel) rfl ?_
      rw [show (zz_up I1 362 (aN A) (nI e)) 359 2 = nI (aN A) from by rw [zz_up_ne (by decide)]; rw [hs1.2 2 (by decide)]; exact hV.1.1]
      refine Ev.run [(.aload_n 0, 1), (.getfield 86, 3)] (pc' := 65) (L' := [some (.ref 359), some (.int (nI b)), none]) (S' := [.int ((zz_up I1 362 (aN A) (nI e)) 359 0), .int (nI (aN A)), .ref 363]) rfl (by decide +kernel) rfl ?_
      rw [show (zz_up I1 362 (aN A) (nI e)) 359 0 = nI (np) from by rw [zz_up_ne (by decide)]; rw [hs1.2 0 (by decide)]; exact hn]
      refine Ev.run [(.aload_n 0, 1), (.getfield 89, 3)] (pc' := 69) (L' := [some (.ref 359), some (.int (nI b)), none]) (S' := [.int ((zz_up I1 362 (aN A) (nI e)) 359 15), .int (nI np), .int (nI (aN A)), .ref 363]) rfl (by decide +kernel) rfl ?_
      rw [show (zz_up I1 362 (aN A) (nI e)) 359 15 = nI (e + 1) from by rw [zz_up_ne (by decide)]; exact hh]
      refine Ev.run [(.isub, 1)] (pc' := 70) (L' := [some (.ref 359), some (.int (nI b)), none]) (S' := [.int (nI np - nI (e + 1)), .int (nI (aN A)), .ref 363]) rfl (by decide +kernel) rfl ?_
      rw [show nI np - nI (e + 1) = nI (np - (e + 1)) from zz_sub (by omega)]
      refine Ev.iast (aN A) (by decide +kernel) (rfl) (rfl) (by omega) (by first | decide | omega) ?_
      dsimp only
      refine Ev.run [(.iconst 0, 1), (.istore_n 2, 1)] (pc' := 73) (L' := [some (.ref 359), some (.int (nI b)), some (.int (nI 0))]) (S' := []) rfl (by decide +kernel) rfl ?_
      exact l_X7_k1s I J A hV hW np pd hn hpd hnp hpr b hb hN e (by omega) (by omega) (by omega) (by omega) I1 hs1 hh (e + 1) 0 _ (by omega) (by omega) ⟨fun c h1 => by rw [zz_up_ne (by omega), zz_up_ne (by omega)], by rw [zz_up_ne (by decide), zz_up_ne (by decide)], by rw [zz_up_ne (by decide), zz_up_eq], by rw [zz_up_eq, zz_up_ne (by decide)]⟩ (fun j hj => absurd hj (Nat.not_lt_zero j)) (fun x hx => by rw [zz_up_ne (by decide), zz_up_ne (by decide), hs1.1 364 (by decide)]) (fun x hx => by rw [zz_up_ne (by decide), zz_up_ne (by decide), hs1.1 365 (by decide)])
    · have h21 : (aN A) = 12 := zz_bE_t (by omega) (by omega) h21
      exfalso; omega
  · exact absurd ⟨b, hb, rfl⟩ h7
end
section
/-! ===== the model: otherwise ===== -/
def setG (A : zA) (g : Nat → Nat → Nat) : zA := (A.1, A.2.1, (ff A, g, tt A), A.2.2.2)
theorem MV_setG {I I' : Nat → Nat → Int32} {A : zA} {g : Nat → Nat → Nat} (hV : MV (zVm I) A) (hc : ∀ c, c ≠ 365 → I' c = I c) (hg : ∀ t, t < aN A → ∀ j, j < gz A t → I' 365 (12 * t + j) = nI (g t j)) : MV (zVm I') (setG A g) := by
  obtain ⟨⟨v1, v2, v3, v4⟩, v5, v6, v7, v8, v9, v10⟩ := hV
  refine ⟨⟨(congrFun (hc 359 (by decide)) 2).trans v1, (congrFun (hc 359 (by decide)) 8).trans v2, (congrFun (hc 370 (by decide)) 0).trans v3, (congrFun (hc 370 (by decide)) 1).trans v4⟩, fun p hp => ?_, fun s hs => ?_, fun r hr => ?_, fun w hw => ?_, fun j hj => ?_, fun j hj => ?_⟩
  · obtain ⟨a1, a2, a3, a4, a5⟩ := v5 p hp
    exact ⟨(congrFun (hc 361 (by decide)) p).trans a1, (congrFun (hc 362 (by decide)) p).trans a2, (congrFun (hc 363 (by decide)) p).trans a3, fun j hj => (congrFun (hc 364 (by decide)) _).trans (a4 j hj), fun j hj => hg p hp j hj⟩
  · exact ⟨(congrFun (hc 366 (by decide)) s).trans (v6 s hs).1, fun j hj => (congrFun (hc 367 (by decide)) _).trans ((v6 s hs).2 j hj)⟩
  · exact (congrFun (hc 368 (by decide)) r).trans (v7 r hr)
  · exact (congrFun (hc 369 (by decide)) w).trans (v8 w hw)
  · exact (congrFun (hc 371 (by decide)) j).trans (v9 j hj)
  · exact (congrFun (hc 371 (by decide)) _).trans (v10 j hj)
theorem WF_setG {A : zA} {g : Nat → Nat → Nat} (hW : WF A) (hg : ∀ t, t < aN A → ∀ j, j < gz A t → 33 ≤ g t j ∧ g t j ≤ 126) : WF (setG A g) := by
  obtain ⟨w1, w2, w3⟩ := hW
  exact ⟨w1, fun p hp => ⟨(w2 p hp).1, (w2 p hp).2.1, fun j hj => hg p hp j hj, (w2 p hp).2.2.2⟩, w3⟩
def otg (A : zA) (w u b t j : Nat) : Nat := if 0 < cF A t w ∧ gg A t j = 65 + u then 65 + b else gg A t j
theorem otg_r {A : zA} (hW : WF A) {w u b : Nat} (hb : b < 16) (t : Nat) (ht : t < aN A) (j : Nat) (hj : j < gz A t) : 33 ≤ otg A w u b t j ∧ otg A w u b t j ≤ 126 := by
  have := (hW.2.1 t ht).2.2.1 j hj
  unfold otg
  split <;> omega
theorem otg_0 {A : zA} {w u b t j : Nat} (h : cF A t w ≤ 0) : otg A w u b t j = gg A t j := by
  rw [otg, if_neg (by omega)]
def oc (A : zA) (w u : Nat) : Nat → Nat
  | 0 => 0
  | n + 1 => oc A w u n + if 0 < cF A n w then cG A n u else 0
theorem oc_le {A : zA} (hW : WF A) (w u : Nat) : ∀ n, n ≤ aN A → oc A w u n ≤ 12 * n
  | 0, _ => Nat.le_refl _
  | n + 1, h => by have := oc_le hW w u n (by omega); have := cG_le hW (show n < aN A by omega) u; rw [oc]; split <;> omega

set_option maxRecDepth 100000 in
set_option maxHeartbeats 4000000 in
theorem c_X7_otherwise_u {sc : Nat × (Nat → Int32)} {d : Nat} (I : Nat → Nat → Int32) (J : Nat → Nat → Int64) (x y z : Int32) (hx : ¬ (zz_ix x 16 ∧ zz_ix y 16 ∧ zz_ix z 16)) : EvM sc (d + 2) 0 0 mX7_otherwise [.ref 359, .int x, .int y, .int z] (zz_SH, I, J) (zz_is (.int (-1)) (zz_SH, I, J)) := by
  refine EvM.of (by decide) rfl (Nat.le_of_ble_eq_true rfl) ?_
  show Ev _ _ _ _ _ 0 [some (.ref 359), some (.int x), some (.int y), some (.int z), none, none, none] [] (zz_SH, I, J) _
  refine Ev.run [(.iload_n 1, 1)] (pc' := 1) (L' := [some (.ref 359), some (.int x), some (.int y), some (.int z), none, none, none]) (S' := [.int x]) rfl (by decide +kernel) rfl ?_
  refine Ev.callS0 mX7_isWord [.int x] [] _ rfl lk_RX7_162 (by decide +kernel) rfl (Nat.le_of_ble_eq_true rfl) (c_X7_isWord I J x) ?_
  rintro _ _ ⟨rfl, ⟨rfl, h1⟩ | ⟨rfl, h1⟩⟩
  · show Ev _ _ _ _ _ 4 [some (.ref 359), some (.int x), some (.int y), some (.int z), none, none, none] [.int (nI 1)] (zz_SH, I, J) _
    refine Ev.if_eq (off := 17) (tgt := 21) (by decide +kernel) (by decide) (fun h4 => absurd h4 (by decide)) (fun h4 => ?_)
    refine Ev.run [(.iload_n 2, 1)] (pc' := 8) (L' := [some (.ref 359), some (.int x), some (.int y), some (.int z), none, none, none]) (S' := [.int y]) rfl (by decide +kernel) rfl ?_
    refine Ev.callS0 mX7_isWord [.int y] [] _ rfl lk_RX7_162 (by decide +kernel) rfl (Nat.le_of_ble_eq_true rfl) (c_X7_isWord I J y) ?_
    rintro _ _ ⟨rfl, ⟨rfl, h8⟩ | ⟨rfl, h8⟩⟩
    · show Ev _ _ _ _ _ 11 [some (.ref 359), some (.int x), some (.int y), some (.int z), none, none, none] [.int (nI 1)] (zz_SH, I, J) _
      refine Ev.if_eq (off := 10) (tgt := 21) (by decide +kernel) (by decide) (fun h11 => absurd h11 (by decide)) (fun h11 => ?_)
      refine Ev.run [(.iload_n 3, 1)] (pc' := 15) (L' := [some (.ref 359), some (.int x), some (.int y), some (.int z), none, none, none]) (S' := [.int z]) rfl (by decide +kernel) rfl ?_
      refine Ev.callS0 mX7_isWord [.int z] [] _ rfl lk_RX7_162 (by decide +kernel) rfl (Nat.le_of_ble_eq_true rfl) (c_X7_isWord I J z) ?_
      rintro _ _ ⟨rfl, ⟨rfl, h15⟩ | ⟨rfl, h15⟩⟩
      · exact absurd ⟨h1, h8, h15⟩ hx
      · show Ev _ _ _ _ _ 18 [some (.ref 359), some (.int x), some (.int y), some (.int z), none, none, none] [.int (nI 0)] (zz_SH, I, J) _
        refine Ev.if_ne (off := 5) (tgt := 23) (by decide +kernel) (by decide) (fun h18 => absurd h18 (by decide)) (fun h18 => ?_)
        refine Ev.run [(.iconst (-1), 1)] (pc' := 22) (L' := [some (.ref 359), some (.int x), some (.int y), some (.int z), none, none, none]) (S' := [.int ((-1))]) rfl (by decide +kernel) rfl ?_
        exact Ev.iret rfl (by decide +kernel) (⟨rfl, rfl⟩)
    · show Ev _ _ _ _ _ 11 [some (.ref 359), some (.int x), some (.int y), some (.int z), none, none, none] [.int (nI 0)] (zz_SH, I, J) _
      refine Ev.if_eq (off := 10) (tgt := 21) (by decide +kernel) (by decide) (fun h11 => ?_) (fun h11 => absurd h11 (by decide))
      refine Ev.run [(.iconst (-1), 1)] (pc' := 22) (L' := [some (.ref 359), some (.int x), some (.int y), some (.int z), none, none, none]) (S' := [.int ((-1))]) rfl (by decide +kernel) rfl ?_
      exact Ev.iret rfl (by decide +kernel) (⟨rfl, rfl⟩)
  · show Ev _ _ _ _ _ 4 [some (.ref 359), some (.int x), some (.int y), some (.int z), none, none, none] [.int (nI 0)] (zz_SH, I, J) _
    refine Ev.if_eq (off := 17) (tgt := 21) (by decide +kernel) (by decide) (fun h4 => ?_) (fun h4 => absurd h4 (by decide))
    refine Ev.run [(.iconst (-1), 1)] (pc' := 22) (L' := [some (.ref 359), some (.int x), some (.int y), some (.int z), none, none, none]) (S' := [.int ((-1))]) rfl (by decide +kernel) rfl ?_
    exact Ev.iret rfl (by decide +kernel) (⟨rfl, rfl⟩)

set_option maxRecDepth 100000 in
set_option maxHeartbeats 4000000 in
theorem l_X7_oe {sc : Nat × (Nat → Int32)} {d : Nat} (I : Nat → Nat → Int32) (J : Nat → Nat → Int64) (A : zA) (hV : MV (zVm I) A) (hW : WF A) (w u b : Nat) (hw : w < 16) (hu : u < 16) (hb : b < 16) (hub : u = b) : ∀ (μ : Nat) (p : Nat), aN A - p < μ → (p ≤ aN A) →  Ev sc (d + 2) 0 0 mX7_otherwise 29 [some (.ref 359), some (.int (nI w)), some (.int (nI u)), some (.int (nI b)), some (.int (nI 0)), some (.int (nI p)), none] [] (zz_SH, I, J) (zz_is (.int (nI 0)) (zz_SH, I, J)) := by
  intro μ
  induction μ with
  | zero => intro p hμ; exact absurd hμ (Nat.not_lt_zero _)
  | succ μ ih =>
    intro p hμ hp
    have w1 := hW.1.1
    have w2 := hW.1.2.1
    refine Ev.run [(.iload 5, 2), (.aload_n 0, 1), (.getfield 75, 3)] (pc' := 35) (L' := [some (.ref 359), some (.int (nI w)), some (.int (nI u)), some (.int (nI b)), some (.int (nI 0)), some (.int (nI p)), none]) (S' := [.int (I 359 2), .int (nI p)]) rfl (by decide +kernel) rfl ?_
    rw [show I 359 2 = nI (aN A) from hV.1.1]
    refine Ev.icmp_ge (off := 114) (tgt := 149) (by decide +kernel) (by decide) (fun h35 => ?_) (fun h35 => ?_)
    · have h35 : p ≥ (aN A) := zz_bG_t (by omega) (by omega) h35
      refine Ev.run [(.iload 4, 2)] (pc' := 151) (L' := [some (.ref 359), some (.int (nI w)), some (.int (nI u)), some (.int (nI b)), some (.int (nI 0)), some (.int (nI p)), none]) (S' := [.int (nI 0)]) rfl (by decide +kernel) rfl ?_
      exact Ev.iret rfl (by decide +kernel) (⟨rfl, rfl⟩)
    · have h35 : p < (aN A) := zz_bG_f (by omega) (by omega) h35
      refine Ev.run [(.aload_n 0, 1), (.iload 5, 2), (.iload_n 1, 1)] (pc' := 42) (L' := [some (.ref 359), some (.int (nI w)), some (.int (nI u)), some (.int (nI b)), some (.int (nI 0)), some (.int (nI p)), none]) (S' := [.int (nI w), .int (nI p), .ref 359]) rfl (by decide +kernel) rfl ?_
      refine Ev.callV0 mX7_inFirst [.int (nI p), .int (nI w)] [] _ rfl lk_RX7_165 (by decide +kernel) (rfl) rfl rfl rfl (Nat.le_of_ble_eq_true rfl) (c_X7_inFirst I J A hV hW p w (by omega) hw) ?_
      rintro _ _ ⟨rfl, rfl⟩
      have c1 := cF_le hW (show p < aN A by omega) w
      show Ev _ _ _ _ _ 45 [some (.ref 359), some (.int (nI w)), some (.int (nI u)), some (.int (nI b)), some (.int (nI 0)), some (.int (nI p)), none] [.int (nI (cF A p w))] (zz_SH, I, J) _
      refine Ev.if_le (off := 98) (tgt := 143) (by decide +kernel) (by decide) (fun h45 => ?_) (fun h45 => ?_)
      · have h45 : (cF A p w) ≤ 0 := zz_bG'_t (by omega) (by omega) h45
        refine Ev.run [(.iinc 5 1, 3)] (pc' := 146) (L' := [some (.ref 359), some (.int (nI w)), some (.int (nI u)), some (.int (nI b)), some (.int (nI 0)), some (.int (nI p + 1)), none]) (S' := []) rfl (by decide +kernel) rfl ?_
        rw [nI_1 p]
        refine Ev.goto (off := (-117)) (tgt := 29) (by decide +kernel) (by decide) ?_
        exact ih (p + 1) (by omega) (by omega)
      · have h45 : (cF A p w) > 0 := zz_bG'_f (by omega) (by omega) h45
        refine Ev.run [(.iload_n 2, 1), (.iload_n 3, 1)] (pc' := 50) (L' := [some (.ref 359), some (.int (nI w)), some (.int (nI u)), some (.int (nI b)), some (.int (nI 0)), some (.int (nI p)), none]) (S' := [.int (nI b), .int (nI u)]) rfl (by decide +kernel) rfl ?_
        refine Ev.icmp_eq (off := 93) (tgt := 143) (by decide +kernel) (by decide) (fun h50 => ?_) (fun h50 => ?_)
        · have h50 : u = b := zz_bE_t (by omega) (by omega) h50
          refine Ev.run [(.iinc 5 1, 3)] (pc' := 146) (L' := [some (.ref 359), some (.int (nI w)), some (.int (nI u)), some (.int (nI b)), some (.int (nI 0)), some (.int (nI p + 1)), none]) (S' := []) rfl (by decide +kernel) rfl ?_
          rw [nI_1 p]
          refine Ev.goto (off := (-117)) (tgt := 29) (by decide +kernel) (by decide) ?_
          exact ih (p + 1) (by omega) (by omega)
        · have h50 : ¬ u = b := zz_bE_f (by omega) (by omega) h50
          exfalso; omega

set_option maxRecDepth 100000 in
set_option maxHeartbeats 4000000 in
theorem c_X7_otherwise_e {sc : Nat × (Nat → Int32)} {d : Nat} (I : Nat → Nat → Int32) (J : Nat → Nat → Int64) (A : zA) (hV : MV (zVm I) A) (hW : WF A) (w u b : Nat) (hw : w < 16) (hu : u < 16) (hb : b < 16) (hub : u = b) : EvM sc (d + 2) 0 0 mX7_otherwise [.ref 359, .int (nI w), .int (nI u), .int (nI b)] (zz_SH, I, J) (zz_is (.int (nI 0)) (zz_SH, I, J)) := by
  have w1 := hW.1.1
  have w2 := hW.1.2.1
  refine EvM.of (by decide) rfl (Nat.le_of_ble_eq_true rfl) ?_
  show Ev _ _ _ _ _ 0 [some (.ref 359), some (.int (nI w)), some (.int (nI u)), some (.int (nI b)), none, none, none] [] (zz_SH, I, J) _
  refine Ev.run [(.iload_n 1, 1)] (pc' := 1) (L' := [some (.ref 359), some (.int (nI w)), some (.int (nI u)), some (.int (nI b)), none, none, none]) (S' := [.int (nI w)]) rfl (by decide +kernel) rfl ?_
  refine Ev.callS0 mX7_isWord [.int (nI w)] [] _ rfl lk_RX7_162 (by decide +kernel) rfl (Nat.le_of_ble_eq_true rfl) (c_X7_isWord I J (nI w)) ?_
  rintro _ _ ⟨rfl, ⟨rfl, h1⟩ | ⟨rfl, h1⟩⟩
  · show Ev _ _ _ _ _ 4 [some (.ref 359), some (.int (nI w)), some (.int (nI u)), some (.int (nI b)), none, none, none] [.int (nI 1)] (zz_SH, I, J) _
    refine Ev.if_eq (off := 17) (tgt := 21) (by decide +kernel) (by decide) (fun h4 => absurd h4 (by decide)) (fun h4 => ?_)
    refine Ev.run [(.iload_n 2, 1)] (pc' := 8) (L' := [some (.ref 359), some (.int (nI w)), some (.int (nI u)), some (.int (nI b)), none, none, none]) (S' := [.int (nI u)]) rfl (by decide +kernel) rfl ?_
    refine Ev.callS0 mX7_isWord [.int (nI u)] [] _ rfl lk_RX7_162 (by decide +kernel) rfl (Nat.le_of_ble_eq_true rfl) (c_X7_isWord I J (nI u)) ?_
    rintro _ _ ⟨rfl, ⟨rfl, h8⟩ | ⟨rfl, h8⟩⟩
    · show Ev _ _ _ _ _ 11 [some (.ref 359), some (.int (nI w)), some (.int (nI u)), some (.int (nI b)), none, none, none] [.int (nI 1)] (zz_SH, I, J) _
      refine Ev.if_eq (off := 10) (tgt := 21) (by decide +kernel) (by decide) (fun h11 => absurd h11 (by decide)) (fun h11 => ?_)
      refine Ev.run [(.iload_n 3, 1)] (pc' := 15) (L' := [some (.ref 359), some (.int (nI w)), some (.int (nI u)), some (.int (nI b)), none, none, none]) (S' := [.int (nI b)]) rfl (by decide +kernel) rfl ?_
      refine Ev.callS0 mX7_isWord [.int (nI b)] [] _ rfl lk_RX7_162 (by decide +kernel) rfl (Nat.le_of_ble_eq_true rfl) (c_X7_isWord I J (nI b)) ?_
      rintro _ _ ⟨rfl, ⟨rfl, h15⟩ | ⟨rfl, h15⟩⟩
      · show Ev _ _ _ _ _ 18 [some (.ref 359), some (.int (nI w)), some (.int (nI u)), some (.int (nI b)), none, none, none] [.int (nI 1)] (zz_SH, I, J) _
        refine Ev.if_ne (off := 5) (tgt := 23) (by decide +kernel) (by decide) (fun h18 => ?_) (fun h18 => absurd h18 (by decide))
        refine Ev.run [(.iconst 0, 1), (.istore 4, 2), (.iconst 0, 1), (.istore 5, 2)] (pc' := 29) (L' := [some (.ref 359), some (.int (nI w)), some (.int (nI u)), some (.int (nI b)), some (.int (nI 0)), some (.int (nI 0)), none]) (S' := []) rfl (by decide +kernel) rfl ?_
        exact l_X7_oe I J A hV hW w u b hw hu hb hub (aN A + 1) 0 (by omega) (by omega)
      · exact absurd ⟨b, hb, rfl⟩ h15
    · exact absurd ⟨u, hu, rfl⟩ h8
  · exact absurd ⟨w, hw, rfl⟩ h1

set_option maxRecDepth 100000 in
set_option maxHeartbeats 4000000 in
theorem l_X7_ok1 {sc : Nat × (Nat → Int32)} {d : Nat} (I : Nat → Nat → Int32) (J : Nat → Nat → Int64) (A : zA) (hV : MV (zVm I) A) (hW : WF A) (w u b : Nat) (hw : w < 16) (hu : u < 16) (hb : b < 16) (hub : ¬ u = b) (p : Nat) (hp : p < aN A) (hcf : 0 < cF A p w) (hout : ∀ I2 : Nat → Nat → Int32, (∀ c, c ≠ 365 → I2 c = I c) → (∀ t, t < aN A → ∀ j, j < gz A t → I2 365 (12 * t + j) = nI (if t < p + 1 then otg A w u b t j else gg A t j)) → Ev sc (d + 2) 0 0 mX7_otherwise 143 [some (.ref 359), some (.int (nI w)), some (.int (nI u)), some (.int (nI b)), some (.int (nI (oc A w u p + cG A p u))), some (.int (nI p)), none] [] (zz_SH, I2, J) (fun r σ => r = some (.int (nI (oc A w u (aN A)))) ∧ ∃ I' : Nat → Nat → Int32, (∀ c, c ≠ 365 → I' c = I c) ∧ MV (zVm I') (setG A (otg A w u b)) ∧ σ = (zz_SH, I', J))) : ∀ (μ : Nat) (i : Nat) (I1 : Nat → Nat → Int32), gz A p - i < μ → (i ≤ gz A p) → (∀ c, c ≠ 365 → I1 c = I c) → (∀ t, t < aN A → ∀ j, j < gz A t → I1 365 (12 * t + j) = nI (if t < p ∨ (t = p ∧ j < i) then otg A w u b t j else gg A t j)) →  Ev sc (d + 2) 0 0 mX7_otherwise 60 [some (.ref 359), some (.int (nI w)), some (.int (nI u)), some (.int (nI b)), some (.int (nI (oc A w u p + ctN (gg A p) (65 + u) i))), some (.int (nI p)), some (.int (nI (12 * p + i)))] [] (zz_SH, I1, J) (fun r σ => r = some (.int (nI (oc A w u (aN A)))) ∧ ∃ I' : Nat → Nat → Int32, (∀ c, c ≠ 365 → I' c = I c) ∧ MV (zVm I') (setG A (otg A w u b)) ∧ σ = (zz_SH, I', J)) := by
  intro μ
  induction μ with
  | zero => intro i I1 hμ; exact absurd hμ (Nat.not_lt_zero _)
  | succ μ ih =>
    intro i I1 hμ hi hc hg
    have w1 := hW.1.1
    have w2 := hW.1.2.1
    have z1 := (hW.2.1 p hp).1
    have c1 := oc_le hW w u p (by omega)
    have c2 := ctN_le (gg A p) (65 + u) i
    refine Ev.run [(.iload 6, 2), (.bipush 12, 2), (.iload 5, 2), (.imul, 1)] (pc' := 67) (L' := [some (.ref 359), some (.int (nI w)), some (.int (nI u)), some (.int (nI b)), some (.int (nI (oc A w u p + ctN (gg A p) (65 + u) i))), some (.int (nI p)), some (.int (nI (12 * p + i)))]) (S' := [.int (nI 12 * nI p), .int (nI (12 * p + i))]) rfl (by decide +kernel) rfl ?_
    rw [pk_mul 12 p]
    refine Ev.run [(.aload_n 0, 1), (.getfield 19, 3), (.iload 5, 2)] (pc' := 73) (L' := [some (.ref 359), some (.int (nI w)), some (.int (nI u)), some (.int (nI b)), some (.int (nI (oc A w u p + ctN (gg A p) (65 + u) i))), some (.int (nI p)), some (.int (nI (12 * p + i)))]) (S' := [.int (nI p), .ref 363, .int (nI (12 * p)), .int (nI (12 * p + i))]) rfl (by decide +kernel) rfl ?_
    refine Ev.iald p (by decide +kernel) (rfl) (rfl) (by omega) (by first | decide | omega) ?_
    dsimp only
    rw [show I1 363 p = nI (gz A p) from by rw [hc 363 (by decide)]; exact (hV.2.1 p hp).2.2.1]
    refine Ev.run [(.iadd, 1)] (pc' := 75) (L' := [some (.ref 359), some (.int (nI w)), some (.int (nI u)), some (.int (nI b)), some (.int (nI (oc A w u p + ctN (gg A p) (65 + u) i))), some (.int (nI p)), some (.int (nI (12 * p + i)))]) (S' := [.int (nI (12 * p) + nI (gz A p)), .int (nI (12 * p + i))]) rfl (by decide +kernel) rfl ?_
    rw [nI_add (12 * p) (gz A p)]
    refine Ev.icmp_ge (off := 68) (tgt := 143) (by decide +kernel) (by decide) (fun h75 => ?_) (fun h75 => ?_)
    · have h75 : (12 * p + i) ≥ ((12 * p) + (gz A p)) := zz_bG_t (by omega) (by omega) h75
      refine Ev.weakL (L' := [some (.ref 359), some (.int (nI w)), some (.int (nI u)), some (.int (nI b)), some (.int (nI (oc A w u p + ctN (gg A p) (65 + u) i))), some (.int (nI p)), none]) ⟨rfl, rfl, rfl, rfl, rfl, rfl, trivial⟩ ?_
      have hig : gz A p = i := by omega
      rw [show ctN (gg A p) (65 + u) i = cG A p u from by rw [cG, hig]]
      refine hout I1 hc (fun t ht j hj => ?_)
      rw [hg t ht j hj]
      congr 1
      by_cases q : t < p + 1
      · rw [if_pos q, if_pos (by rcases Nat.lt_or_ge t p with z | z; exact Or.inl z; exact Or.inr ⟨by omega, by rw [show t = p by omega] at hj; omega⟩)]
      · rw [if_neg q, if_neg (by omega)]
    · have h75 : (12 * p + i) < ((12 * p) + (gz A p)) := zz_bG_f (by omega) (by omega) h75
      have g1 := (hW.2.1 p hp).2.2.1 i (by omega)
      refine Ev.run [(.iload 4, 2), (.aload_n 0, 1), (.getfield 25, 3), (.iload 6, 2)] (pc' := 86) (L' := [some (.ref 359), some (.int (nI w)), some (.int (nI u)), some (.int (nI b)), some (.int (nI (oc A w u p + ctN (gg A p) (65 + u) i))), some (.int (nI p)), some (.int (nI (12 * p + i)))]) (S' := [.int (nI (12 * p + i)), .ref 365, .int (nI (oc A w u p + ctN (gg A p) (65 + u) i))]) rfl (by decide +kernel) rfl ?_
      refine Ev.iald (12 * p + i) (by decide +kernel) (rfl) (rfl) (by omega) (by first | decide | omega) ?_
      dsimp only
      rw [show I1 365 (12 * p + i) = nI (gg A p i) from by rw [hg p hp i (by omega), if_neg (by omega)]]
      refine Ev.run [(.bipush 65, 2), (.iload_n 2, 1), (.iadd, 1)] (pc' := 91) (L' := [some (.ref 359), some (.int (nI w)), some (.int (nI u)), some (.int (nI b)), some (.int (nI (oc A w u p + ctN (gg A p) (65 + u) i))), some (.int (nI p)), some (.int (nI (12 * p + i)))]) (S' := [.int (nI 65 + nI u), .int (nI (gg A p i)), .int (nI (oc A w u p + ctN (gg A p) (65 + u) i))]) rfl (by decide +kernel) rfl ?_
      rw [nI_add 65 u]
      refine Ev.icmp_ne (off := 7) (tgt := 98) (by decide +kernel) (by decide) (fun h91 => ?_) (fun h91 => ?_)
      · have h91 : ¬ (gg A p i) = (65 + u) := zz_bE_f (by omega) (by omega) h91
        refine Ev.run [(.iconst 0, 1), (.iadd, 1)] (pc' := 100) (L' := [some (.ref 359), some (.int (nI w)), some (.int (nI u)), some (.int (nI b)), some (.int (nI (oc A w u p + ctN (gg A p) (65 + u) i))), some (.int (nI p)), some (.int (nI (12 * p + i)))]) (S' := [.int (nI (oc A w u p + ctN (gg A p) (65 + u) i) + nI 0)]) rfl (by decide +kernel) rfl ?_
        rw [nI_add (oc A w u p + ctN (gg A p) (65 + u) i) 0]
        refine Ev.run [(.istore 4, 2), (.aload_n 0, 1), (.getfield 25, 3), (.iload 6, 2), (.aload_n 0, 1), (.getfield 25, 3), (.iload 6, 2)] (pc' := 114) (L' := [some (.ref 359), some (.int (nI w)), some (.int (nI u)), some (.int (nI b)), some (.int (nI ((oc A w u p + ctN (gg A p) (65 + u) i) + 0))), some (.int (nI p)), some (.int (nI (12 * p + i)))]) (S' := [.int (nI (12 * p + i)), .ref 365, .int (nI (12 * p + i)), .ref 365]) rfl (by decide +kernel) rfl ?_
        refine Ev.iald (12 * p + i) (by decide +kernel) (rfl) (rfl) (by omega) (by first | decide | omega) ?_
        dsimp only
        rw [show I1 365 (12 * p + i) = nI (gg A p i) from by rw [hg p hp i (by omega), if_neg (by omega)]]
        refine Ev.run [(.bipush 65, 2), (.iload_n 2, 1), (.iadd, 1)] (pc' := 119) (L' := [some (.ref 359), some (.int (nI w)), some (.int (nI u)), some (.int (nI b)), some (.int (nI ((oc A w u p + ctN (gg A p) (65 + u) i) + 0))), some (.int (nI p)), some (.int (nI (12 * p + i)))]) (S' := [.int (nI 65 + nI u), .int (nI (gg A p i)), .int (nI (12 * p + i)), .ref 365]) rfl (by decide +kernel) rfl ?_
        rw [nI_add 65 u]
        refine Ev.icmp_ne (off := 10) (tgt := 129) (by decide +kernel) (by decide) (fun h119 => ?_) (fun h119 => ?_)
        · have h119 : ¬ (gg A p i) = (65 + u) := zz_bE_f (by omega) (by omega) h119
          refine Ev.run [(.aload_n 0, 1), (.getfield 25, 3), (.iload 6, 2)] (pc' := 135) (L' := [some (.ref 359), some (.int (nI w)), some (.int (nI u)), some (.int (nI b)), some (.int (nI ((oc A w u p + ctN (gg A p) (65 + u) i) + 0))), some (.int (nI p)), some (.int (nI (12 * p + i)))]) (S' := [.int (nI (12 * p + i)), .ref 365, .int (nI (12 * p + i)), .ref 365]) rfl (by decide +kernel) rfl ?_
          refine Ev.iald (12 * p + i) (by decide +kernel) (rfl) (rfl) (by omega) (by first | decide | omega) ?_
          dsimp only
          rw [show I1 365 (12 * p + i) = nI (gg A p i) from by rw [hg p hp i (by omega), if_neg (by omega)]]
          refine Ev.iast (12 * p + i) (by decide +kernel) (rfl) (rfl) (by omega) (by first | decide | omega) ?_
          dsimp only
          refine Ev.run [(.iinc 6 1, 3)] (pc' := 140) (L' := [some (.ref 359), some (.int (nI w)), some (.int (nI u)), some (.int (nI b)), some (.int (nI ((oc A w u p + ctN (gg A p) (65 + u) i) + 0))), some (.int (nI p)), some (.int (nI (12 * p + i) + 1))]) (S' := []) rfl (by decide +kernel) rfl ?_
          rw [nI_1 (12 * p + i)]
          refine Ev.goto (off := (-80)) (tgt := 60) (by decide +kernel) (by decide) ?_
          rw [show 12 * p + i + 1 = 12 * p + (i + 1) by omega]
          have hg9 : ∀ t, t < aN A → ∀ j, j < gz A t → (zz_up I1 365 (12 * p + i) (nI (gg A p i))) 365 (12 * t + j) = nI (if t < p ∨ (t = p ∧ j < i + 1) then otg A w u b t j else gg A t j) := by
            intro t ht j hj
            have hz2 := (hW.2.1 t ht).1
            by_cases q : t = p ∧ j = i
            · obtain ⟨q1, q2⟩ := q
              rw [q1, q2, zz_up_eq, zz_ups, if_pos (by omega), otg, if_neg (by omega)]
            · rw [zz_up_eq, zz_upn (by omega), hg t ht j hj]
              congr 1
              by_cases q3 : t < p ∨ (t = p ∧ j < i)
              · rw [if_pos q3, if_pos (by omega)]
              · rw [if_neg q3, if_neg (by omega)]
          have h9 := ih (i + 1) (zz_up I1 365 (12 * p + i) (nI (gg A p i))) (by omega) (by omega) (fun c h1 => by rw [zz_up_ne h1]; exact hc c h1) hg9
          rw [ctN, if_neg h91] at h9
          exact h9
        · have h119 : (gg A p i) = (65 + u) := zz_bE_t (by omega) (by omega) h119
          exfalso; omega
      · have h91 : (gg A p i) = (65 + u) := zz_bE_t (by omega) (by omega) h91
        refine Ev.run [(.iconst 1, 1)] (pc' := 95) (L' := [some (.ref 359), some (.int (nI w)), some (.int (nI u)), some (.int (nI b)), some (.int (nI (oc A w u p + ctN (gg A p) (65 + u) i))), some (.int (nI p)), some (.int (nI (12 * p + i)))]) (S' := [.int (nI 1), .int (nI (oc A w u p + ctN (gg A p) (65 + u) i))]) rfl (by decide +kernel) rfl ?_
        refine Ev.goto (off := 4) (tgt := 99) (by decide +kernel) (by decide) ?_
        refine Ev.run [(.iadd, 1)] (pc' := 100) (L' := [some (.ref 359), some (.int (nI w)), some (.int (nI u)), some (.int (nI b)), some (.int (nI (oc A w u p + ctN (gg A p) (65 + u) i))), some (.int (nI p)), some (.int (nI (12 * p + i)))]) (S' := [.int (nI (oc A w u p + ctN (gg A p) (65 + u) i) + nI 1)]) rfl (by decide +kernel) rfl ?_
        rw [nI_add (oc A w u p + ctN (gg A p) (65 + u) i) 1]
        refine Ev.run [(.istore 4, 2), (.aload_n 0, 1), (.getfield 25, 3), (.iload 6, 2), (.aload_n 0, 1), (.getfield 25, 3), (.iload 6, 2)] (pc' := 114) (L' := [some (.ref 359), some (.int (nI w)), some (.int (nI u)), some (.int (nI b)), some (.int (nI ((oc A w u p + ctN (gg A p) (65 + u) i) + 1))), some (.int (nI p)), some (.int (nI (12 * p + i)))]) (S' := [.int (nI (12 * p + i)), .ref 365, .int (nI (12 * p + i)), .ref 365]) rfl (by decide +kernel) rfl ?_
        refine Ev.iald (12 * p + i) (by decide +kernel) (rfl) (rfl) (by omega) (by first | decide | omega) ?_
        dsimp only
        rw [show I1 365 (12 * p + i) = nI (gg A p i) from by rw [hg p hp i (by omega), if_neg (by omega)]]
        refine Ev.run [(.bipush 65, 2), (.iload_n 2, 1), (.iadd, 1)] (pc' := 119) (L' := [some (.ref 359), some (.int (nI w)), some (.int (nI u)), some (.int (nI b)), some (.int (nI ((oc A w u p + ctN (gg A p) (65 + u) i) + 1))), some (.int (nI p)), some (.int (nI (12 * p + i)))]) (S' := [.int (nI 65 + nI u), .int (nI (gg A p i)), .int (nI (12 * p + i)), .ref 365]) rfl (by decide +kernel) rfl ?_
        rw [nI_add 65 u]
        refine Ev.icmp_ne (off := 10) (tgt := 129) (by decide +kernel) (by decide) (fun h119 => ?_) (fun h119 => ?_)
        · have h119 : ¬ (gg A p i) = (65 + u) := zz_bE_f (by omega) (by omega) h119
          exfalso; omega
        · have h119 : (gg A p i) = (65 + u) := zz_bE_t (by omega) (by omega) h119
          refine Ev.run [(.bipush 65, 2), (.iload_n 3, 1), (.iadd, 1)] (pc' := 126) (L' := [some (.ref 359), some (.int (nI w)), some (.int (nI u)), some (.int (nI b)), some (.int (nI ((oc A w u p + ctN (gg A p) (65 + u) i) + 1))), some (.int (nI p)), some (.int (nI (12 * p + i)))]) (S' := [.int (nI 65 + nI b), .int (nI (12 * p + i)), .ref 365]) rfl (by decide +kernel) rfl ?_
          rw [nI_add 65 b]
          refine Ev.goto (off := 10) (tgt := 136) (by decide +kernel) (by decide) ?_
          refine Ev.iast (12 * p + i) (by decide +kernel) (rfl) (rfl) (by omega) (by first | decide | omega) ?_
          dsimp only
          refine Ev.run [(.iinc 6 1, 3)] (pc' := 140) (L' := [some (.ref 359), some (.int (nI w)), some (.int (nI u)), some (.int (nI b)), some (.int (nI ((oc A w u p + ctN (gg A p) (65 + u) i) + 1))), some (.int (nI p)), some (.int (nI (12 * p + i) + 1))]) (S' := []) rfl (by decide +kernel) rfl ?_
          rw [nI_1 (12 * p + i)]
          refine Ev.goto (off := (-80)) (tgt := 60) (by decide +kernel) (by decide) ?_
          rw [show 12 * p + i + 1 = 12 * p + (i + 1) by omega]
          have hg9 : ∀ t, t < aN A → ∀ j, j < gz A t → (zz_up I1 365 (12 * p + i) (nI (65 + b))) 365 (12 * t + j) = nI (if t < p ∨ (t = p ∧ j < i + 1) then otg A w u b t j else gg A t j) := by
            intro t ht j hj
            have hz2 := (hW.2.1 t ht).1
            by_cases q : t = p ∧ j = i
            · obtain ⟨q1, q2⟩ := q
              rw [q1, q2, zz_up_eq, zz_ups, if_pos (by omega), otg, if_pos (by omega)]
            · rw [zz_up_eq, zz_upn (by omega), hg t ht j hj]
              congr 1
              by_cases q3 : t < p ∨ (t = p ∧ j < i)
              · rw [if_pos q3, if_pos (by omega)]
              · rw [if_neg q3, if_neg (by omega)]
          have h9 := ih (i + 1) (zz_up I1 365 (12 * p + i) (nI (65 + b))) (by omega) (by omega) (fun c h1 => by rw [zz_up_ne h1]; exact hc c h1) hg9
          rw [ctN, if_pos h91] at h9
          exact h9

set_option maxRecDepth 100000 in
set_option maxHeartbeats 4000000 in
theorem l_X7_ok2 {sc : Nat × (Nat → Int32)} {d : Nat} (I : Nat → Nat → Int32) (J : Nat → Nat → Int64) (A : zA) (hV : MV (zVm I) A) (hW : WF A) (w u b : Nat) (hw : w < 16) (hu : u < 16) (hb : b < 16) (hub : ¬ u = b) : ∀ (μ : Nat) (p : Nat) (I1 : Nat → Nat → Int32), aN A - p < μ → (p ≤ aN A) → (∀ c, c ≠ 365 → I1 c = I c) → (∀ t, t < aN A → ∀ j, j < gz A t → I1 365 (12 * t + j) = nI (if t < p then otg A w u b t j else gg A t j)) →  Ev sc (d + 2) 0 0 mX7_otherwise 29 [some (.ref 359), some (.int (nI w)), some (.int (nI u)), some (.int (nI b)), some (.int (nI (oc A w u p))), some (.int (nI p)), none] [] (zz_SH, I1, J) (fun r σ => r = some (.int (nI (oc A w u (aN A)))) ∧ ∃ I' : Nat → Nat → Int32, (∀ c, c ≠ 365 → I' c = I c) ∧ MV (zVm I') (setG A (otg A w u b)) ∧ σ = (zz_SH, I', J)) := by
  intro μ
  induction μ with
  | zero => intro p I1 hμ; exact absurd hμ (Nat.not_lt_zero _)
  | succ μ ih =>
    intro p I1 hμ hp hc hg
    have w1 := hW.1.1
    have w2 := hW.1.2.1
    refine Ev.run [(.iload 5, 2), (.aload_n 0, 1), (.getfield 75, 3)] (pc' := 35) (L' := [some (.ref 359), some (.int (nI w)), some (.int (nI u)), some (.int (nI b)), some (.int (nI (oc A w u p))), some (.int (nI p)), none]) (S' := [.int (I1 359 2), .int (nI p)]) rfl (by decide +kernel) rfl ?_
    rw [show I1 359 2 = nI (aN A) from by rw [hc 359 (by decide)]; exact hV.1.1]
    refine Ev.icmp_ge (off := 114) (tgt := 149) (by decide +kernel) (by decide) (fun h35 => ?_) (fun h35 => ?_)
    · have h35 : p ≥ (aN A) := zz_bG_t (by omega) (by omega) h35
      have hpN : aN A = p := by omega
      refine Ev.run [(.iload 4, 2)] (pc' := 151) (L' := [some (.ref 359), some (.int (nI w)), some (.int (nI u)), some (.int (nI b)), some (.int (nI (oc A w u p))), some (.int (nI p)), none]) (S' := [.int (nI (oc A w u p))]) rfl (by decide +kernel) rfl ?_
      exact Ev.iret rfl (by decide +kernel) (⟨by rw [hpN], I1, hc, MV_setG hV hc (fun t ht j hj => by rw [hg t ht j hj, if_pos (by omega)]), rfl⟩)
    · have h35 : p < (aN A) := zz_bG_f (by omega) (by omega) h35
      refine Ev.run [(.aload_n 0, 1), (.iload 5, 2), (.iload_n 1, 1)] (pc' := 42) (L' := [some (.ref 359), some (.int (nI w)), some (.int (nI u)), some (.int (nI b)), some (.int (nI (oc A w u p))), some (.int (nI p)), none]) (S' := [.int (nI w), .int (nI p), .ref 359]) rfl (by decide +kernel) rfl ?_
      refine Ev.callV0 mX7_inFirst [.int (nI p), .int (nI w)] [] _ rfl lk_RX7_165 (by decide +kernel) (rfl) rfl rfl rfl (Nat.le_of_ble_eq_true rfl) (c_X7_inFirst I1 J (setG A (fun t j => if t < p then otg A w u b t j else gg A t j)) (MV_setG hV hc hg) (WF_setG hW (fun t ht j hj => by show 33 ≤ (if t < p then otg A w u b t j else gg A t j) ∧ (if t < p then otg A w u b t j else gg A t j) ≤ 126; split; exact otg_r hW hb t ht j hj; exact (hW.2.1 t ht).2.2.1 j hj)) p w (by show p < aN A; omega) hw) ?_
      rintro _ _ ⟨rfl, rfl⟩
      have c1 := cF_le hW (show p < aN A by omega) w
      show Ev _ _ _ _ _ 45 [some (.ref 359), some (.int (nI w)), some (.int (nI u)), some (.int (nI b)), some (.int (nI (oc A w u p))), some (.int (nI p)), none] [.int (nI (cF A p w))] (zz_SH, I1, J) _
      refine Ev.if_le (off := 98) (tgt := 143) (by decide +kernel) (by decide) (fun h45 => ?_) (fun h45 => ?_)
      · have h45 : (cF A p w) ≤ 0 := zz_bG'_t (by omega) (by omega) h45
        refine Ev.run [(.iinc 5 1, 3)] (pc' := 146) (L' := [some (.ref 359), some (.int (nI w)), some (.int (nI u)), some (.int (nI b)), some (.int (nI (oc A w u p))), some (.int (nI p + 1)), none]) (S' := []) rfl (by decide +kernel) rfl ?_
        rw [nI_1 p]
        refine Ev.goto (off := (-117)) (tgt := 29) (by decide +kernel) (by decide) ?_
        have h9 := ih (p + 1) I1 (by omega) (by omega) hc (fun t ht j hj => by rw [hg t ht j hj]; congr 1; by_cases q : t < p; rw [if_pos q, if_pos (by omega)]; by_cases q2 : t = p; rw [if_neg q, if_pos (by omega), q2, otg_0 h45]; rw [if_neg q, if_neg (by omega)])
        rw [oc, if_neg (by omega)] at h9
        exact h9
      · have h45 : (cF A p w) > 0 := zz_bG'_f (by omega) (by omega) h45
        refine Ev.run [(.iload_n 2, 1), (.iload_n 3, 1)] (pc' := 50) (L' := [some (.ref 359), some (.int (nI w)), some (.int (nI u)), some (.int (nI b)), some (.int (nI (oc A w u p))), some (.int (nI p)), none]) (S' := [.int (nI b), .int (nI u)]) rfl (by decide +kernel) rfl ?_
        refine Ev.icmp_eq (off := 93) (tgt := 143) (by decide +kernel) (by decide) (fun h50 => ?_) (fun h50 => ?_)
        · have h50 : u = b := zz_bE_t (by omega) (by omega) h50
          exfalso; omega
        · have h50 : ¬ u = b := zz_bE_f (by omega) (by omega) h50
          refine Ev.run [(.bipush 12, 2), (.iload 5, 2), (.imul, 1)] (pc' := 58) (L' := [some (.ref 359), some (.int (nI w)), some (.int (nI u)), some (.int (nI b)), some (.int (nI (oc A w u p))), some (.int (nI p)), none]) (S' := [.int (nI 12 * nI p)]) rfl (by decide +kernel) rfl ?_
          rw [pk_mul 12 p]
          refine Ev.run [(.istore 6, 2)] (pc' := 60) (L' := [some (.ref 359), some (.int (nI w)), some (.int (nI u)), some (.int (nI b)), some (.int (nI (oc A w u p))), some (.int (nI p)), some (.int (nI (12 * p)))]) (S' := []) rfl (by decide +kernel) rfl ?_
          refine l_X7_ok1 I J A hV hW w u b hw hu hb hub p (by omega) (by omega) ?_ (gz A p + 1) 0 I1 (by omega) (by omega) hc (fun t ht j hj => by rw [hg t ht j hj]; congr 1; by_cases q : t < p; rw [if_pos q, if_pos (by omega)]; rw [if_neg q, if_neg (by omega)])
          intro I2 hc2 hg2
          show Ev _ _ _ _ _ 143 [some (.ref 359), some (.int (nI w)), some (.int (nI u)), some (.int (nI b)), some (.int (nI (oc A w u p + cG A p u))), some (.int (nI p)), none] [] (zz_SH, I2, J) _
          refine Ev.run [(.iinc 5 1, 3)] (pc' := 146) (L' := [some (.ref 359), some (.int (nI w)), some (.int (nI u)), some (.int (nI b)), some (.int (nI (oc A w u p + cG A p u))), some (.int (nI p + 1)), none]) (S' := []) rfl (by decide +kernel) rfl ?_
          rw [nI_1 p]
          refine Ev.goto (off := (-117)) (tgt := 29) (by decide +kernel) (by decide) ?_
          have h9 := ih (p + 1) I2 (by omega) (by omega) hc2 hg2
          rw [oc, if_pos (by omega)] at h9
          exact h9

set_option maxRecDepth 100000 in
set_option maxHeartbeats 4000000 in
theorem c_X7_otherwise_k {sc : Nat × (Nat → Int32)} {d : Nat} (I : Nat → Nat → Int32) (J : Nat → Nat → Int64) (A : zA) (hV : MV (zVm I) A) (hW : WF A) (w u b : Nat) (hw : w < 16) (hu : u < 16) (hb : b < 16) (hub : ¬ u = b) : EvM sc (d + 2) 0 0 mX7_otherwise [.ref 359, .int (nI w), .int (nI u), .int (nI b)] (zz_SH, I, J) (fun r σ => r = some (.int (nI (oc A w u (aN A)))) ∧ ∃ I' : Nat → Nat → Int32, (∀ c, c ≠ 365 → I' c = I c) ∧ MV (zVm I') (setG A (otg A w u b)) ∧ σ = (zz_SH, I', J)) := by
  have w1 := hW.1.1
  have w2 := hW.1.2.1
  refine EvM.of (by decide) rfl (Nat.le_of_ble_eq_true rfl) ?_
  show Ev _ _ _ _ _ 0 [some (.ref 359), some (.int (nI w)), some (.int (nI u)), some (.int (nI b)), none, none, none] [] (zz_SH, I, J) _
  refine Ev.run [(.iload_n 1, 1)] (pc' := 1) (L' := [some (.ref 359), some (.int (nI w)), some (.int (nI u)), some (.int (nI b)), none, none, none]) (S' := [.int (nI w)]) rfl (by decide +kernel) rfl ?_
  refine Ev.callS0 mX7_isWord [.int (nI w)] [] _ rfl lk_RX7_162 (by decide +kernel) rfl (Nat.le_of_ble_eq_true rfl) (c_X7_isWord I J (nI w)) ?_
  rintro _ _ ⟨rfl, ⟨rfl, h1⟩ | ⟨rfl, h1⟩⟩
  · show Ev _ _ _ _ _ 4 [some (.ref 359), some (.int (nI w)), some (.int (nI u)), some (.int (nI b)), none, none, none] [.int (nI 1)] (zz_SH, I, J) _
    refine Ev.if_eq (off := 17) (tgt := 21) (by decide +kernel) (by decide) (fun h4 => absurd h4 (by decide)) (fun h4 => ?_)
    refine Ev.run [(.iload_n 2, 1)] (pc' := 8) (L' := [some (.ref 359), some (.int (nI w)), some (.int (nI u)), some (.int (nI b)), none, none, none]) (S' := [.int (nI u)]) rfl (by decide +kernel) rfl ?_
    refine Ev.callS0 mX7_isWord [.int (nI u)] [] _ rfl lk_RX7_162 (by decide +kernel) rfl (Nat.le_of_ble_eq_true rfl) (c_X7_isWord I J (nI u)) ?_
    rintro _ _ ⟨rfl, ⟨rfl, h8⟩ | ⟨rfl, h8⟩⟩
    · show Ev _ _ _ _ _ 11 [some (.ref 359), some (.int (nI w)), some (.int (nI u)), some (.int (nI b)), none, none, none] [.int (nI 1)] (zz_SH, I, J) _
      refine Ev.if_eq (off := 10) (tgt := 21) (by decide +kernel) (by decide) (fun h11 => absurd h11 (by decide)) (fun h11 => ?_)
      refine Ev.run [(.iload_n 3, 1)] (pc' := 15) (L' := [some (.ref 359), some (.int (nI w)), some (.int (nI u)), some (.int (nI b)), none, none, none]) (S' := [.int (nI b)]) rfl (by decide +kernel) rfl ?_
      refine Ev.callS0 mX7_isWord [.int (nI b)] [] _ rfl lk_RX7_162 (by decide +kernel) rfl (Nat.le_of_ble_eq_true rfl) (c_X7_isWord I J (nI b)) ?_
      rintro _ _ ⟨rfl, ⟨rfl, h15⟩ | ⟨rfl, h15⟩⟩
      · show Ev _ _ _ _ _ 18 [some (.ref 359), some (.int (nI w)), some (.int (nI u)), some (.int (nI b)), none, none, none] [.int (nI 1)] (zz_SH, I, J) _
        refine Ev.if_ne (off := 5) (tgt := 23) (by decide +kernel) (by decide) (fun h18 => ?_) (fun h18 => absurd h18 (by decide))
        refine Ev.run [(.iconst 0, 1), (.istore 4, 2), (.iconst 0, 1), (.istore 5, 2)] (pc' := 29) (L' := [some (.ref 359), some (.int (nI w)), some (.int (nI u)), some (.int (nI b)), some (.int (nI 0)), some (.int (nI 0)), none]) (S' := []) rfl (by decide +kernel) rfl ?_
        exact l_X7_ok2 I J A hV hW w u b hw hu hb hub (aN A + 1) 0 I (by omega) (by omega) (fun _ _ => rfl) (fun t ht j hj => by rw [if_neg (by omega)]; exact (hV.2.1 t ht).2.2.2.2 j hj)
      · exact absurd ⟨b, hb, rfl⟩ h15
    · exact absurd ⟨u, hu, rfl⟩ h8
  · exact absurd ⟨w, hw, rfl⟩ h1
end
