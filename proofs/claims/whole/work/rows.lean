section
-- ===== PART A: goes FIRST, ahead of the names: the tables' words, and 'selects' of the private methods out of them =====
/-- a private method of a class that the tables say can be made, by its rows of tables_1 -/
def lw_okq (q : MethodName × Nat) : Prop := (q.1.cls ≠ "java/lang/invoke/MethodHandle" ∧ q.1.cls ≠ "java/lang/invoke/VarHandle") ∧ Cond.instantiable q.1.cls q.2 ∈ tables_1 ∧ Cond.privateMethod q.1 ∈ tables_1 ∧ Cond.instanceMethod q.1 ∈ tables_1
theorem lw_p0 : lw_okq (⟨"SaidAlready", "faultAsSentence", "()I"⟩, 7) := ⟨⟨by decide +kernel, by decide +kernel⟩, List.mem_of_getElem? (i := 12) (by decide +kernel), List.mem_of_getElem? (i := 218) (by decide +kernel), List.mem_of_getElem? (i := 219) (by decide +kernel)⟩
theorem lw_p1 : lw_okq (⟨"SaidAlready", "endOfTongue", "(II)I"⟩, 7) := ⟨⟨by decide +kernel, by decide +kernel⟩, List.mem_of_getElem? (i := 12) (by decide +kernel), List.mem_of_getElem? (i := 222) (by decide +kernel), List.mem_of_getElem? (i := 223) (by decide +kernel)⟩
theorem lw_p2 : lw_okq (⟨"SaidAlready", "faultAsPair", "()I"⟩, 7) := ⟨⟨by decide +kernel, by decide +kernel⟩, List.mem_of_getElem? (i := 12) (by decide +kernel), List.mem_of_getElem? (i := 236) (by decide +kernel), List.mem_of_getElem? (i := 237) (by decide +kernel)⟩
theorem lw_p3 : lw_okq (⟨"SaidAlready$Likeness", "matchOf", "(LSaidAlready$Memory;II)I"⟩, 1) := ⟨⟨by decide +kernel, by decide +kernel⟩, List.mem_of_getElem? (i := 115) (by decide +kernel), List.mem_of_getElem? (i := 258) (by decide +kernel), List.mem_of_getElem? (i := 259) (by decide +kernel)⟩
theorem lw_p4 : lw_okq (⟨"SaidAlready$Likeness", "likeOf", "(LSaidAlready$Row;LSaidAlready$Row;)I"⟩, 1) := ⟨⟨by decide +kernel, by decide +kernel⟩, List.mem_of_getElem? (i := 115) (by decide +kernel), List.mem_of_getElem? (i := 262) (by decide +kernel), List.mem_of_getElem? (i := 263) (by decide +kernel)⟩
theorem lw_p5 : lw_okq (⟨"SaidAlready$Prices", "readRatesByMemory", "(LSaidAlready$Memory;)V"⟩, 6) := ⟨⟨by decide +kernel, by decide +kernel⟩, List.mem_of_getElem? (i := 126) (by decide +kernel), List.mem_of_getElem? (i := 368) (by decide +kernel), List.mem_of_getElem? (i := 369) (by decide +kernel)⟩
theorem lw_p6 : lw_okq (⟨"SaidAlready$Prices", "readHelpers", "(LSaidAlready$Memory;)V"⟩, 6) := ⟨⟨by decide +kernel, by decide +kernel⟩, List.mem_of_getElem? (i := 126) (by decide +kernel), List.mem_of_getElem? (i := 373) (by decide +kernel), List.mem_of_getElem? (i := 374) (by decide +kernel)⟩
theorem lw_p7 : lw_okq (⟨"SaidAlready$Prices", "chooseNext", "(LSaidAlready$Memory;I)V"⟩, 6) := ⟨⟨by decide +kernel, by decide +kernel⟩, List.mem_of_getElem? (i := 126) (by decide +kernel), List.mem_of_getElem? (i := 377) (by decide +kernel), List.mem_of_getElem? (i := 378) (by decide +kernel)⟩
theorem lw_p8 : lw_okq (⟨"SaidAlready$Prices", "priceWith", "(LSaidAlready$Memory;II)I"⟩, 6) := ⟨⟨by decide +kernel, by decide +kernel⟩, List.mem_of_getElem? (i := 126) (by decide +kernel), List.mem_of_getElem? (i := 382) (by decide +kernel), List.mem_of_getElem? (i := 383) (by decide +kernel)⟩
theorem lw_p9 : lw_okq (⟨"SaidAlready$Prices", "readNeeded", "(LSaidAlready$Memory;)V"⟩, 6) := ⟨⟨by decide +kernel, by decide +kernel⟩, List.mem_of_getElem? (i := 126) (by decide +kernel), List.mem_of_getElem? (i := 399) (by decide +kernel), List.mem_of_getElem? (i := 400) (by decide +kernel)⟩
theorem lw_p10 : lw_okq (⟨"SaidAlready$Prices", "isEnough", "(LSaidAlready$Memory;I)Z"⟩, 6) := ⟨⟨by decide +kernel, by decide +kernel⟩, List.mem_of_getElem? (i := 126) (by decide +kernel), List.mem_of_getElem? (i := 409) (by decide +kernel), List.mem_of_getElem? (i := 410) (by decide +kernel)⟩
theorem lw_p11 : lw_okq (⟨"SaidAlready$Laying", "layFrom", "(LSaidAlready$Row;ILSaidAlready$Row;I)V"⟩, 3) := ⟨⟨by decide +kernel, by decide +kernel⟩, List.mem_of_getElem? (i := 155) (by decide +kernel), List.mem_of_getElem? (i := 498) (by decide +kernel), List.mem_of_getElem? (i := 499) (by decide +kernel)⟩
theorem lw_p12 : lw_okq (⟨"SaidAlready$Laying", "costWith", "(LSaidAlready$Row;ILSaidAlready$Row;II)I"⟩, 3) := ⟨⟨by decide +kernel, by decide +kernel⟩, List.mem_of_getElem? (i := 155) (by decide +kernel), List.mem_of_getElem? (i := 510) (by decide +kernel), List.mem_of_getElem? (i := 511) (by decide +kernel)⟩
theorem lw_p13 : lw_okq (⟨"SaidAlready$Laying", "readSteps", "(LSaidAlready$Row;LSaidAlready$Row;)V"⟩, 3) := ⟨⟨by decide +kernel, by decide +kernel⟩, List.mem_of_getElem? (i := 155) (by decide +kernel), List.mem_of_getElem? (i := 523) (by decide +kernel), List.mem_of_getElem? (i := 524) (by decide +kernel)⟩
theorem lw_p14 : lw_okq (⟨"SaidAlready$Laying", "firstOfLeast", "(LSaidAlready$Row;ILSaidAlready$Row;I)I"⟩, 3) := ⟨⟨by decide +kernel, by decide +kernel⟩, List.mem_of_getElem? (i := 155) (by decide +kernel), List.mem_of_getElem? (i := 527) (by decide +kernel), List.mem_of_getElem? (i := 528) (by decide +kernel)⟩
theorem lw_p15 : lw_okq (⟨"SaidAlready$Memory", "takePairs", "(LSaidAlready$Memory;)V"⟩, 12) := ⟨⟨by decide +kernel, by decide +kernel⟩, List.mem_of_getElem? (i := 39) (by decide +kernel), List.mem_of_getElem? (i := 540) (by decide +kernel), List.mem_of_getElem? (i := 541) (by decide +kernel)⟩
def lw_privs_1 : List (MethodName × Nat) := [(⟨"SaidAlready", "faultAsSentence", "()I"⟩, 7), (⟨"SaidAlready", "endOfTongue", "(II)I"⟩, 7), (⟨"SaidAlready", "faultAsPair", "()I"⟩, 7), (⟨"SaidAlready$Likeness", "matchOf", "(LSaidAlready$Memory;II)I"⟩, 1), (⟨"SaidAlready$Likeness", "likeOf", "(LSaidAlready$Row;LSaidAlready$Row;)I"⟩, 1), (⟨"SaidAlready$Prices", "readRatesByMemory", "(LSaidAlready$Memory;)V"⟩, 6), (⟨"SaidAlready$Prices", "readHelpers", "(LSaidAlready$Memory;)V"⟩, 6), (⟨"SaidAlready$Prices", "chooseNext", "(LSaidAlready$Memory;I)V"⟩, 6), (⟨"SaidAlready$Prices", "priceWith", "(LSaidAlready$Memory;II)I"⟩, 6), (⟨"SaidAlready$Prices", "readNeeded", "(LSaidAlready$Memory;)V"⟩, 6), (⟨"SaidAlready$Prices", "isEnough", "(LSaidAlready$Memory;I)Z"⟩, 6), (⟨"SaidAlready$Laying", "layFrom", "(LSaidAlready$Row;ILSaidAlready$Row;I)V"⟩, 3), (⟨"SaidAlready$Laying", "costWith", "(LSaidAlready$Row;ILSaidAlready$Row;II)I"⟩, 3), (⟨"SaidAlready$Laying", "readSteps", "(LSaidAlready$Row;LSaidAlready$Row;)V"⟩, 3), (⟨"SaidAlready$Laying", "firstOfLeast", "(LSaidAlready$Row;ILSaidAlready$Row;I)I"⟩, 3), (⟨"SaidAlready$Memory", "takePairs", "(LSaidAlready$Memory;)V"⟩, 12)]
theorem lw_r1 : ∀ q ∈ lw_privs_1, lw_okq q := List.forall_mem_cons.mpr ⟨lw_p0, List.forall_mem_cons.mpr ⟨lw_p1, List.forall_mem_cons.mpr ⟨lw_p2, List.forall_mem_cons.mpr ⟨lw_p3, List.forall_mem_cons.mpr ⟨lw_p4, List.forall_mem_cons.mpr ⟨lw_p5, List.forall_mem_cons.mpr ⟨lw_p6, List.forall_mem_cons.mpr ⟨lw_p7, List.forall_mem_cons.mpr ⟨lw_p8, List.forall_mem_cons.mpr ⟨lw_p9, List.forall_mem_cons.mpr ⟨lw_p10, List.forall_mem_cons.mpr ⟨lw_p11, List.forall_mem_cons.mpr ⟨lw_p12, List.forall_mem_cons.mpr ⟨lw_p13, List.forall_mem_cons.mpr ⟨lw_p14, List.forall_mem_cons.mpr ⟨lw_p15, fun _ h => absurd h List.not_mem_nil⟩⟩⟩⟩⟩⟩⟩⟩⟩⟩⟩⟩⟩⟩⟩⟩
theorem lw_p16 : lw_okq (⟨"SaidAlready$Memory", "takeText", "(LSaidAlready$Memory;)V"⟩, 12) := ⟨⟨by decide +kernel, by decide +kernel⟩, List.mem_of_getElem? (i := 39) (by decide +kernel), List.mem_of_getElem? (i := 549) (by decide +kernel), List.mem_of_getElem? (i := 550) (by decide +kernel)⟩
theorem lw_p17 : lw_okq (⟨"SaidAlready", "toldOfSettings", "(I)I"⟩, 7) := ⟨⟨by decide +kernel, by decide +kernel⟩, List.mem_of_getElem? (i := 12) (by decide +kernel), List.mem_of_getElem? (i := 561) (by decide +kernel), List.mem_of_getElem? (i := 562) (by decide +kernel)⟩
theorem lw_p18 : lw_okq (⟨"SaidAlreadyModel", "faultOf", "(I)I"⟩, 28) := ⟨⟨by decide +kernel, by decide +kernel⟩, List.mem_of_getElem? (i := 565) (by decide +kernel), List.mem_of_getElem? (i := 671) (by decide +kernel), List.mem_of_getElem? (i := 672) (by decide +kernel)⟩
theorem lw_p19 : lw_okq (⟨"SaidAlreadyModel", "isPair", "(I)Z"⟩, 28) := ⟨⟨by decide +kernel, by decide +kernel⟩, List.mem_of_getElem? (i := 565) (by decide +kernel), List.mem_of_getElem? (i := 682) (by decide +kernel), List.mem_of_getElem? (i := 683) (by decide +kernel)⟩
theorem lw_p20 : lw_okq (⟨"SaidAlreadyModel", "isSentence", "(I)Z"⟩, 28) := ⟨⟨by decide +kernel, by decide +kernel⟩, List.mem_of_getElem? (i := 565) (by decide +kernel), List.mem_of_getElem? (i := 698) (by decide +kernel), List.mem_of_getElem? (i := 699) (by decide +kernel)⟩
theorem lw_p21 : lw_okq (⟨"SaidAlreadyModel", "farOf", "([III[III)I"⟩, 28) := ⟨⟨by decide +kernel, by decide +kernel⟩, List.mem_of_getElem? (i := 565) (by decide +kernel), List.mem_of_getElem? (i := 702) (by decide +kernel), List.mem_of_getElem? (i := 703) (by decide +kernel)⟩
theorem lw_p22 : lw_okq (⟨"SaidAlreadyModel", "matchOf", "(II)I"⟩, 28) := ⟨⟨by decide +kernel, by decide +kernel⟩, List.mem_of_getElem? (i := 565) (by decide +kernel), List.mem_of_getElem? (i := 713) (by decide +kernel), List.mem_of_getElem? (i := 714) (by decide +kernel)⟩
theorem lw_p23 : lw_okq (⟨"SaidAlreadyModel", "likePair", "(II)I"⟩, 28) := ⟨⟨by decide +kernel, by decide +kernel⟩, List.mem_of_getElem? (i := 565) (by decide +kernel), List.mem_of_getElem? (i := 717) (by decide +kernel), List.mem_of_getElem? (i := 718) (by decide +kernel)⟩
theorem lw_p24 : lw_okq (⟨"SaidAlreadyModel", "foundOf", "(I)I"⟩, 28) := ⟨⟨by decide +kernel, by decide +kernel⟩, List.mem_of_getElem? (i := 565) (by decide +kernel), List.mem_of_getElem? (i := 728) (by decide +kernel), List.mem_of_getElem? (i := 729) (by decide +kernel)⟩
theorem lw_p25 : lw_okq (⟨"SaidAlreadyModel", "doesFill", "(II)Z"⟩, 28) := ⟨⟨by decide +kernel, by decide +kernel⟩, List.mem_of_getElem? (i := 565) (by decide +kernel), List.mem_of_getElem? (i := 736) (by decide +kernel), List.mem_of_getElem? (i := 737) (by decide +kernel)⟩
theorem lw_p26 : lw_okq (⟨"SaidAlreadyModel", "priceOf", "(I)I"⟩, 28) := ⟨⟨by decide +kernel, by decide +kernel⟩, List.mem_of_getElem? (i := 565) (by decide +kernel), List.mem_of_getElem? (i := 748) (by decide +kernel), List.mem_of_getElem? (i := 749) (by decide +kernel)⟩
theorem lw_p27 : lw_okq (⟨"SaidAlreadyModel", "layOrders", "()V"⟩, 28) := ⟨⟨by decide +kernel, by decide +kernel⟩, List.mem_of_getElem? (i := 565) (by decide +kernel), List.mem_of_getElem? (i := 759) (by decide +kernel), List.mem_of_getElem? (i := 760) (by decide +kernel)⟩
theorem lw_p28 : lw_okq (⟨"SaidAlreadyModel", "layBeside", "()V"⟩, 28) := ⟨⟨by decide +kernel, by decide +kernel⟩, List.mem_of_getElem? (i := 565) (by decide +kernel), List.mem_of_getElem? (i := 763) (by decide +kernel), List.mem_of_getElem? (i := 764) (by decide +kernel)⟩
theorem lw_p29 : lw_okq (⟨"SaidAlreadyModel", "likeOf", "(II)I"⟩, 28) := ⟨⟨by decide +kernel, by decide +kernel⟩, List.mem_of_getElem? (i := 565) (by decide +kernel), List.mem_of_getElem? (i := 767) (by decide +kernel), List.mem_of_getElem? (i := 768) (by decide +kernel)⟩
theorem lw_p30 : lw_okq (⟨"SaidAlreadyModel", "costs", "(II)I"⟩, 28) := ⟨⟨by decide +kernel, by decide +kernel⟩, List.mem_of_getElem? (i := 565) (by decide +kernel), List.mem_of_getElem? (i := 773) (by decide +kernel), List.mem_of_getElem? (i := 774) (by decide +kernel)⟩
theorem lw_p31 : lw_okq (⟨"SaidAlreadyModel", "layNeeds", "()V"⟩, 28) := ⟨⟨by decide +kernel, by decide +kernel⟩, List.mem_of_getElem? (i := 565) (by decide +kernel), List.mem_of_getElem? (i := 781) (by decide +kernel), List.mem_of_getElem? (i := 782) (by decide +kernel)⟩
def lw_privs_2 : List (MethodName × Nat) := [(⟨"SaidAlready$Memory", "takeText", "(LSaidAlready$Memory;)V"⟩, 12), (⟨"SaidAlready", "toldOfSettings", "(I)I"⟩, 7), (⟨"SaidAlreadyModel", "faultOf", "(I)I"⟩, 28), (⟨"SaidAlreadyModel", "isPair", "(I)Z"⟩, 28), (⟨"SaidAlreadyModel", "isSentence", "(I)Z"⟩, 28), (⟨"SaidAlreadyModel", "farOf", "([III[III)I"⟩, 28), (⟨"SaidAlreadyModel", "matchOf", "(II)I"⟩, 28), (⟨"SaidAlreadyModel", "likePair", "(II)I"⟩, 28), (⟨"SaidAlreadyModel", "foundOf", "(I)I"⟩, 28), (⟨"SaidAlreadyModel", "doesFill", "(II)Z"⟩, 28), (⟨"SaidAlreadyModel", "priceOf", "(I)I"⟩, 28), (⟨"SaidAlreadyModel", "layOrders", "()V"⟩, 28), (⟨"SaidAlreadyModel", "layBeside", "()V"⟩, 28), (⟨"SaidAlreadyModel", "likeOf", "(II)I"⟩, 28), (⟨"SaidAlreadyModel", "costs", "(II)I"⟩, 28), (⟨"SaidAlreadyModel", "layNeeds", "()V"⟩, 28)]
theorem lw_r2 : ∀ q ∈ lw_privs_2, lw_okq q := List.forall_mem_cons.mpr ⟨lw_p16, List.forall_mem_cons.mpr ⟨lw_p17, List.forall_mem_cons.mpr ⟨lw_p18, List.forall_mem_cons.mpr ⟨lw_p19, List.forall_mem_cons.mpr ⟨lw_p20, List.forall_mem_cons.mpr ⟨lw_p21, List.forall_mem_cons.mpr ⟨lw_p22, List.forall_mem_cons.mpr ⟨lw_p23, List.forall_mem_cons.mpr ⟨lw_p24, List.forall_mem_cons.mpr ⟨lw_p25, List.forall_mem_cons.mpr ⟨lw_p26, List.forall_mem_cons.mpr ⟨lw_p27, List.forall_mem_cons.mpr ⟨lw_p28, List.forall_mem_cons.mpr ⟨lw_p29, List.forall_mem_cons.mpr ⟨lw_p30, List.forall_mem_cons.mpr ⟨lw_p31, fun _ h => absurd h List.not_mem_nil⟩⟩⟩⟩⟩⟩⟩⟩⟩⟩⟩⟩⟩⟩⟩⟩
theorem lw_p32 : lw_okq (⟨"SaidAlreadyModel", "isWrong", "(I)Z"⟩, 28) := ⟨⟨by decide +kernel, by decide +kernel⟩, List.mem_of_getElem? (i := 565) (by decide +kernel), List.mem_of_getElem? (i := 799) (by decide +kernel), List.mem_of_getElem? (i := 800) (by decide +kernel)⟩
theorem lw_p33 : lw_okq (⟨"SaidAlreadyModel", "inFirst", "(II)I"⟩, 28) := ⟨⟨by decide +kernel, by decide +kernel⟩, List.mem_of_getElem? (i := 565) (by decide +kernel), List.mem_of_getElem? (i := 803) (by decide +kernel), List.mem_of_getElem? (i := 804) (by decide +kernel)⟩
theorem lw_p34 : lw_okq (⟨"SaidAlreadyModel", "inSecond", "(II)I"⟩, 28) := ⟨⟨by decide +kernel, by decide +kernel⟩, List.mem_of_getElem? (i := 565) (by decide +kernel), List.mem_of_getElem? (i := 807) (by decide +kernel), List.mem_of_getElem? (i := 808) (by decide +kernel)⟩
theorem lw_p35 : lw_okq (⟨"SaidAlreadyModel", "layGoes", "(II)V"⟩, 28) := ⟨⟨by decide +kernel, by decide +kernel⟩, List.mem_of_getElem? (i := 565) (by decide +kernel), List.mem_of_getElem? (i := 817) (by decide +kernel), List.mem_of_getElem? (i := 818) (by decide +kernel)⟩
theorem lw_p36 : lw_okq (⟨"SaidAlreadyModel", "layCosts", "()V"⟩, 28) := ⟨⟨by decide +kernel, by decide +kernel⟩, List.mem_of_getElem? (i := 565) (by decide +kernel), List.mem_of_getElem? (i := 848) (by decide +kernel), List.mem_of_getElem? (i := 849) (by decide +kernel)⟩
theorem lw_p37 : lw_okq (⟨"SaidAlreadyModel", "stepCosts", "(III)I"⟩, 28) := ⟨⟨by decide +kernel, by decide +kernel⟩, List.mem_of_getElem? (i := 565) (by decide +kernel), List.mem_of_getElem? (i := 852) (by decide +kernel), List.mem_of_getElem? (i := 853) (by decide +kernel)⟩
def lw_privs_3 : List (MethodName × Nat) := [(⟨"SaidAlreadyModel", "isWrong", "(I)Z"⟩, 28), (⟨"SaidAlreadyModel", "inFirst", "(II)I"⟩, 28), (⟨"SaidAlreadyModel", "inSecond", "(II)I"⟩, 28), (⟨"SaidAlreadyModel", "layGoes", "(II)V"⟩, 28), (⟨"SaidAlreadyModel", "layCosts", "()V"⟩, 28), (⟨"SaidAlreadyModel", "stepCosts", "(III)I"⟩, 28)]
theorem lw_r3 : ∀ q ∈ lw_privs_3, lw_okq q := List.forall_mem_cons.mpr ⟨lw_p32, List.forall_mem_cons.mpr ⟨lw_p33, List.forall_mem_cons.mpr ⟨lw_p34, List.forall_mem_cons.mpr ⟨lw_p35, List.forall_mem_cons.mpr ⟨lw_p36, List.forall_mem_cons.mpr ⟨lw_p37, fun _ h => absurd h List.not_mem_nil⟩⟩⟩⟩⟩⟩
def lw_privs : List (MethodName × Nat) := lw_privs_1 ++ (lw_privs_2 ++ (lw_privs_3))
def lw_tbl : List Cond := k2_sels lw_privs ++ tables_1
theorem lw_privs_ok : ∀ q ∈ lw_privs, lw_okq q := by
  show ∀ q ∈ lw_privs_1 ++ (lw_privs_2 ++ (lw_privs_3)), lw_okq q
  exact List.forall_mem_append.mpr ⟨lw_r1, List.forall_mem_append.mpr ⟨lw_r2, lw_r3⟩⟩
-- ===== end of PART A; then your names; then what follows =====
end
section
/-! ===== BEGIN words of one list among another's, by their places ===== -/
theorem goodIn_r {big : List Cond} (ws : List Cond) (ps : List Nat) (hp : ws = ps.filterMap (fun i => big[i]?)) (h : ws.all goodWord = true) : GoodIn big ws := by
  intro w hw
  have h1 := List.all_eq_true.mp h w hw
  rw [hp] at hw
  obtain ⟨i, -, hi⟩ := List.mem_filterMap.mp hw
  have hm : w ∈ big := by first | exact List.mem_of_getElem? hi | exact List.getElem?_mem hi
  exact ⟨hm, good_of_word h1⟩
theorem goodIn_app {big a b : List Cond} (ha : GoodIn big a) (hb : GoodIn big b) : GoodIn big (a ++ b) := fun w h => (List.mem_append.mp h).elim (ha w) (hb w)
theorem goodIn_ca {big a b : List Cond} {c : Cond} (ha : GoodIn big (c :: a)) (hb : GoodIn big b) : GoodIn big (c :: (a ++ b)) := fun w h => (List.mem_cons.mp h).elim (fun e => ha w (List.mem_cons.mpr (Or.inl e))) (fun h => (List.mem_append.mp h).elim (fun h => ha w (List.mem_cons.mpr (Or.inr h))) (hb w))
theorem goodIn_sub {big ws : List Cond} (hm : ∀ w ∈ ws, w ∈ big) (h : ws.all goodWord = true) : GoodIn big ws := fun w hw => ⟨hm w hw, good_of_word (List.all_eq_true.mp h w hw)⟩
/-! ===== END ===== -/
def RX0 : String := "SaidAlready$Laying"
def TX0 : u_T := fun k => match k with
  | 0 => ("SaidAlready$Laying", "costs", "[[I", true)
  | 1 => ("SaidAlready$Laying", "ways", "[[J", true)
  | _ => ("SaidAlready$Laying", "steps", "LSaidAlready$Row;", true)
def tyX0 : Nat → FieldType := fun k => match k with
  | 0 => .array (.array .int)
  | 1 => .array (.array .long)
  | _ => .object "SaidAlready$Row"
abbrev wsX00 : List Cond := u_ws RX0 TX0 3
theorem nmX0 : ∀ a, a < 3 → ∀ b, b < 3 → a ≠ b → (TX0 a).2.1 ≠ (TX0 b).2.1 := by decide +kernel
theorem tyX0_ok : ∀ k, k < 3 → parseFieldDescriptor (TX0 k).2.2.1 = some (tyX0 k) := by decide +kernel
abbrev cX0_init : ByteArray := prog_2_method_1_code
def yX0_init : MethodName := ⟨RX0, "<init>", "()V"⟩
abbrev cX0_lay : ByteArray := prog_2_method_2_code
def yX0_lay : MethodName := ⟨RX0, "lay", "(LSaidAlready$Row;LSaidAlready$Row;)V"⟩
abbrev cX0_layFrom : ByteArray := prog_2_method_3_code
def yX0_layFrom : MethodName := ⟨RX0, "layFrom", "(LSaidAlready$Row;ILSaidAlready$Row;I)V"⟩
abbrev cX0_fits : ByteArray := prog_2_method_4_code
def yX0_fits : MethodName := ⟨RX0, "fits", "(LSaidAlready$Row;ILSaidAlready$Row;II)Z"⟩
abbrev cX0_costWith : ByteArray := prog_2_method_5_code
def yX0_costWith : MethodName := ⟨RX0, "costWith", "(LSaidAlready$Row;ILSaidAlready$Row;II)I"⟩
abbrev cX0_together : ByteArray := prog_2_method_6_code
def yX0_together : MethodName := ⟨RX0, "together", "(LSaidAlready$Row;II)I"⟩
abbrev cX0_readSteps : ByteArray := prog_2_method_7_code
def yX0_readSteps : MethodName := ⟨RX0, "readSteps", "(LSaidAlready$Row;LSaidAlready$Row;)V"⟩
abbrev cX0_firstOfLeast : ByteArray := prog_2_method_8_code
def yX0_firstOfLeast : MethodName := ⟨RX0, "firstOfLeast", "(LSaidAlready$Row;ILSaidAlready$Row;I)I"⟩
def RX1 : String := "SaidAlready$Likeness"
def TX1 : u_T := fun k => match k with
  | _ => ("SaidAlready$Likeness", "costs", "[I", true)
def tyX1 : Nat → FieldType := fun k => match k with
  | _ => .array .int
abbrev wsX10 : List Cond := u_ws RX1 TX1 1
theorem nmX1 : ∀ a, a < 1 → ∀ b, b < 1 → a ≠ b → (TX1 a).2.1 ≠ (TX1 b).2.1 := by decide +kernel
theorem tyX1_ok : ∀ k, k < 1 → parseFieldDescriptor (TX1 k).2.2.1 = some (tyX1 k) := by decide +kernel
abbrev cX1_init : ByteArray := prog_3_method_1_code
def yX1_init : MethodName := ⟨RX1, "<init>", "()V"⟩
abbrev cX1_farOf : ByteArray := prog_3_method_2_code
def yX1_farOf : MethodName := ⟨RX1, "farOf", "(LSaidAlready$Row;LSaidAlready$Row;)I"⟩
abbrev cX1_costOfChange : ByteArray := prog_3_method_3_code
def yX1_costOfChange : MethodName := ⟨RX1, "costOfChange", "(II)I"⟩
abbrev cX1_likeOf : ByteArray := prog_3_method_4_code
def yX1_likeOf : MethodName := ⟨RX1, "likeOf", "(LSaidAlready$Row;LSaidAlready$Row;)I"⟩
abbrev cX1_matchOf : ByteArray := prog_3_method_5_code
def yX1_matchOf : MethodName := ⟨RX1, "matchOf", "(LSaidAlready$Memory;II)I"⟩
abbrev cX1_meetPair : ByteArray := prog_3_method_6_code
def yX1_meetPair : MethodName := ⟨RX1, "meetPair", "(LSaidAlready$Memory;I)V"⟩
abbrev cX1_meetSentence : ByteArray := prog_3_method_7_code
def yX1_meetSentence : MethodName := ⟨RX1, "meetSentence", "(LSaidAlready$Memory;I)V"⟩
abbrev cX1_likeButForNumbers : ByteArray := prog_3_method_8_code
def yX1_likeButForNumbers : MethodName := ⟨RX1, "likeButForNumbers", "(LSaidAlready$Row;LSaidAlready$Row;)Z"⟩
def RX2 : String := "SaidAlready$Memory"
def TX2 : u_T := fun k => match k with
  | 0 => ("SaidAlready$Memory", "first", "[LSaidAlready$Row;", true)
  | 1 => ("SaidAlready$Memory", "second", "[LSaidAlready$Row;", true)
  | 2 => ("SaidAlready$Memory", "behind", "[I", true)
  | 3 => ("SaidAlready$Memory", "text", "[LSaidAlready$Row;", true)
  | 4 => ("SaidAlready$Memory", "matches", "[[I", true)
  | 5 => ("SaidAlready$Memory", "likes", "[[I", true)
  | 6 => ("SaidAlready$Memory", "rates", "[I", true)
  | 7 => ("SaidAlready$Memory", "musts", "[I", true)
  | 8 => ("SaidAlready$Memory", "lengthsOfOne", "LSaidAlready$Row;", true)
  | 9 => ("SaidAlready$Memory", "lengthsOfOther", "LSaidAlready$Row;", true)
  | 10 => ("SaidAlready$Memory", "pairs", "I", false)
  | _ => ("SaidAlready$Memory", "sentences", "I", false)
def tyX2 : Nat → FieldType := fun k => match k with
  | 0 => .array (.object "SaidAlready$Row")
  | 1 => .array (.object "SaidAlready$Row")
  | 2 => .array .int
  | 3 => .array (.object "SaidAlready$Row")
  | 4 => .array (.array .int)
  | 5 => .array (.array .int)
  | 6 => .array .int
  | 7 => .array .int
  | 8 => .object "SaidAlready$Row"
  | 9 => .object "SaidAlready$Row"
  | 10 => .int
  | _ => .int
abbrev wsX20 : List Cond := u_ws RX2 TX2 12
theorem nmX2 : ∀ a, a < 12 → ∀ b, b < 12 → a ≠ b → (TX2 a).2.1 ≠ (TX2 b).2.1 := by decide +kernel
theorem tyX2_ok : ∀ k, k < 12 → parseFieldDescriptor (TX2 k).2.2.1 = some (tyX2 k) := by decide +kernel
abbrev cX2_init : ByteArray := prog_4_method_1_code
def yX2_init : MethodName := ⟨RX2, "<init>", "()V"⟩
abbrev cX2_isPair : ByteArray := prog_4_method_2_code
def yX2_isPair : MethodName := ⟨RX2, "isPair", "(I)Z"⟩
abbrev cX2_isSentence : ByteArray := prog_4_method_3_code
def yX2_isSentence : MethodName := ⟨RX2, "isSentence", "(I)Z"⟩
abbrev cX2_bestFor : ByteArray := prog_4_method_4_code
def yX2_bestFor : MethodName := ⟨RX2, "bestFor", "(I)I"⟩
abbrev cX2_standsAsBefore : ByteArray := prog_4_method_5_code
def yX2_standsAsBefore : MethodName := ⟨RX2, "standsAsBefore", "(II)Z"⟩
abbrev cX2_take : ByteArray := prog_4_method_6_code
def yX2_take : MethodName := ⟨RX2, "take", "(LSaidAlready$Memory;)V"⟩
abbrev cX2_takePairs : ByteArray := prog_4_method_7_code
def yX2_takePairs : MethodName := ⟨RX2, "takePairs", "(LSaidAlready$Memory;)V"⟩
abbrev cX2_takeText : ByteArray := prog_4_method_8_code
def yX2_takeText : MethodName := ⟨RX2, "takeText", "(LSaidAlready$Memory;)V"⟩
def RX3 : String := "SaidAlready$Prices"
def TX3 : u_T := fun k => match k with
  | 0 => ("SaidAlready$Prices", "rateByMemory", "[I", true)
  | 1 => ("SaidAlready$Prices", "helpers", "[[I", true)
  | 2 => ("SaidAlready$Prices", "priceOfRest", "[I", true)
  | 3 => ("SaidAlready$Prices", "nextBehind", "[I", true)
  | 4 => ("SaidAlready$Prices", "needed", "[I", true)
  | _ => ("SaidAlready$Prices", "sequence", "LSaidAlready$Row;", true)
def tyX3 : Nat → FieldType := fun k => match k with
  | 0 => .array .int
  | 1 => .array (.array .int)
  | 2 => .array .int
  | 3 => .array .int
  | 4 => .array .int
  | _ => .object "SaidAlready$Row"
abbrev wsX30 : List Cond := u_ws RX3 TX3 6
theorem nmX3 : ∀ a, a < 6 → ∀ b, b < 6 → a ≠ b → (TX3 a).2.1 ≠ (TX3 b).2.1 := by decide +kernel
theorem tyX3_ok : ∀ k, k < 6 → parseFieldDescriptor (TX3 k).2.2.1 = some (tyX3 k) := by decide +kernel
abbrev cX3_init : ByteArray := prog_5_method_1_code
def yX3_init : MethodName := ⟨RX3, "<init>", "()V"⟩
abbrev cX3_bandOf : ByteArray := prog_5_method_2_code
def yX3_bandOf : MethodName := ⟨RX3, "bandOf", "(I)I"⟩
abbrev cX3_bandFound : ByteArray := prog_5_method_3_code
def yX3_bandFound : MethodName := ⟨RX3, "bandFound", "(LSaidAlready$Memory;I)I"⟩
abbrev cX3_ofSentence : ByteArray := prog_5_method_4_code
def yX3_ofSentence : MethodName := ⟨RX3, "ofSentence", "(LSaidAlready$Memory;I)I"⟩
abbrev cX3_ofText : ByteArray := prog_5_method_5_code
def yX3_ofText : MethodName := ⟨RX3, "ofText", "(LSaidAlready$Memory;)I"⟩
abbrev cX3_putInOrder : ByteArray := prog_5_method_6_code
def yX3_putInOrder : MethodName := ⟨RX3, "putInOrder", "(LSaidAlready$Memory;)V"⟩
abbrev cX3_least : ByteArray := prog_5_method_7_code
def yX3_least : MethodName := ⟨RX3, "least", "()I"⟩
abbrev cX3_readRatesByMemory : ByteArray := prog_5_method_8_code
def yX3_readRatesByMemory : MethodName := ⟨RX3, "readRatesByMemory", "(LSaidAlready$Memory;)V"⟩
abbrev cX3_readHelpers : ByteArray := prog_5_method_9_code
def yX3_readHelpers : MethodName := ⟨RX3, "readHelpers", "(LSaidAlready$Memory;)V"⟩
abbrev cX3_chooseNext : ByteArray := prog_5_method_10_code
def yX3_chooseNext : MethodName := ⟨RX3, "chooseNext", "(LSaidAlready$Memory;I)V"⟩
abbrev cX3_priceWith : ByteArray := prog_5_method_11_code
def yX3_priceWith : MethodName := ⟨RX3, "priceWith", "(LSaidAlready$Memory;II)I"⟩
abbrev cX3_fewestPairs : ByteArray := prog_5_method_12_code
def yX3_fewestPairs : MethodName := ⟨RX3, "fewestPairs", "(LSaidAlready$Memory;)I"⟩
abbrev cX3_readNeeded : ByteArray := prog_5_method_13_code
def yX3_readNeeded : MethodName := ⟨RX3, "readNeeded", "(LSaidAlready$Memory;)V"⟩
abbrev cX3_isEnough : ByteArray := prog_5_method_14_code
def yX3_isEnough : MethodName := ⟨RX3, "isEnough", "(LSaidAlready$Memory;I)Z"⟩
def RX4 : String := "SaidAlready$Row"
def TX4 : u_T := fun k => match k with
  | 0 => ("SaidAlready$Row", "values", "[I", true)
  | _ => ("SaidAlready$Row", "size", "I", false)
def tyX4 : Nat → FieldType := fun k => match k with
  | 0 => .array .int
  | _ => .int
abbrev wsX40 : List Cond := u_ws RX4 TX4 2
theorem nmX4 : ∀ a, a < 2 → ∀ b, b < 2 → a ≠ b → (TX4 a).2.1 ≠ (TX4 b).2.1 := by decide +kernel
theorem tyX4_ok : ∀ k, k < 2 → parseFieldDescriptor (TX4 k).2.2.1 = some (tyX4 k) := by decide +kernel
abbrev cX4_init : ByteArray := prog_6_method_1_code
def yX4_init : MethodName := ⟨RX4, "<init>", "(I)V"⟩
abbrev cX4_add : ByteArray := prog_6_method_2_code
def yX4_add : MethodName := ⟨RX4, "add", "(I)Z"⟩
abbrev cX4_at : ByteArray := prog_6_method_3_code
def yX4_at : MethodName := ⟨RX4, "at", "(I)I"⟩
abbrev cX4_put : ByteArray := prog_6_method_4_code
def yX4_put : MethodName := ⟨RX4, "put", "(II)V"⟩
abbrev cX4_placeOf : ByteArray := prog_6_method_5_code
def yX4_placeOf : MethodName := ⟨RX4, "placeOf", "(I)I"⟩
abbrev cX4_timesOf : ByteArray := prog_6_method_6_code
def yX4_timesOf : MethodName := ⟨RX4, "timesOf", "(I)I"⟩
abbrev cX4_sameAs : ByteArray := prog_6_method_7_code
def yX4_sameAs : MethodName := ⟨RX4, "sameAs", "(LSaidAlready$Row;)Z"⟩
abbrev cX4_takePart : ByteArray := prog_6_method_8_code
def yX4_takePart : MethodName := ⟨RX4, "takePart", "(LSaidAlready$Row;II)V"⟩
abbrev cX4_take : ByteArray := prog_6_method_9_code
def yX4_take : MethodName := ⟨RX4, "take", "(LSaidAlready$Row;)V"⟩
def RX5 : String := "SaidAlready$Words"
def TX5 : u_T := fun k => match k with
  | _ => ("", "", "", false)
def tyX5 : Nat → FieldType := fun k => match k with
  | _ => .int
abbrev wsX50 : List Cond := u_ws RX5 TX5 0
theorem nmX5 : ∀ a, a < 0 → ∀ b, b < 0 → a ≠ b → (TX5 a).2.1 ≠ (TX5 b).2.1 := by decide +kernel
theorem tyX5_ok : ∀ k, k < 0 → parseFieldDescriptor (TX5 k).2.2.1 = some (tyX5 k) := by decide +kernel
abbrev cX5_isWrong : ByteArray := prog_7_method_2_code
def yX5_isWrong : MethodName := ⟨RX5, "isWrong", "(LSaidAlready$Memory;I)Z"⟩
abbrev cX5_inFirst : ByteArray := prog_7_method_3_code
def yX5_inFirst : MethodName := ⟨RX5, "inFirst", "(LSaidAlready$Memory;II)Z"⟩
abbrev cX5_inSecond : ByteArray := prog_7_method_4_code
def yX5_inSecond : MethodName := ⟨RX5, "inSecond", "(LSaidAlready$Memory;II)Z"⟩
abbrev cX5_pairsWithBoth : ByteArray := prog_7_method_5_code
def yX5_pairsWithBoth : MethodName := ⟨RX5, "pairsWithBoth", "(LSaidAlready$Memory;II)I"⟩
abbrev cX5_pairsWithEither : ByteArray := prog_7_method_6_code
def yX5_pairsWithEither : MethodName := ⟨RX5, "pairsWithEither", "(LSaidAlready$Memory;II)I"⟩
abbrev cX5_lowered : ByteArray := prog_7_method_7_code
def yX5_lowered : MethodName := ⟨RX5, "lowered", "(II)I"⟩
abbrev cX5_goesMost : ByteArray := prog_7_method_8_code
def yX5_goesMost : MethodName := ⟨RX5, "goesMost", "(LSaidAlready$Memory;I)I"⟩
abbrev cX5_change : ByteArray := prog_7_method_9_code
def yX5_change : MethodName := ⟨RX5, "change", "(LSaidAlready$Memory;III)I"⟩
abbrev cX5_changeIn : ByteArray := prog_7_method_10_code
def yX5_changeIn : MethodName := ⟨RX5, "changeIn", "(LSaidAlready$Row;II)I"⟩
def RX6 : String := "SaidAlready"
def TX6 : u_T := fun k => match k with
  | 0 => ("SaidAlready", "pad", "LSaidAlready$Row;", true)
  | 1 => ("SaidAlready", "now", "LSaidAlready$Memory;", true)
  | 2 => ("SaidAlready", "images", "[LSaidAlready$Memory;", true)
  | 3 => ("SaidAlready", "imaged", "[Z", true)
  | 4 => ("SaidAlready", "likeness", "LSaidAlready$Likeness;", true)
  | 5 => ("SaidAlready", "prices", "LSaidAlready$Prices;", true)
  | _ => ("SaidAlready", "laying", "LSaidAlready$Laying;", true)
def tyX6 : Nat → FieldType := fun k => match k with
  | 0 => .object "SaidAlready$Row"
  | 1 => .object "SaidAlready$Memory"
  | 2 => .array (.object "SaidAlready$Memory")
  | 3 => .array .boolean
  | 4 => .object "SaidAlready$Likeness"
  | 5 => .object "SaidAlready$Prices"
  | _ => .object "SaidAlready$Laying"
abbrev wsX60 : List Cond := u_ws RX6 TX6 7
theorem nmX6 : ∀ a, a < 7 → ∀ b, b < 7 → a ≠ b → (TX6 a).2.1 ≠ (TX6 b).2.1 := by decide +kernel
theorem tyX6_ok : ∀ k, k < 7 → parseFieldDescriptor (TX6 k).2.2.1 = some (tyX6 k) := by decide +kernel
abbrev cX6_init : ByteArray := prog_1_method_1_code
def yX6_init : MethodName := ⟨RX6, "<init>", "()V"⟩
abbrev cX6_say : ByteArray := prog_1_method_2_code
def yX6_say : MethodName := ⟨RX6, "say", "(I)I"⟩
abbrev cX6_wipe : ByteArray := prog_1_method_3_code
def yX6_wipe : MethodName := ⟨RX6, "wipe", "()I"⟩
abbrev cX6_fault : ByteArray := prog_1_method_4_code
def yX6_fault : MethodName := ⟨RX6, "fault", "(I)I"⟩
abbrev cX6_keep : ByteArray := prog_1_method_5_code
def yX6_keep : MethodName := ⟨RX6, "keep", "(I)I"⟩
abbrev cX6_write : ByteArray := prog_1_method_6_code
def yX6_write : MethodName := ⟨RX6, "write", "()I"⟩
abbrev cX6_pair : ByteArray := prog_1_method_7_code
def yX6_pair : MethodName := ⟨RX6, "pair", "(II)I"⟩
abbrev cX6_endOfTongue : ByteArray := prog_1_method_8_code
def yX6_endOfTongue : MethodName := ⟨RX6, "endOfTongue", "(II)I"⟩
abbrev cX6_standsIn : ByteArray := prog_1_method_9_code
def yX6_standsIn : MethodName := ⟨RX6, "standsIn", "(II)Z"⟩
abbrev cX6_isNumber : ByteArray := prog_1_method_10_code
def yX6_isNumber : MethodName := ⟨RX6, "isNumber", "(I)Z"⟩
abbrev cX6_isWord : ByteArray := prog_1_method_11_code
def yX6_isWord : MethodName := ⟨RX6, "isWord", "(I)Z"⟩
abbrev cX6_faultAsSentence : ByteArray := prog_1_method_12_code
def yX6_faultAsSentence : MethodName := ⟨RX6, "faultAsSentence", "()I"⟩
abbrev cX6_faultAsPair : ByteArray := prog_1_method_13_code
def yX6_faultAsPair : MethodName := ⟨RX6, "faultAsPair", "()I"⟩
abbrev cX6_far : ByteArray := prog_1_method_14_code
def yX6_far : MethodName := ⟨RX6, "far", "(II)I"⟩
abbrev cX6_match : ByteArray := prog_1_method_15_code
def yX6_match : MethodName := ⟨RX6, "match", "(II)I"⟩
abbrev cX6_found : ByteArray := prog_1_method_16_code
def yX6_found : MethodName := ⟨RX6, "found", "(II)I"⟩
abbrev cX6_filled : ByteArray := prog_1_method_17_code
def yX6_filled : MethodName := ⟨RX6, "filled", "(II)I"⟩
abbrev cX6_signFilled : ByteArray := prog_1_method_18_code
def yX6_signFilled : MethodName := ⟨RX6, "signFilled", "(ILSaidAlready$Row;LSaidAlready$Row;)I"⟩
abbrev cX6_rate : ByteArray := prog_1_method_19_code
def yX6_rate : MethodName := ⟨RX6, "rate", "(II)I"⟩
abbrev cX6_price : ByteArray := prog_1_method_20_code
def yX6_price : MethodName := ⟨RX6, "price", "(I)I"⟩
abbrev cX6_order : ByteArray := prog_1_method_21_code
def yX6_order : MethodName := ⟨RX6, "order", "(I)I"⟩
abbrev cX6_kept : ByteArray := prog_1_method_22_code
def yX6_kept : MethodName := ⟨RX6, "kept", "()I"⟩
abbrev cX6_must : ByteArray := prog_1_method_23_code
def yX6_must : MethodName := ⟨RX6, "must", "(II)I"⟩
abbrev cX6_wrongs : ByteArray := prog_1_method_24_code
def yX6_wrongs : MethodName := ⟨RX6, "wrongs", "()I"⟩
abbrev cX6_goes : ByteArray := prog_1_method_25_code
def yX6_goes : MethodName := ⟨RX6, "goes", "(III)J"⟩
abbrev cX6_learnt : ByteArray := prog_1_method_26_code
def yX6_learnt : MethodName := ⟨RX6, "learnt", "(I)I"⟩
abbrev cX6_otherwise : ByteArray := prog_1_method_27_code
def yX6_otherwise : MethodName := ⟨RX6, "otherwise", "(III)I"⟩
abbrev cX6_clash : ByteArray := prog_1_method_28_code
def yX6_clash : MethodName := ⟨RX6, "clash", "()I"⟩
abbrev cX6_length : ByteArray := prog_1_method_29_code
def yX6_length : MethodName := ⟨RX6, "length", "(II)I"⟩
abbrev cX6_lengths : ByteArray := prog_1_method_30_code
def yX6_lengths : MethodName := ⟨RX6, "lengths", "()I"⟩
abbrev cX6_laid : ByteArray := prog_1_method_31_code
def yX6_laid : MethodName := ⟨RX6, "laid", "(I)J"⟩
abbrev cX6_image : ByteArray := prog_1_method_32_code
def yX6_image : MethodName := ⟨RX6, "image", "(I)I"⟩
abbrev cX6_restore : ByteArray := prog_1_method_33_code
def yX6_restore : MethodName := ⟨RX6, "restore", "(I)I"⟩
abbrev cX6_told : ByteArray := prog_1_method_34_code
def yX6_told : MethodName := ⟨RX6, "told", "(I)I"⟩
abbrev cX6_toldOfSettings : ByteArray := prog_1_method_35_code
def yX6_toldOfSettings : MethodName := ⟨RX6, "toldOfSettings", "(I)I"⟩
def RX7 : String := "SaidAlreadyModel"
def TX7 : u_T := fun k => match k with
  | 0 => ("SaidAlreadyModel", "signs", "I", false)
  | 1 => ("SaidAlreadyModel", "pad", "[I", true)
  | 2 => ("SaidAlreadyModel", "pairs", "I", false)
  | 3 => ("SaidAlreadyModel", "behind", "[I", true)
  | 4 => ("SaidAlreadyModel", "firsts", "[I", true)
  | 5 => ("SaidAlreadyModel", "seconds", "[I", true)
  | 6 => ("SaidAlreadyModel", "first", "[I", true)
  | 7 => ("SaidAlreadyModel", "second", "[I", true)
  | 8 => ("SaidAlreadyModel", "sentences", "I", false)
  | 9 => ("SaidAlreadyModel", "sizes", "[I", true)
  | 10 => ("SaidAlreadyModel", "text", "[I", true)
  | 11 => ("SaidAlreadyModel", "rates", "[I", true)
  | 12 => ("SaidAlreadyModel", "musts", "[I", true)
  | 13 => ("SaidAlreadyModel", "many", "[I", true)
  | 14 => ("SaidAlreadyModel", "lengths", "[I", true)
  | 15 => ("SaidAlreadyModel", "half", "I", false)
  | 16 => ("SaidAlreadyModel", "row", "[I", true)
  | 17 => ("SaidAlreadyModel", "foundMatch", "I", false)
  | 18 => ("SaidAlreadyModel", "alone", "[I", true)
  | 19 => ("SaidAlreadyModel", "beside", "[I", true)
  | 20 => ("SaidAlreadyModel", "best", "[I", true)
  | 21 => ("SaidAlreadyModel", "needs", "[I", true)
  | 22 => ("SaidAlreadyModel", "goesUp", "I", false)
  | 23 => ("SaidAlreadyModel", "goesLow", "I", false)
  | 24 => ("SaidAlreadyModel", "cost", "[I", true)
  | 25 => ("SaidAlreadyModel", "ways", "[J", true)
  | 26 => ("SaidAlreadyModel", "image", "[I", true)
  | _ => ("SaidAlreadyModel", "isKept", "[Z", true)
def tyX7 : Nat → FieldType := fun k => match k with
  | 0 => .int
  | 1 => .array .int
  | 2 => .int
  | 3 => .array .int
  | 4 => .array .int
  | 5 => .array .int
  | 6 => .array .int
  | 7 => .array .int
  | 8 => .int
  | 9 => .array .int
  | 10 => .array .int
  | 11 => .array .int
  | 12 => .array .int
  | 13 => .array .int
  | 14 => .array .int
  | 15 => .int
  | 16 => .array .int
  | 17 => .int
  | 18 => .array .int
  | 19 => .array .int
  | 20 => .array .int
  | 21 => .array .int
  | 22 => .int
  | 23 => .int
  | 24 => .array .int
  | 25 => .array .long
  | 26 => .array .int
  | _ => .array .boolean
abbrev wsX70 : List Cond := u_ws RX7 TX7 28
theorem nmX7 : ∀ a, a < 28 → ∀ b, b < 28 → a ≠ b → (TX7 a).2.1 ≠ (TX7 b).2.1 := by decide +kernel
theorem tyX7_ok : ∀ k, k < 28 → parseFieldDescriptor (TX7 k).2.2.1 = some (tyX7 k) := by decide +kernel
abbrev cX7_init : ByteArray := prog_9_method_1_code
def yX7_init : MethodName := ⟨RX7, "<init>", "()V"⟩
abbrev cX7_in : ByteArray := prog_9_method_2_code
def yX7_in : MethodName := ⟨RX7, "in", "(III)Z"⟩
abbrev cX7_isPair : ByteArray := prog_9_method_3_code
def yX7_isPair : MethodName := ⟨RX7, "isPair", "(I)Z"⟩
abbrev cX7_isSentence : ByteArray := prog_9_method_4_code
def yX7_isSentence : MethodName := ⟨RX7, "isSentence", "(I)Z"⟩
abbrev cX7_isWord : ByteArray := prog_9_method_5_code
def yX7_isWord : MethodName := ⟨RX7, "isWord", "(I)Z"⟩
abbrev cX7_isNumber : ByteArray := prog_9_method_6_code
def yX7_isNumber : MethodName := ⟨RX7, "isNumber", "(I)Z"⟩
abbrev cX7_say : ByteArray := prog_9_method_7_code
def yX7_say : MethodName := ⟨RX7, "say", "(I)I"⟩
abbrev cX7_wipe : ByteArray := prog_9_method_8_code
def yX7_wipe : MethodName := ⟨RX7, "wipe", "()I"⟩
abbrev cX7_faultOf : ByteArray := prog_9_method_9_code
def yX7_faultOf : MethodName := ⟨RX7, "faultOf", "(I)I"⟩
abbrev cX7_fault : ByteArray := prog_9_method_10_code
def yX7_fault : MethodName := ⟨RX7, "fault", "(I)I"⟩
abbrev cX7_keep : ByteArray := prog_9_method_11_code
def yX7_keep : MethodName := ⟨RX7, "keep", "(I)I"⟩
abbrev cX7_write : ByteArray := prog_9_method_12_code
def yX7_write : MethodName := ⟨RX7, "write", "()I"⟩
abbrev cX7_pair : ByteArray := prog_9_method_13_code
def yX7_pair : MethodName := ⟨RX7, "pair", "(II)I"⟩
abbrev cX7_changes : ByteArray := prog_9_method_14_code
def yX7_changes : MethodName := ⟨RX7, "changes", "(II)I"⟩
abbrev cX7_farOf : ByteArray := prog_9_method_15_code
def yX7_farOf : MethodName := ⟨RX7, "farOf", "([III[III)I"⟩
abbrev cX7_like : ByteArray := prog_9_method_16_code
def yX7_like : MethodName := ⟨RX7, "like", "(III)I"⟩
abbrev cX7_far : ByteArray := prog_9_method_17_code
def yX7_far : MethodName := ⟨RX7, "far", "(II)I"⟩
abbrev cX7_likeOf : ByteArray := prog_9_method_18_code
def yX7_likeOf : MethodName := ⟨RX7, "likeOf", "(II)I"⟩
abbrev cX7_likePair : ByteArray := prog_9_method_19_code
def yX7_likePair : MethodName := ⟨RX7, "likePair", "(II)I"⟩
abbrev cX7_matchOf : ByteArray := prog_9_method_20_code
def yX7_matchOf : MethodName := ⟨RX7, "matchOf", "(II)I"⟩
abbrev cX7_match : ByteArray := prog_9_method_21_code
def yX7_match : MethodName := ⟨RX7, "match", "(II)I"⟩
abbrev cX7_foundOf : ByteArray := prog_9_method_22_code
def yX7_foundOf : MethodName := ⟨RX7, "foundOf", "(I)I"⟩
abbrev cX7_found : ByteArray := prog_9_method_23_code
def yX7_found : MethodName := ⟨RX7, "found", "(II)I"⟩
abbrev cX7_doesFill : ByteArray := prog_9_method_24_code
def yX7_doesFill : MethodName := ⟨RX7, "doesFill", "(II)Z"⟩
abbrev cX7_filled : ByteArray := prog_9_method_25_code
def yX7_filled : MethodName := ⟨RX7, "filled", "(II)I"⟩
abbrev cX7_band : ByteArray := prog_9_method_26_code
def yX7_band : MethodName := ⟨RX7, "band", "(I)I"⟩
abbrev cX7_rate : ByteArray := prog_9_method_27_code
def yX7_rate : MethodName := ⟨RX7, "rate", "(II)I"⟩
abbrev cX7_priceOf : ByteArray := prog_9_method_28_code
def yX7_priceOf : MethodName := ⟨RX7, "priceOf", "(I)I"⟩
abbrev cX7_price : ByteArray := prog_9_method_29_code
def yX7_price : MethodName := ⟨RX7, "price", "(I)I"⟩
abbrev cX7_layBeside : ByteArray := prog_9_method_30_code
def yX7_layBeside : MethodName := ⟨RX7, "layBeside", "()V"⟩
abbrev cX7_costs : ByteArray := prog_9_method_31_code
def yX7_costs : MethodName := ⟨RX7, "costs", "(II)I"⟩
abbrev cX7_layOrders : ByteArray := prog_9_method_32_code
def yX7_layOrders : MethodName := ⟨RX7, "layOrders", "()V"⟩
abbrev cX7_order : ByteArray := prog_9_method_33_code
def yX7_order : MethodName := ⟨RX7, "order", "(I)I"⟩
abbrev cX7_bits : ByteArray := prog_9_method_34_code
def yX7_bits : MethodName := ⟨RX7, "bits", "(I)I"⟩
abbrev cX7_layNeeds : ByteArray := prog_9_method_35_code
def yX7_layNeeds : MethodName := ⟨RX7, "layNeeds", "()V"⟩
abbrev cX7_kept : ByteArray := prog_9_method_36_code
def yX7_kept : MethodName := ⟨RX7, "kept", "()I"⟩
abbrev cX7_must : ByteArray := prog_9_method_37_code
def yX7_must : MethodName := ⟨RX7, "must", "(II)I"⟩
abbrev cX7_inFirst : ByteArray := prog_9_method_38_code
def yX7_inFirst : MethodName := ⟨RX7, "inFirst", "(II)I"⟩
abbrev cX7_inSecond : ByteArray := prog_9_method_39_code
def yX7_inSecond : MethodName := ⟨RX7, "inSecond", "(II)I"⟩
abbrev cX7_isWrong : ByteArray := prog_9_method_40_code
def yX7_isWrong : MethodName := ⟨RX7, "isWrong", "(I)Z"⟩
abbrev cX7_wrongs : ByteArray := prog_9_method_41_code
def yX7_wrongs : MethodName := ⟨RX7, "wrongs", "()I"⟩
abbrev cX7_layGoes : ByteArray := prog_9_method_42_code
def yX7_layGoes : MethodName := ⟨RX7, "layGoes", "(II)V"⟩
abbrev cX7_goes : ByteArray := prog_9_method_43_code
def yX7_goes : MethodName := ⟨RX7, "goes", "(III)J"⟩
abbrev cX7_learnt : ByteArray := prog_9_method_44_code
def yX7_learnt : MethodName := ⟨RX7, "learnt", "(I)I"⟩
abbrev cX7_otherwise : ByteArray := prog_9_method_45_code
def yX7_otherwise : MethodName := ⟨RX7, "otherwise", "(III)I"⟩
abbrev cX7_areAlike : ByteArray := prog_9_method_46_code
def yX7_areAlike : MethodName := ⟨RX7, "areAlike", "([IIIII)Z"⟩
abbrev cX7_clash : ByteArray := prog_9_method_47_code
def yX7_clash : MethodName := ⟨RX7, "clash", "()I"⟩
abbrev cX7_length : ByteArray := prog_9_method_48_code
def yX7_length : MethodName := ⟨RX7, "length", "(II)I"⟩
abbrev cX7_lengths : ByteArray := prog_9_method_49_code
def yX7_lengths : MethodName := ⟨RX7, "lengths", "()I"⟩
abbrev cX7_ofOne : ByteArray := prog_9_method_50_code
def yX7_ofOne : MethodName := ⟨RX7, "ofOne", "(I)I"⟩
abbrev cX7_ofOther : ByteArray := prog_9_method_51_code
def yX7_ofOther : MethodName := ⟨RX7, "ofOther", "(I)I"⟩
abbrev cX7_besides : ByteArray := prog_9_method_52_code
def yX7_besides : MethodName := ⟨RX7, "besides", "(I)I"⟩
abbrev cX7_stepCosts : ByteArray := prog_9_method_53_code
def yX7_stepCosts : MethodName := ⟨RX7, "stepCosts", "(III)I"⟩
abbrev cX7_layCosts : ByteArray := prog_9_method_54_code
def yX7_layCosts : MethodName := ⟨RX7, "layCosts", "()V"⟩
abbrev cX7_laid : ByteArray := prog_9_method_55_code
def yX7_laid : MethodName := ⟨RX7, "laid", "(I)J"⟩
abbrev cX7_image : ByteArray := prog_9_method_56_code
def yX7_image : MethodName := ⟨RX7, "image", "(I)I"⟩
abbrev cX7_restore : ByteArray := prog_9_method_57_code
def yX7_restore : MethodName := ⟨RX7, "restore", "(I)I"⟩
abbrev cX7_told : ByteArray := prog_9_method_58_code
def yX7_told : MethodName := ⟨RX7, "told", "(I)I"⟩
def RJ6 : String := "java/lang/Integer"
def TJ6 : u_T := fun k => match k with
  | _ => ("", "", "", false)
def tyJ6 : Nat → FieldType := fun k => match k with
  | _ => .int
abbrev wsJ60 : List Cond := u_ws RJ6 TJ6 0
theorem nmJ6 : ∀ a, a < 0 → ∀ b, b < 0 → a ≠ b → (TJ6 a).2.1 ≠ (TJ6 b).2.1 := by decide +kernel
theorem tyJ6_ok : ∀ k, k < 0 → parseFieldDescriptor (TJ6 k).2.2.1 = some (tyJ6 k) := by decide +kernel
abbrev cJ6_bitCount_0f7a4 : ByteArray := prog_10_method_49_code
def yJ6_bitCount_0f7a4 : MethodName := ⟨RJ6, "bitCount", "(I)I"⟩
def RJ9 : String := "java/lang/Math"
def TJ9 : u_T := fun k => match k with
  | _ => ("", "", "", false)
def tyJ9 : Nat → FieldType := fun k => match k with
  | _ => .int
abbrev wsJ90 : List Cond := u_ws RJ9 TJ9 0
theorem nmJ9 : ∀ a, a < 0 → ∀ b, b < 0 → a ≠ b → (TJ9 a).2.1 ≠ (TJ9 b).2.1 := by decide +kernel
theorem tyJ9_ok : ∀ k, k < 0 → parseFieldDescriptor (TJ9 k).2.2.1 = some (tyJ9 k) := by decide +kernel
abbrev cJ9_abs_0f7a4 : ByteArray := prog_11_method_59_code
def yJ9_abs_0f7a4 : MethodName := ⟨RJ9, "abs", "(I)I"⟩
abbrev cJ9_max_7cf53 : ByteArray := prog_11_method_65_code
def yJ9_max_7cf53 : MethodName := ⟨RJ9, "max", "(II)I"⟩
abbrev cJ9_min_7cf53 : ByteArray := prog_11_method_69_code
def yJ9_min_7cf53 : MethodName := ⟨RJ9, "min", "(II)I"⟩
def RL : String := "SaidAlreadyLaw"
abbrev cL_law : ByteArray := code
def yL_law : MethodName := ⟨RL, "law", "([I)Z"⟩
end
section
/-! ===== the flat store: what the cells are, by number ===== -/
abbrev zz_SK : Type := (Nat × List (Option (Option Nat))) ⊕ (Nat × Nat × List (Option Nat))
abbrev zz_St : Type := List zz_SK × (Nat → Nat → Int32) × (Nat → Nat → Int64)
abbrev zz_MD : Type := MethodName × ByteArray × Nat × Option FieldType × Nat
def zz_WG : List Cond := lw_tbl.filter goodWord
theorem zz_good : GoodIn zz_WG zz_WG := fun w h => ⟨h, good_of_word (List.mem_filter.mp h).2⟩
abbrev zz_ws1 (M : zz_MD) : List Cond := Cond.code M.1 M.2.1 M.2.2.1 M.2.2.2.1 :: zz_WG
abbrev zz_cl : List vw_C := [(RX0, TX0, 3), (RX1, TX1, 1), (RX2, TX2, 12), (RX3, TX3, 6), (RX4, TX4, 2), (RX6, TX6, 7), (RX7, TX7, 28)]
def zz_ad (b : Nat) (ex : Nat → Nat) (k : Nat) : Nat := if k < 100000 then b + k else ex (k - 100000)
def zz_tr (b : Nat) (ex : Nat → Nat) (v : Value) : Value := match v with
  | .ref k => .ref (zz_ad b ex k)
  | w => w
def zz_fv (b : Nat) (ex : Nat → Nat) (g : Nat → Int32) (j : Nat) (x : Option (Option Nat)) : Value := match x with
  | none => .int (g j)
  | some none => .null
  | some (some q) => .ref (zz_ad b ex q)
def zz_ar (b : Nat) (ex : Nat → Nat) (g : Nat → Int32) (h : Nat → Int64) (tg : Nat) (rs : List (Option Nat)) : ((Nat → Int32) ⊕ (Nat → Int64) ⊕ (Nat → UInt32) ⊕ (Nat → UInt64) ⊕ (Nat → Option Nat)) := match tg with
  | 0 => .inl g
  | 1 => .inr (.inl h)
  | 2 => .inl g
  | _ => .inr (.inr (.inr (.inr (fun j => (rs[j]?.join).map (zz_ad b ex)))))
def zz_e (cA : Nat → ClassId) (b : Nat) (ex : Nat → Nat) (g : Nat → Int32) (h : Nat → Int64) (x : zz_SK) : va_E := match x with
  | .inl o => .inr (o.1, o.2.mapIdx (fun j y => zz_fv b ex g j y))
  | .inr a => .inl (cA a.1, a.2.1, zz_ar b ex g h a.1 a.2.2)
def zz_ws (cA : Nat → ClassId) (b : Nat) (ex : Nat → Nat) (σ : zz_St) : va_W := σ.1.mapIdx (fun k x => (b + k, zz_e cA b ex (σ.2.1 k) (σ.2.2 k) x))
theorem zz_ws_at (cA : Nat → ClassId) (b : Nat) (ex : Nat → Nat) (σ : zz_St) (k : Nat) : (zz_ws cA b ex σ)[k]? = (σ.1[k]?).map (fun x => (b + k, zz_e cA b ex (σ.2.1 k) (σ.2.2 k) x)) := by
  simp [zz_ws]
theorem zz_ws_get {cA : Nat → ClassId} {b : Nat} {ex : Nat → Nat} {σ : zz_St} {k : Nat} {x : zz_SK} (h : σ.1[k]? = some x) : (zz_ws cA b ex σ)[k]? = some (b + k, zz_e cA b ex (σ.2.1 k) (σ.2.2 k) x) := by
  rw [zz_ws_at, h]; rfl
theorem zz_ws_D (cA : Nat → ClassId) (b : Nat) (ex : Nat → Nat) (σ : zz_St) : va_D (fun q => b ≤ q) (zz_ws cA b ex σ) := by
  refine ⟨fun i j p q hi hj h => ?_, fun k q hk => ?_⟩
  · rw [zz_ws_at] at hi hj
    obtain ⟨x, -, rfl⟩ := Option.map_eq_some_iff.mp hi
    obtain ⟨y, -, rfl⟩ := Option.map_eq_some_iff.mp hj
    have h9 : b + i = b + j := h
    omega
  · rw [zz_ws_at] at hk
    obtain ⟨x, -, rfl⟩ := Option.map_eq_some_iff.mp hk
    exact Nat.le_add_right b k
def zz_tys (cA : Nat → ClassId) : List (ClassId × FieldType) := [(cA 0, .int), (cA 1, .long), (cA 2, .boolean), (cA 3, .object RX4), (cA 4, .object RX2), (cA 5, .array .int), (cA 6, .array .long)]
def zz_nest : List Cond := [.methodLinkNest "SaidAlready$Likeness" 34 yX6_isNumber "SaidAlready", .methodLinkNest "SaidAlready" 35 yX1_init "SaidAlready", .methodLinkNest "SaidAlready" 42 yX3_init "SaidAlready", .methodLinkNest "SaidAlready" 49 yX0_init "SaidAlready", .arrayOver (.object RX4), .arrayOver (.object RX2), .arrayOver (.array .int), .arrayOver (.array .long)]
def zz_K (D : va_G) (cA : Nat → ClassId) (U : State) : Prop := va_K D zz_cl (zz_tys cA) U ∧ ∀ w ∈ zz_nest, va_Nw w U
def zz_xs (sc : Nat × (Nat → Int32)) (i : Nat) : Nat × (Nat → Int32) := match i with
  | 0 => sc
  | 1 => (6, fun j => ([1, 1, 0, 2, 1, 2] : List Int32).getD j 0)
  | 2 => (6, fun j => ([1, 0, 1, 1, 2, 2] : List Int32).getD j 0)
  | _ => (6, fun j => ([0, 30, 30, 10, 10, 15] : List Int32).getD j 0)
def zz_sn (i : Nat) : String := match i with
  | 1 => "OF_ONE"
  | 2 => "OF_OTHER"
  | _ => "BESIDES"
def zz_X (b : Nat) (ex : Nat → Nat) (sc : Nat × (Nat → Int32)) (U : State) (H : Heap) : Prop := (∀ i, i < 4 → ex i < b ∧ va_X (ex i) (zz_xs sc i).1 (zz_xs sc i).2 U H) ∧ ∀ i, 1 ≤ i → i < 4 → va_Z RX0 (zz_sn i) "[I" (.ref (ex i)) (fun q => b ≤ q) U H
def zz_R (D : va_G) (cA : Nat → ClassId) (b : Nat) (ex : Nat → Nat) (σ : zz_St) (H0 H : Heap) (locs : List Loc) : Prop := H.size = b + σ.1.length ∧ σ.1.length < 100000 ∧ va_P D zz_cl (zz_ws cA b ex σ) H ∧ va_S (fun q => b ≤ q) H0 H locs
def zz_L (b : Nat) (ex : Nat → Nat) (ls : Array Slot) (nL : Nat) (L : List (Option Value)) : Prop := ls.size = nL ∧ lv_wf ls ∧ L.length = nL ∧ ∀ (i : Nat) (v : Value), L[i]? = some (some v) → ls[i]? = some (.val (zz_tr b ex v))
def zz_C (p : Program) (s : State) (m : MethodId) (args : Array Value) (meth : Method) (c : Code) (D : va_G) (cA : Nat → ClassId) (b : Nat) (ex : Nat → Nat) (sc : Nat × (Nat → Int32)) (M : zz_MD) : Prop :=
  p.tables.exec = Jvm.exec ∧ c.code = M.2.1 ∧ c.maxLocals = M.2.2.1 ∧ s.vm.findClass M.1.cls = some m.cls ∧ (∀ w ∈ zz_WG, w.before args s = true) ∧ zz_K D cA s ∧ zz_X b ex sc s s.heap ∧ b ≤ s.heap.size ∧ meth.name = M.1.name
def zz_rt (M : zz_MD) (pc : Nat) (r : Option Value) : Prop :=
  (M.2.2.2.1 = none ∧ r = none ∧ decode M.2.1 pc = .ok (.return_, 1)) ∨ (M.2.2.2.1 = some .int ∧ ∃ x : Int32, r = some (.int x) ∧ decode M.2.1 pc = .ok (.ireturn, 1)) ∨ (M.2.2.2.1 = some .boolean ∧ ∃ x : Int32, (x = 0 ∨ x = 1) ∧ r = some (.int x) ∧ decode M.2.1 pc = .ok (.ireturn, 1)) ∨ (M.2.2.2.1 = some .long ∧ ∃ x : Int64, r = some (.long x) ∧ decode M.2.1 pc = .ok (.lreturn, 1))
/-- from the place pc of method M, with locals L, stack S and store σ, the method returns, with Q of its answer and store; it makes at most mc cells of ms slots, and goes at most d calls deeper -/
def Ev (sc : Nat × (Nat → Int32)) (d mc ms : Nat) (M : zz_MD) (pc : Nat) (L : List (Option Value)) (S : List Value) (σ : zz_St) (Q : Option Value → zz_St → Prop) : Prop :=
  ∀ (p : Program) (l : Launch) (e : Env) (R : Room) (s : State) (m : MethodId) (args : Array Value) (below : List Frame) (meth : Method) (c : Code) (D : va_G) (cA : Nat → ClassId) (b : Nat) (ex : Nat → Nat) (H : Heap) (locs : List Loc) (cells slots : Nat) (Qt : State → Prop) (ls : Array Slot),
    zz_C p s m args meth c D cA b ex sc M → zz_R D cA b ex σ s.heap H locs → zz_L b ex ls M.2.2.1 L → d ≤ R.frames → 36 * d ≤ R.locals → cells + mc ≤ R.cells → slots + ms ≤ R.slots →
    (∀ (pc' : Nat) (ls' : Array Slot) (r : Option Value) (σ' : zz_St) (H' : Heap) (locs' : List Loc) (cells' slots' : Nat), Q r σ' → zz_R D cA b ex σ' s.heap H' locs' → cells' ≤ cells + mc → slots' ≤ slots + ms → zz_rt M pc' r → W p l e R s m args below meth c H' locs' cells' slots' Qt (F0 m pc' ls' ((r.map (zz_tr b ex)).toList))) →
    W p l e R s m args below meth c H locs cells slots Qt (F0 m pc ls (S.map (zz_tr b ex)))
/-- the contract of a method -/
def EvM (sc : Nat × (Nat → Int32)) (d mc ms : Nat) (M : zz_MD) (as : List Value) (σ : zz_St) (Q : Option Value → zz_St → Prop) : Prop :=
  ∀ (l : Launch) (D : va_G) (cA : Nat → ClassId) (b : Nat) (ex : Nat → Nat),
    Met l M.1 (zz_ws1 M) ({ frames := d, cells := mc, slots := ms, locals := 36 * d } : Room)
      (va_Pc (as.map (zz_tr b ex)) (fun U => zz_K D cA U ∧ zz_X b ex sc U U.heap ∧ b ≤ U.heap.size ∧ U.heap.size = b + σ.1.length ∧ σ.1.length < 100000 ∧ va_P D zz_cl (zz_ws cA b ex σ) U.heap))
      (fun _ st oc t => (∃ (r : Option Value) (σ' : zz_St), oc = .returned (r.map (zz_tr b ex)) ∧ Q r σ' ∧ t.heap.size = b + σ'.1.length ∧ σ'.1.length < 100000 ∧ va_P D zz_cl (zz_ws cA b ex σ') t.heap) ∧ va_F (fun q => b ≤ q) st t) mc ms (fun q => b ≤ q)
theorem zz_tr_i (b : Nat) (ex : Nat → Nat) (x : Int32) : zz_tr b ex (.int x) = .int x := rfl
theorem zz_cat (b : Nat) (ex : Nat → Nat) (v : Value) : (zz_tr b ex v).category = v.category := by cases v <;> rfl
theorem zz_cats (b : Nat) (ex : Nat → Nat) (S : List Value) : ((S.map (zz_tr b ex)).map fun v => v.category).sum = (S.map fun v => v.category).sum := by
  rw [List.map_map]
  congr 1
  apply List.map_congr_left
  intro v _
  exact zz_cat b ex v
theorem zz_ao {ty : FieldType} {A A' : Array Value} {u U : State} (hvm : u.vm.Alike U.vm) (h : (Cond.arrayOver ty).before A u = true) : (Cond.arrayOver ty).before A' U = true := by
  have e : (Cond.arrayOver ty).before A' U = (Cond.arrayOver ty).before A u := by
    simp only [Cond.before, Cond.holds, Cond.value, hvm.findClass]
    congr 1
    congr 1
    funext comp
    rw [hvm.findIdx?_eq _ (fun k => rfl)]
    congr 1
    funext c
    exact hvm.class_map _ (fun k r _ _ => rfl) c
  rw [e]; exact h
theorem zz_Kmove {D : va_G} {cA : Nat → ClassId} {s U : State} (hW : s.WarmedH U.vm) (h : zz_K D cA s) : zz_K D cA U := by
  refine ⟨va_K.moved hW.alike h.1, fun w hw => ?_⟩
  have h1 := h.2 w hw
  simp only [zz_nest, List.mem_cons, List.not_mem_nil, or_false] at hw
  rcases hw with rfl | rfl | rfl | rfl | rfl | rfl | rfl | rfl <;> first | exact va_Nw.warmM hW h1 | exact zz_ao hW.alike h1
theorem zz_Kcall {D : va_G} {cA : Nat → ClassId} {u U : State} (h0 : u.vm = U.vm) (h : zz_K D cA u) : zz_K D cA U := by
  refine ⟨va_K.moved (by rw [h0]; exact Vm.Alike.refl U.vm) h.1, fun w hw => ?_⟩
  have h1 := h.2 w hw
  simp only [zz_nest, List.mem_cons, List.not_mem_nil, or_false] at hw
  rcases hw with rfl | rfl | rfl | rfl | rfl | rfl | rfl | rfl <;> first | exact va_Nw.same rfl h0 h1 | exact zz_ao (by rw [h0]; exact Vm.Alike.refl U.vm) h1
theorem zz_Xmove {b : Nat} {ex : Nat → Nat} {sc : Nat × (Nat → Int32)} {s U : State} {H H1 : Heap} (hvm : s.vm.Alike U.vm) (hq : ∀ a : Nat, a < b → H1[a]? = H[a]?) (h : zz_X b ex sc s H) : zz_X b ex sc U H1 := by
  refine ⟨fun i hi => ⟨(h.1 i hi).1, ((h.1 i hi).2.kept (hq _ (h.1 i hi).1)).moved hvm⟩, fun i h1 h2 => va_Z.moved hvm ((h.2 i h1 h2).kept (fun a _ ha => hq a (Nat.not_le.mp ha)))⟩
end
section
/-! ===== the locals ===== -/
def zz_lk (L : List (Option Value)) (i : Nat) : Option Value := match L[i]? with
  | some (some v) => some v
  | _ => none
def zz_n2 (L : List (Option Value)) (i : Nat) : Bool := match i with
  | 0 => true
  | j + 1 => match L[j]? with
    | some (some (.long _)) => false
    | some (some (.double _)) => false
    | _ => true
def zz_Ll (b : Nat) (ex : Nat → Nat) (L : List (Option Value)) : List (Nat × Value) := (List.range L.length).filterMap (fun i => (L[i]?.join).map (fun v => (i, zz_tr b ex v)))
theorem zz_lk_spec {L : List (Option Value)} {i : Nat} {v : Value} (h : zz_lk L i = some v) : L[i]? = some (some v) := by
  unfold zz_lk at h
  split at h
  · next w hw => cases h; exact hw
  · cases h
theorem zz_Ll_mem {b : Nat} {ex : Nat → Nat} {L : List (Option Value)} {i : Nat} {v : Value} (h : L[i]? = some (some v)) : (i, zz_tr b ex v) ∈ zz_Ll b ex L := by
  refine List.mem_filterMap.mpr ⟨i, List.mem_range.mpr (List.getElem?_eq_some_iff.mp h).1, ?_⟩
  rw [h]; rfl
theorem zz_Ll_inv {b : Nat} {ex : Nat → Nat} {L : List (Option Value)} {q : Nat × Value} (h : q ∈ zz_Ll b ex L) : ∃ v, L[q.1]? = some (some v) ∧ q.2 = zz_tr b ex v := by
  obtain ⟨i, -, hi⟩ := List.mem_filterMap.mp h
  obtain ⟨v, hv, rfl⟩ := Option.map_eq_some_iff.mp hi
  refine ⟨v, ?_, rfl⟩
  show L[i]? = _
  cases hL : L[i]? with
  | none => rw [hL] at hv; cases hv
  | some w => rw [hL] at hv; exact congrArg some hv
theorem zz_L.has {b : Nat} {ex : Nat → Nat} {ls : Array Slot} {nL : Nat} {L : List (Option Value)} (h : zz_L b ex ls nL L) : lv_has ls nL (zz_Ll b ex L) := by
  refine ⟨h.1, h.2.1, fun q hq => ?_⟩
  obtain ⟨v, h1, h2⟩ := zz_Ll_inv hq
  rw [h2]
  exact h.2.2.2 _ _ h1
theorem zz_L.st1 {b : Nat} {ex : Nat → Nat} {ls ls' : Array Slot} {nL i : Nat} {L : List (Option Value)} {v : Value} (h0 : zz_L b ex ls nL L) (hn : zz_n2 L i = true) (hi : i < L.length) (h : lv_has ls' nL ((i, zz_tr b ex v) :: (zz_Ll b ex L).filter (fun q => !(q.1 == i) && !(q.1 + 1 == i && q.2.category == 2)))) : zz_L b ex ls' nL (L.set i (some v)) := by
  refine ⟨h.1, h.2.1, by rw [List.length_set]; exact h0.2.2.1, fun j w hj => ?_⟩
  by_cases e : j = i
  · subst e
    rw [List.getElem?_set_self hi] at hj
    cases hj
    exact h.2.2 (j, zz_tr b ex v) List.mem_cons_self
  · rw [List.getElem?_set_ne (Ne.symm e)] at hj
    refine h.2.2 (j, zz_tr b ex w) (List.mem_cons_of_mem _ (List.mem_filter.mpr ⟨zz_Ll_mem hj, ?_⟩))
    simp only [Bool.and_eq_true, Bool.not_eq_true', beq_eq_false_iff_ne, ne_eq, Bool.and_eq_false_iff]
    refine ⟨e, ?_⟩
    by_cases e2 : j + 1 = i
    · right
      subst e2
      simp only [zz_n2, hj] at hn
      rw [zz_cat]
      cases w <;> simp_all [Value.category]
    · exact Or.inl e2
theorem zz_L.st2 {b : Nat} {ex : Nat → Nat} {ls ls' : Array Slot} {nL i : Nat} {L : List (Option Value)} {v : Value} (h0 : zz_L b ex ls nL L) (hn : zz_n2 L i = true) (hi : i < L.length) (h : lv_has ls' nL ((i, zz_tr b ex v) :: (zz_Ll b ex L).filter (fun q => !(q.1 == i) && (!(q.1 == i + 1) && !(q.1 + 1 == i && q.2.category == 2))))) : zz_L b ex ls' nL ((L.set i (some v)).set (i + 1) none) := by
  refine ⟨h.1, h.2.1, by rw [List.length_set, List.length_set]; exact h0.2.2.1, fun j w hj => ?_⟩
  by_cases e3 : j = i + 1
  · subst e3
    by_cases h9 : i + 1 < (L.set i (some v)).length
    · rw [List.getElem?_set_self h9] at hj
      cases hj
    · rw [List.getElem?_eq_none (by rw [List.length_set]; omega)] at hj
      cases hj
  rw [List.getElem?_set_ne (Ne.symm e3)] at hj
  by_cases e : j = i
  · subst e
    rw [List.getElem?_set_self hi] at hj
    cases hj
    exact h.2.2 (j, zz_tr b ex v) List.mem_cons_self
  · rw [List.getElem?_set_ne (Ne.symm e)] at hj
    refine h.2.2 (j, zz_tr b ex w) (List.mem_cons_of_mem _ (List.mem_filter.mpr ⟨zz_Ll_mem hj, ?_⟩))
    simp only [Bool.and_eq_true, Bool.not_eq_true', beq_eq_false_iff_ne, ne_eq, Bool.and_eq_false_iff]
    refine ⟨e, e3, ?_⟩
    by_cases e2 : j + 1 = i
    · right
      subst e2
      simp only [zz_n2, hj] at hn
      rw [zz_cat]
      cases w <;> simp_all [Value.category]
    · exact Or.inl e2
/-! ===== the contract out of the walk ===== -/
theorem zz_sl (b : Nat) (ex : Nat → Nat) {as : List Value} (hc1 : as.all (fun v => v.category == 1) = true) : lg_sl (as.map (zz_tr b ex)) = (as.map (zz_tr b ex)).map Slot.val := by
  unfold lg_sl
  induction as with
  | nil => rfl
  | cons v r ih =>
    simp only [List.all_cons, Bool.and_eq_true, beq_iff_eq] at hc1
    simp only [List.map_cons, List.flatMap_cons]
    rw [if_neg (by rw [zz_cat, hc1.1]; decide), ih hc1.2]
    rfl
theorem EvM.of {sc : Nat × (Nat → Int32)} {d mc ms : Nat} {M : zz_MD} {as : List Value} {σ : zz_St} {Q : Option Value → zz_St → Prop} (hy : plainName M.1.cls = true) (hc1 : as.all (fun v => v.category == 1) = true) (hn : as.length ≤ M.2.2.1)
    (h : Ev sc d mc ms M 0 (as.map some ++ List.replicate (M.2.2.1 - as.length) none) [] σ Q) : EvM sc d mc ms M as σ Q := by
  intro l D cA b ex
  refine Met.ofW (cc := M.2.1) (maxL := M.2.2.1) (ret := M.2.2.2.1) hy rfl ?_
  intro p e s m args below meth c s₁ B hml hv
  obtain ⟨rfl, hK, hX, hbl, hsz, hlt, hP⟩ := hv
  have hts := atoms_spec (ws := zz_ws1 M) B.pre
  have hlocks := B.notSynchronized
  have hsl := zz_sl b ex hc1
  have hle := lv_entry (as.map (zz_tr b ex)) (n := M.2.2.1) (by rw [hsl]; simpa using hn)
  rw [lg_entry_eq]
  rw [hsl] at hle ⊢
  generalize hls : (List.map Slot.val (as.map (zz_tr b ex)) ++ List.replicate (M.2.2.1 - (List.map Slot.val (as.map (zz_tr b ex))).length) Slot.unset).toArray = ls at hle ⊢
  have hL : zz_L b ex ls M.2.2.1 (as.map some ++ List.replicate (M.2.2.1 - as.length) none) := by
    refine ⟨hle.1, hle.2.1, by simp; omega, fun i v hi => ?_⟩
    by_cases h9 : i < as.length
    · rw [List.getElem?_append_left (by simpa using h9)] at hi
      rw [← hls]
      simp only [List.getElem?_toArray]
      rw [List.getElem?_append_left (by simpa using h9)]
      simp only [List.getElem?_map] at hi ⊢
      obtain ⟨w, hw, e9⟩ := Option.map_eq_some_iff.mp hi
      cases e9
      rw [hw]; rfl
    · rw [List.getElem?_append_right (by simpa using h9)] at hi
      have := List.eq_of_mem_replicate (List.mem_of_getElem? hi)
      cases this
  refine h p l e _ s m _ below meth c D cA b ex s.heap [] 0 0 _ ls ⟨B.exec, B.bytes, hml, findClass_of_methodNamed B.named, fun w hw => hts w (List.mem_cons_of_mem _ hw), hK, hX, hbl, (name_of_methodNamed B.named B.method).1⟩ ⟨hsz, hlt, hP, va_S.rf⟩ hL (Nat.le_refl _) (Nat.le_refl _) (by show 0 + mc ≤ mc; omega) (by show 0 + ms ≤ ms; omega) ?_
  intro pc' ls' r σ' H' locs' cells' slots' hQ hR hc hs hrt
  refine W.widen (k := mc) (n := ms) (by omega) (by omega) ?_
  obtain ⟨z1, z2, z3, z4⟩ := hR
  rcases hrt with ⟨hr, rfl, hd⟩ | ⟨hr, x, rfl, hd⟩ | ⟨hr, x, h01, rfl, hd⟩ | ⟨hr, x, rfl, hd⟩
  · exact W.vret B.exec B.bytes (B.returns.trans hr) (fun t ht hW => ⟨⟨none, σ', rfl, hQ, by rw [ht]; exact z1, z2, by rw [ht]; exact z3⟩, z4.F ht⟩) z4.2.2 hd
  · exact W.iret B.exec B.bytes (B.returns.trans hr) (fun t ht hW => ⟨⟨some (.int x), σ', rfl, hQ, by rw [ht]; exact z1, z2, by rw [ht]; exact z3⟩, z4.F ht⟩) z4.2.2 hd
  · exact W.zret B.exec B.bytes (B.returns.trans hr) (by rcases h01 with rfl | rfl <;> decide) (fun t ht hW => ⟨⟨some (.int x), σ', rfl, hQ, by rw [ht]; exact z1, z2, by rw [ht]; exact z3⟩, z4.F ht⟩) z4.2.2 hd
  · exact W.lret B.exec B.bytes (B.returns.trans hr) (fun t ht hW => ⟨⟨some (.long x), σ', rfl, hQ, by rw [ht]; exact z1, z2, by rw [ht]; exact z3⟩, z4.F ht⟩) z4.2.2 hd

/-! ===== calls ===== -/
section ZZC
variable {p : Program} {l : Launch} {e : Env} {R : Room} {s : State} {m : MethodId} {args : Array Value} {below : List Frame} {meth : Method} {c : Code} {H : Heap} {locs : List Loc} {cells slots : Nat} {Qt : State → Prop}
theorem zz_go {D : va_G} {cA : Nat → ClassId} {b : Nat} {ex : Nat → Nat} {H0 : Heap} {pc mc ms : Nat} {ls : Array Slot} {rest st0 : List Value} {Q1 : Option Value → zz_St → Prop} {a : Array Value}
    (hr : va_Run p l e R s m args below meth c H locs cells slots mc ms (F0 m pc ls st0) rest (fun st oc t => (∃ (r : Option Value) (σ' : zz_St), oc = .returned (r.map (zz_tr b ex)) ∧ Q1 r σ' ∧ t.heap.size = b + σ'.1.length ∧ σ'.1.length < 100000 ∧ va_P D zz_cl (zz_ws cA b ex σ') t.heap) ∧ va_F (fun q => b ≤ q) st t) (fun q => b ≤ q))
    (hS : va_S (fun q => b ≤ q) H0 H locs)
    (kk : ∀ (r : Option Value) (σ' : zz_St) (H1 : Heap) (locs1 : List Loc), Q1 r σ' → zz_R D cA b ex σ' H0 H1 locs1 → W p l e R s m args below meth c H1 locs1 (cells + mc) (slots + ms) Qt (F0 m (pc + 3) ls ((r.map (zz_tr b ex)).toList ++ rest))) : W p l e R s m args below meth c H locs cells slots Qt (F0 m pc ls st0) := by
  intro T hT X
  obtain ⟨v, st₀, t, T', L, h0, X', hL, e1, e2, ⟨⟨r, σ', hv, hq, z1, z2, z3⟩, hz, hk⟩, st⟩ := hr T hT X
  have hv : v = r.map (zz_tr b ex) := by injection hv
  subst hv
  rw [h0] at hz hk
  obtain ⟨t2, a1, b1⟩ := kk r σ' T'.heap (locs ++ L) hq ⟨by rw [e1]; exact z1, z2, by rw [e1]; exact z3,
    ⟨Nat.le_trans hS.1 (by rw [e1]; exact hz), fun q h1 h2 => by rw [e1, hk q (Nat.lt_of_lt_of_le h1 hS.1) h2]; exact hS.2.1 q h1 h2, fun q hq => by
      rcases List.mem_append.mp hq with h | h
      · exact hS.2.2 q h
      · exact hL q h⟩⟩ T' rfl X'
  exact ⟨t2, st t2 a1, b1⟩
theorem zz_pre {D : va_G} {cA : Nat → ClassId} {b : Nat} {ex : Nat → Nat} {sc : Nat × (Nat → Int32)} {σ : zz_St} {M : zz_MD} (hC : zz_C p s m args meth c D cA b ex sc M) (hR : zz_R D cA b ex σ s.heap H locs) (av : List Value) :
    PreS s H (va_Pc av (fun U => zz_K D cA U ∧ zz_X b ex sc U U.heap ∧ b ≤ U.heap.size ∧ U.heap.size = b + σ.1.length ∧ σ.1.length < 100000 ∧ va_P D zz_cl (zz_ws cA b ex σ) U.heap)) av := by
  obtain ⟨hx, hb, hml, hown, hts, hK, hX, hbl, hnm⟩ := hC
  obtain ⟨z1, z2, z3, z4⟩ := hR
  refine ⟨fun a U g mk q => ?_, fun U hU hW => ?_⟩
  · obtain ⟨q0, q1, q2, q3, q4, q5, q6⟩ := q
    exact ⟨q0, zz_Kcall (u := U) (U := U.calling g mk a) rfl q1, zz_Xmove (s := U) (U := U.calling g mk a) (Vm.Alike.refl U.vm) (fun _ _ => rfl) q2, q3, q4, q5, q6⟩
  · refine ⟨rfl, zz_Kmove hW hK, ?_, by rw [hU, z1]; exact Nat.le_add_right _ _, by rw [hU]; exact z1, z2, by rw [hU]; exact z3⟩
    rw [hU]
    exact zz_Xmove hW.alike (fun a ha => z4.2.1 a (Nat.lt_of_lt_of_le ha hbl) (Nat.not_le.mpr ha)) hX
end ZZC
/-- what a call of an own method needs of the tables -/
def zz_cB (M M' : zz_MD) (idx n : Nat) : Prop := Cond.code M'.1 M'.2.1 M'.2.2.1 M'.2.2.2.1 ∈ zz_WG ∧ Cond.initialized M'.1.cls ∈ zz_WG ∧ Cond.methodLink M.1.cls idx M'.1 ∈ zz_WG ∧ (M'.1.cls ≠ "java/lang/invoke/MethodHandle" ∧ M'.1.cls ≠ "java/lang/invoke/VarHandle" ∧ (parseMethodDescriptor M'.1.desc).map (fun d => d.parameters.length) = some n) ∧ M'.2.2.1 ≤ 17
def zz_cV (M M' : zz_MD) (idx n : Nat) : Prop := zz_cB M M' idx n ∧ Cond.instanceMethod M'.1 ∈ zz_WG ∧ Cond.selects M'.1.cls M'.1 M'.1 ∈ zz_WG
def zz_cS (M M' : zz_MD) (idx n : Nat) : Prop := zz_cB M M' idx n ∧ Cond.static M'.1 ∈ zz_WG
theorem zz_gw {M' : zz_MD} (h : Cond.code M'.1 M'.2.1 M'.2.2.1 M'.2.2.2.1 ∈ zz_WG) : GoodIn zz_WG (zz_ws1 M') := fun w hw => (List.mem_cons.mp hw).elim (fun e => by rw [e]; exact zz_good _ h) (fun h2 => zz_good _ h2)
theorem Ev.callV {sc : Nat × (Nat → Int32)} {d mc1 ms1 mc2 ms2 : Nat} {M : zz_MD} (M' : zz_MD) {pc : Nat} {L : List (Option Value)} {σ : zz_St} {Q : Option Value → zz_St → Prop} {idx n k ci : Nat} (as rest : List Value) {fs : List (Option (Option Nat))} {q : vw_C} (Q1 : Option Value → zz_St → Prop)
    (hcv : zz_cV M M' idx n) (hd : decode M.2.1 pc = .ok (.invokevirtual idx, 3)) (hk : σ.1[k]? = some (.inl (ci, fs))) (hci : zz_cl[ci]? = some q) (hq : q.1 = M'.1.cls) (hn : as.length = n) (hst : (rest.map fun v => v.category).sum ≤ 8)
    (hM : EvM sc d mc1 ms1 M' (.ref k :: as) σ Q1) (kk : ∀ (r : Option Value) (σ' : zz_St), Q1 r σ' → Ev sc (d + 1) mc2 ms2 M (pc + 3) L (r.toList ++ rest) σ' Q) : Ev sc (d + 1) (mc1 + mc2) (ms1 + ms2) M pc L (as.reverse ++ .ref k :: rest) σ Q := by
  intro p l e R s m args below meth c D cA b ex H locs cells slots Qt ls hC hR hL hf hlo hce hsl hret
  obtain ⟨⟨w1, w2, w3, w4, w5⟩, w6, w7⟩ := hcv
  have hC' := hC
  obtain ⟨hx, hb, hml, hown, hts, hK, hX, hbl, hnm⟩ := hC
  have hpre := zz_pre hC' hR ((Value.ref k :: as).map (zz_tr b ex))
  have hk9 : k < σ.1.length := (List.getElem?_eq_some_iff.mp hk).1
  have hadr : zz_ad b ex k = b + k := if_pos (Nat.lt_trans hk9 hR.2.1)
  have hrecv := va_recv hK.1 hR.2.2.1 (ci := ci) (q0 := k) hci (zz_ws_get hk)
  have hstk : (as.reverse ++ Value.ref k :: rest).map (zz_tr b ex) = (as.map (zz_tr b ex)).reverse ++ Value.ref (zz_ad b ex k) :: rest.map (zz_tr b ex) := by
    rw [List.map_append, List.map_reverse]; rfl
  rw [hstk]
  refine zz_go (Q1 := Q1) (a := #[]) (va_runV (C := M'.1.cls) (b := zz_ad b ex k) (As := as.map (zz_tr b ex)) (n := n) ⟨hx, hb, hml, hown, hts⟩ (hM l D cA b ex) ⟨callB_of n hts (zz_gw w1) rfl rfl rfl (hts _ w2) (hts _ w3) w4 ⟨by show d + 1 ≤ R.frames; omega, by show 8 + (M'.2.2.1 + 11) + 36 * d ≤ R.locals; omega⟩, hts _ w6, hts _ w7⟩ ⟨hpre.1, by rw [hadr, ← hq]; exact hrecv, hpre.2⟩ rfl (by rw [List.length_map]; exact hn) hL.1 rfl (lv_room (by rw [zz_cats]; exact hst)) hd ⟨by omega, by omega⟩) hR.2.2.2 ?_
  intro r σ' H1 locs1 hq1 hR1
  have h1 := kk r σ' hq1 p l e R s m args below meth c D cA b ex H1 locs1 (cells + mc1) (slots + ms1) Qt ls hC' hR1 hL hf hlo (by omega) (by omega) (fun pc' ls' r' σ'' H' locs' cells' slots' a1 a2 a3 a4 a5 => hret pc' ls' r' σ'' H' locs' cells' slots' a1 a2 (by omega) (by omega) a5)
  have e9 : (r.toList ++ rest).map (zz_tr b ex) = (r.map (zz_tr b ex)).toList ++ rest.map (zz_tr b ex) := by
    cases r <;> rfl
  rw [e9] at h1
  exact h1
theorem Ev.callS {sc : Nat × (Nat → Int32)} {d mc1 ms1 mc2 ms2 : Nat} {M : zz_MD} (M' : zz_MD) {pc : Nat} {L : List (Option Value)} {σ : zz_St} {Q : Option Value → zz_St → Prop} {idx n : Nat} (as rest : List Value) (Q1 : Option Value → zz_St → Prop)
    (hcv : zz_cS M M' idx n) (hd : decode M.2.1 pc = .ok (.invokestatic idx, 3)) (hn : as.length = n) (hst : (rest.map fun v => v.category).sum ≤ 8)
    (hM : EvM sc d mc1 ms1 M' as σ Q1) (kk : ∀ (r : Option Value) (σ' : zz_St), Q1 r σ' → Ev sc (d + 1) mc2 ms2 M (pc + 3) L (r.toList ++ rest) σ' Q) : Ev sc (d + 1) (mc1 + mc2) (ms1 + ms2) M pc L (as.reverse ++ rest) σ Q := by
  intro p l e R s m args below meth c D cA b ex H locs cells slots Qt ls hC hR hL hf hlo hce hsl hret
  obtain ⟨⟨w1, w2, w3, w4, w5⟩, w6⟩ := hcv
  have hC' := hC
  obtain ⟨hx, hb, hml, hown, hts, hK, hX, hbl, hnm⟩ := hC
  have hpre := zz_pre hC' hR (as.map (zz_tr b ex))
  have hstk : (as.reverse ++ rest).map (zz_tr b ex) = (as.map (zz_tr b ex)).reverse ++ rest.map (zz_tr b ex) := by
    rw [List.map_append, List.map_reverse]
  rw [hstk]
  refine zz_go (Q1 := Q1) (a := #[]) (va_runS (As := as.map (zz_tr b ex)) (n := n) ⟨hx, hb, hml, hown, hts⟩ (hM l D cA b ex) ⟨callB_of n hts (zz_gw w1) rfl rfl rfl (hts _ w2) (hts _ w3) w4 ⟨by show d + 1 ≤ R.frames; omega, by show 8 + (M'.2.2.1 + 11) + 36 * d ≤ R.locals; omega⟩, hts _ w6⟩ hpre rfl (by rw [List.length_map]; exact hn) hL.1 rfl (lv_room (by rw [zz_cats]; exact hst)) hd ⟨by omega, by omega⟩) hR.2.2.2 ?_
  intro r σ' H1 locs1 hq1 hR1
  have h1 := kk r σ' hq1 p l e R s m args below meth c D cA b ex H1 locs1 (cells + mc1) (slots + ms1) Qt ls hC' hR1 hL hf hlo (by omega) (by omega) (fun pc' ls' r' σ'' H' locs' cells' slots' a1 a2 a3 a4 a5 => hret pc' ls' r' σ'' H' locs' cells' slots' a1 a2 (by omega) (by omega) a5)
  have e9 : (r.toList ++ rest).map (zz_tr b ex) = (r.map (zz_tr b ex)).toList ++ rest.map (zz_tr b ex) := by
    cases r <;> rfl
  rw [e9] at h1
  exact h1
end
section
/-! ===== single steps ===== -/
def zz_psh (pc n : Nat) (L : List (Option Value)) (S : List Value) (v : Value) : Option (Nat × List (Option Value) × List Value) := some (pc + n, L, v :: S)
def zz_ld (pc n : Nat) (L : List (Option Value)) (S : List Value) (t : Nat) (i : Nat) : Option (Nat × List (Option Value) × List Value) := match t, zz_lk L i with
  | 0, some (.int x) => some (pc + n, L, .int x :: S)
  | 1, some (.ref x) => some (pc + n, L, .ref x :: S)
  | 2, some (.long x) => some (pc + n, L, .long x :: S)
  | _, _ => none
def zz_so (pc n : Nat) (L : List (Option Value)) (S : List Value) (t : Nat) (i : Nat) : Option (Nat × List (Option Value) × List Value) := match Nat.blt i L.length && zz_n2 L i with
  | false => none
  | true => match t, S with
    | 0, .int x :: r => some (pc + n, L.set i (some (.int x)), r)
    | 1, .ref x :: r => some (pc + n, L.set i (some (.ref x)), r)
    | 2, .long x :: r => match Nat.blt (i + 1) L.length with
      | true => some (pc + n, (L.set i (some (.long x))).set (i + 1) none, r)
      | false => none
    | _, _ => none
def zz_b2 (pc n : Nat) (L : List (Option Value)) (S : List Value) (f : Int32 → Int32 → Int32) : Option (Nat × List (Option Value) × List Value) := match S with
  | .int y :: .int x :: r => some (pc + n, L, .int (f x y) :: r)
  | _ => none
def zz_step (i : Instr) (n pc : Nat) (L : List (Option Value)) (S : List Value) : Option (Nat × List (Option Value) × List Value) := match i with
  | .iload_n k => zz_ld pc n L S 0 k.val
  | .iload k => zz_ld pc n L S 0 k
  | .aload_n k => zz_ld pc n L S 1 k.val
  | .aload k => zz_ld pc n L S 1 k
  | .lload k => zz_ld pc n L S 2 k
  | .istore_n k => zz_so pc n L S 0 k.val
  | .istore k => zz_so pc n L S 0 k
  | .astore_n k => zz_so pc n L S 1 k.val
  | .astore k => zz_so pc n L S 1 k
  | .lstore k => zz_so pc n L S 2 k
  | .iconst v => zz_psh pc n L S (.int (Int32.ofInt v))
  | .bipush v => zz_psh pc n L S (.int (Int8.ofInt v).toInt32)
  | .sipush v => zz_psh pc n L S (.int (Int16.ofInt v).toInt32)
  | .lconst v => zz_psh pc n L S (.long (Int64.ofNat v.val))
  | .iadd => zz_b2 pc n L S (fun x y => x + y)
  | .isub => zz_b2 pc n L S (fun x y => x - y)
  | .imul => zz_b2 pc n L S (fun x y => x * y)
  | .iand => zz_b2 pc n L S (fun x y => x &&& y)
  | .ior => zz_b2 pc n L S (fun x y => x ||| y)
  | .ishl => zz_b2 pc n L S (fun x y => x <<< (y &&& 31))
  | .ishr => zz_b2 pc n L S (fun x y => x >>> (y &&& 31))
  | .iushr => zz_b2 pc n L S (fun x y => (x.toUInt32 >>> (y.toUInt32 &&& Int32.toUInt32 31)).toInt32)
  | .ineg => match S with
    | .int x :: r => some (pc + n, L, .int (-x) :: r)
    | _ => none
  | .i2l => match S with
    | .int x :: r => some (pc + n, L, .long x.toInt64 :: r)
    | _ => none
  | .ladd => match S with
    | .long y :: .long x :: r => some (pc + n, L, .long (x + y) :: r)
    | _ => none
  | .lcmp => match S with
    | .long y :: .long x :: r => some (pc + n, L, .int (lg_cmp x y) :: r)
    | _ => none
  | .iinc k v => match zz_lk L k, (Nat.blt k L.length && zz_n2 L k) with
    | some (.int x), true => some (pc + n, L.set k (some (.int (x + Int32.ofInt v))), S)
    | _, _ => none
  | .dup => match S with
    | .int x :: r => some (pc + n, L, .int x :: .int x :: r)
    | .ref x :: r => some (pc + n, L, .ref x :: .ref x :: r)
    | _ => none
  | .dup2 => match S with
    | .int x :: .int y :: r => some (pc + n, L, .int x :: .int y :: .int x :: .int y :: r)
    | .int x :: .ref y :: r => some (pc + n, L, .int x :: .ref y :: .int x :: .ref y :: r)
    | _ => none
  | .pop => match S with
    | .int _ :: r => some (pc + n, L, r)
    | _ => none
  | _ => none
def zz_len (i : Instr) : Nat := match i with
  | .iload _ => 2
  | .aload _ => 2
  | .lload _ => 2
  | .istore _ => 2
  | .astore _ => 2
  | .lstore _ => 2
  | .bipush _ => 2
  | .sipush _ => 3
  | .iinc _ _ => 3
  | _ => 1
section ZZ1
variable {p : Program} {l : Launch} {e : Env} {R : Room} {s : State} {m : MethodId} {args : Array Value} {below : List Frame} {meth : Method} {c : Code} {H : Heap} {locs : List Loc} {cells slots : Nat} {Qt : State → Prop} {cc : ByteArray} {pc : Nat} {ls : Array Slot} {b : Nat} {ex : Nat → Nat} {nL : Nat} {L L' : List (Option Value)} {S S' : List Value} {pc' : Nat}
theorem zz_ld_i {i : Nat} {n : Nat} (h : zz_ld pc n L S 0 i = some (pc', L', S')) : ∃ x : Int32, L[i]? = some (some (.int x)) ∧ pc' = pc + n ∧ L' = L ∧ S' = .int x :: S := by
  unfold zz_ld at h
  split at h
  · next x _ hx => cases h; exact ⟨x, zz_lk_spec hx, rfl, rfl, rfl⟩
  all_goals (first | (next h0 _ => exact absurd h0 (by decide)) | cases h)
theorem zz_ld_a {i : Nat} {n : Nat} (h : zz_ld pc n L S 1 i = some (pc', L', S')) : ∃ x : Nat, L[i]? = some (some (.ref x)) ∧ pc' = pc + n ∧ L' = L ∧ S' = .ref x :: S := by
  unfold zz_ld at h
  split at h
  · next h0 _ => exact absurd h0 (by decide)
  · next x _ hx => cases h; exact ⟨x, zz_lk_spec hx, rfl, rfl, rfl⟩
  all_goals (first | (next h0 _ => exact absurd h0 (by decide)) | cases h)
theorem zz_ld_l {i : Nat} {n : Nat} (h : zz_ld pc n L S 2 i = some (pc', L', S')) : ∃ x : Int64, L[i]? = some (some (.long x)) ∧ pc' = pc + n ∧ L' = L ∧ S' = .long x :: S := by
  unfold zz_ld at h
  split at h
  · next h0 _ => exact absurd h0 (by decide)
  · next h0 _ => exact absurd h0 (by decide)
  · next x _ hx => cases h; exact ⟨x, zz_lk_spec hx, rfl, rfl, rfl⟩
  · cases h
theorem zz_so_i {i : Nat} {n : Nat} (h : zz_so pc n L S 0 i = some (pc', L', S')) : ∃ (x : Int32), S = .int x :: S' ∧ i < L.length ∧ zz_n2 L i = true ∧ pc' = pc + n ∧ L' = L.set i (some (.int x)) := by
  unfold zz_so at h
  split at h
  · cases h
  · next hc =>
    rw [Bool.and_eq_true] at hc
    split at h
    · cases h; exact ⟨_, rfl, Nat.le_of_ble_eq_true hc.1, hc.2, rfl, rfl⟩
    · next h0 => exact absurd h0 (by decide)
    · next h0 => exact absurd h0 (by decide)
    · cases h
theorem zz_so_a {i : Nat} {n : Nat} (h : zz_so pc n L S 1 i = some (pc', L', S')) : ∃ (x : Nat), S = .ref x :: S' ∧ i < L.length ∧ zz_n2 L i = true ∧ pc' = pc + n ∧ L' = L.set i (some (.ref x)) := by
  unfold zz_so at h
  split at h
  · cases h
  · next hc =>
    rw [Bool.and_eq_true] at hc
    split at h
    · next h0 => exact absurd h0 (by decide)
    · cases h; exact ⟨_, rfl, Nat.le_of_ble_eq_true hc.1, hc.2, rfl, rfl⟩
    · next h0 => exact absurd h0 (by decide)
    · cases h
theorem zz_so_l {i : Nat} {n : Nat} (h : zz_so pc n L S 2 i = some (pc', L', S')) : ∃ (x : Int64), S = .long x :: S' ∧ i + 1 < L.length ∧ zz_n2 L i = true ∧ pc' = pc + n ∧ L' = (L.set i (some (.long x))).set (i + 1) none := by
  unfold zz_so at h
  split at h
  · cases h
  · next hc =>
    rw [Bool.and_eq_true] at hc
    split at h
    · next h0 => exact absurd h0 (by decide)
    · next h0 => exact absurd h0 (by decide)
    · split at h
      · next h9 => cases h; exact ⟨_, rfl, Nat.le_of_ble_eq_true h9, hc.2, rfl, rfl⟩
      · cases h
    · cases h
theorem zz_b2_i {n : Nat} {f : Int32 → Int32 → Int32} (h : zz_b2 pc n L S f = some (pc', L', S')) : ∃ (x y : Int32) (r : List Value), S = .int y :: .int x :: r ∧ pc' = pc + n ∧ L' = L ∧ S' = .int (f x y) :: r := by
  unfold zz_b2 at h
  split at h
  · cases h; exact ⟨_, _, _, rfl, rfl, rfl, rfl⟩
  · cases h
end ZZ1
set_option maxHeartbeats 4000000 in
theorem Ev.step {sc : Nat × (Nat → Int32)} {d mc ms : Nat} {M : zz_MD} {pc : Nat} {L : List (Option Value)} {S : List Value} {σ : zz_St} {Q : Option Value → zz_St → Prop} {i : Instr} {n pc' : Nat} {L' : List (Option Value)} {S' : List Value}
    (hd : decode M.2.1 pc = .ok (i, n)) (hlen : zz_len i = n) (hs : zz_step i n pc L S = some (pc', L', S')) (k : Ev sc d mc ms M pc' L' S' σ Q) : Ev sc d mc ms M pc L S σ Q := by
  intro p l e R s m args below meth c D cA b ex H locs cells slots Qt ls hC hR hL hf hlo hce hsl hret
  have hx := hC.1
  have hb := hC.2.1
  have K := fun ls' hL' => k p l e R s m args below meth c D cA b ex H locs cells slots Qt ls' hC hR hL' hf hlo hce hsl hret
  cases i with
  | iload_n q =>
    obtain ⟨x, h1, rfl, rfl, rfl⟩ := zz_ld_i hs
    cases hlen
    exact lv_iload_n hx hb hd rfl (hL.2.2.2 _ _ h1) (K ls hL)
  | iload q =>
    obtain ⟨x, h1, rfl, rfl, rfl⟩ := zz_ld_i hs
    cases hlen
    exact lv_iload hx hb hd (hL.2.2.2 _ _ h1) (K ls hL)
  | aload_n q =>
    obtain ⟨x, h1, rfl, rfl, rfl⟩ := zz_ld_a hs
    cases hlen
    exact lv_aload_n hx hb hd rfl (hL.2.2.2 _ _ h1) (K ls hL)
  | aload q =>
    obtain ⟨x, h1, rfl, rfl, rfl⟩ := zz_ld_a hs
    cases hlen
    exact lv_aload hx hb hd (hL.2.2.2 _ _ h1) (K ls hL)
  | lload q =>
    obtain ⟨x, h1, rfl, rfl, rfl⟩ := zz_ld_l hs
    cases hlen
    exact lv_lload hx hb hd (hL.2.2.2 _ _ h1) (K ls hL)
  | istore_n q =>
    obtain ⟨x, rfl, h1, h2, rfl, rfl⟩ := zz_so_i hs
    cases hlen
    exact lv_istore_n hx hb hd rfl hL.has (by rw [← hL.2.2.1]; exact h1) rfl (fun ls' h => K ls' (hL.st1 (v := .int x) h2 h1 h))
  | istore q =>
    obtain ⟨x, rfl, h1, h2, rfl, rfl⟩ := zz_so_i hs
    cases hlen
    exact lv_istore hx hb hd hL.has (by rw [← hL.2.2.1]; exact h1) rfl (fun ls' h => K ls' (hL.st1 (v := .int x) h2 h1 h))
  | astore_n q =>
    obtain ⟨x, rfl, h1, h2, rfl, rfl⟩ := zz_so_a hs
    cases hlen
    exact lv_astore_n hx hb hd rfl hL.has (by rw [← hL.2.2.1]; exact h1) rfl (fun ls' h => K ls' (hL.st1 (v := .ref x) h2 h1 h))
  | astore q =>
    obtain ⟨x, rfl, h1, h2, rfl, rfl⟩ := zz_so_a hs
    cases hlen
    exact lv_astore hx hb hd hL.has (by rw [← hL.2.2.1]; exact h1) rfl (fun ls' h => K ls' (hL.st1 (v := .ref x) h2 h1 h))
  | lstore q =>
    obtain ⟨x, rfl, h1, h2, rfl, rfl⟩ := zz_so_l hs
    cases hlen
    exact lv_lstore hx hb hd hL.has (by rw [← hL.2.2.1]; exact h1) rfl (fun ls' h => K ls' (hL.st2 (v := .long x) h2 (by omega) h))
  | iconst v => cases hlen; cases hs; exact lv_iconst hx hb hd rfl (K ls hL)
  | bipush v => cases hlen; cases hs; exact lv_bipush hx hb hd rfl (K ls hL)
  | sipush v => cases hlen; cases hs; exact lv_sipush hx hb hd rfl (K ls hL)
  | lconst v => cases hlen; cases hs; exact lv_lconst hx hb hd rfl (K ls hL)
  | iadd => obtain ⟨x, y, r, rfl, rfl, rfl, rfl⟩ := zz_b2_i hs; cases hlen; exact lv_iadd hx hb hd (K ls hL)
  | isub => obtain ⟨x, y, r, rfl, rfl, rfl, rfl⟩ := zz_b2_i hs; cases hlen; exact lv_isub hx hb hd (K ls hL)
  | imul => obtain ⟨x, y, r, rfl, rfl, rfl, rfl⟩ := zz_b2_i hs; cases hlen; exact lv_imul hx hb hd (K ls hL)
  | iand => obtain ⟨x, y, r, rfl, rfl, rfl, rfl⟩ := zz_b2_i hs; cases hlen; exact lv_iand hx hb hd (K ls hL)
  | ior => obtain ⟨x, y, r, rfl, rfl, rfl, rfl⟩ := zz_b2_i hs; cases hlen; exact lv_ior hx hb hd (K ls hL)
  | ishl => obtain ⟨x, y, r, rfl, rfl, rfl, rfl⟩ := zz_b2_i hs; cases hlen; exact lv_ishl hx hb hd (K ls hL)
  | ishr => obtain ⟨x, y, r, rfl, rfl, rfl, rfl⟩ := zz_b2_i hs; cases hlen; exact lv_ishr hx hb hd (K ls hL)
  | iushr => obtain ⟨x, y, r, rfl, rfl, rfl, rfl⟩ := zz_b2_i hs; cases hlen; exact lv_iushr hx hb hd rfl (K ls hL)
  | ineg =>
    simp only [zz_step] at hs
    split at hs
    · cases hs; cases hlen; exact lv_ineg hx hb hd (K ls hL)
    · cases hs
  | i2l =>
    simp only [zz_step] at hs
    split at hs
    · cases hs; cases hlen; exact lv_i2l hx hb hd rfl (K ls hL)
    · cases hs
  | ladd =>
    simp only [zz_step] at hs
    split at hs
    · cases hs; cases hlen; exact lv_ladd hx hb hd (K ls hL)
    · cases hs
  | lcmp =>
    simp only [zz_step] at hs
    split at hs
    · cases hs; cases hlen; exact W.lcmp hx hb hd (K ls hL)
    · cases hs
  | iinc q v =>
    simp only [zz_step] at hs
    split at hs
    · next x h1 h2 =>
      cases hs; cases hlen
      rw [Bool.and_eq_true] at h2
      have h3 := zz_lk_spec h1
      obtain ⟨kk, hkk⟩ := List.getElem?_of_mem (zz_Ll_mem (b := b) (ex := ex) h3)
      exact lv_iinc hx hb hd hL.has hkk rfl (by rw [← hL.2.2.1]; exact Nat.le_of_ble_eq_true h2.1) rfl (fun ls' h => K ls' (hL.st1 (v := .int (x + Int32.ofInt v)) h2.2 (Nat.le_of_ble_eq_true h2.1) h))
    · cases hs
  | dup =>
    simp only [zz_step] at hs
    split at hs
    · cases hs; cases hlen; exact lv_dup hx hb hd rfl (K ls hL)
    · cases hs; cases hlen; exact lv_dup hx hb hd rfl (K ls hL)
    · cases hs
  | dup2 =>
    simp only [zz_step] at hs
    split at hs
    · cases hs; cases hlen; exact lv_dup2_11 hx hb hd rfl rfl (K ls hL)
    · cases hs; cases hlen; exact lv_dup2_11 hx hb hd rfl rfl (K ls hL)
    · cases hs
  | pop =>
    simp only [zz_step] at hs
    split at hs
    · cases hs; cases hlen; exact lv_pop hx hb hd rfl (K ls hL)
    · cases hs
  | _ => cases hs
end
section
/-! ===== tables of links, by program ===== -/
def zz_cn (oc : Nat) : String := match oc with
  | 0 => RX0
  | 1 => RX1
  | 2 => RX2
  | 3 => RX3
  | 4 => RX4
  | 5 => RX5
  | 6 => RX6
  | 7 => RX7
  | 8 => RL
  | _ => RJ6
def zz_flt : List (List (Nat × Nat × Nat)) := [[(11, 0, 0), (18, 0, 1), (26, 0, 2), (30, 4, 1)], [(9, 1, 0), (15, 4, 1), (45, 2, 3), (51, 2, 0), (61, 2, 11), (64, 2, 4), (72, 2, 10), (75, 2, 5)], [(11, 2, 0), (17, 2, 1), (20, 2, 2), (24, 2, 3), (29, 2, 4), (32, 2, 5), (35, 2, 6), (38, 2, 7), (44, 2, 8), (48, 2, 9), (51, 2, 10), (55, 2, 11)], [(9, 3, 0), (17, 3, 1), (20, 3, 2), (23, 3, 3), (26, 3, 4), (34, 3, 5), (46, 2, 4), (56, 2, 3), (60, 4, 1), (64, 2, 6), (67, 2, 11), (88, 2, 10), (97, 2, 5)], [(9, 4, 0), (15, 4, 1)], [(9, 2, 7), (15, 2, 0), (25, 2, 1), (31, 2, 10), (55, 4, 1)], [(14, 5, 0), (21, 5, 1), (25, 5, 2), (29, 5, 3), (36, 5, 4), (43, 5, 5), (50, 5, 6), (58, 4, 1), (72, 2, 10), (79, 2, 0), (87, 2, 1), (90, 2, 2), (98, 2, 11), (101, 2, 3), (125, 2, 4), (143, 2, 6), (161, 3, 5), (170, 2, 7), (204, 2, 8), (207, 2, 9), (214, 0, 0), (217, 0, 1), (221, 0, 2)], [(7, 6, 1), (13, 6, 3), (16, 6, 4), (19, 6, 5), (22, 6, 6), (25, 6, 7), (28, 6, 9), (31, 6, 10), (34, 6, 11), (37, 6, 12), (40, 6, 13), (43, 6, 14), (46, 6, 16), (49, 6, 18), (52, 6, 19), (55, 6, 20), (58, 6, 21), (61, 6, 24), (64, 6, 25), (68, 6, 26), (71, 6, 27), (75, 6, 2), (83, 6, 8), (86, 6, 0), (89, 6, 15), (127, 6, 17), (174, 6, 22), (177, 6, 23)], []]
def zz_fl (oc idx : Nat) : Option (Nat × Nat) := (zz_flt.getD oc []).lookup idx
def zz_Tn (ci : Nat) : u_T := match ci with
  | 0 => TX0
  | 1 => TX1
  | 2 => TX2
  | 3 => TX3
  | 4 => TX4
  | 5 => TX6
  | _ => TX7
def zz_Nn (ci : Nat) : Nat := ([3, 1, 12, 6, 2, 7, 28] : List Nat).getD ci 0
def zz_Rn (ci : Nat) : String := match ci with
  | 0 => RX0
  | 1 => RX1
  | 2 => RX2
  | 3 => RX3
  | 4 => RX4
  | 5 => RX6
  | _ => RX7
def zz_tn (ci : Nat) : Nat → FieldType := match ci with
  | 0 => tyX0
  | 1 => tyX1
  | 2 => tyX2
  | 3 => tyX3
  | 4 => tyX4
  | 5 => tyX6
  | _ => tyX7
theorem zz_cl_at {ci : Nat} (h : ci < 7) : zz_cl[ci]? = some (zz_Rn ci, zz_Tn ci, zz_Nn ci) := by
  match ci, h with
  | 0, _ => rfl
  | 1, _ => rfl
  | 2, _ => rfl
  | 3, _ => rfl
  | 4, _ => rfl
  | 5, _ => rfl
  | 6, _ => rfl
theorem zz_cl_lt {ci : Nat} {q : vw_C} (h : zz_cl[ci]? = some q) : ci < 7 := (List.getElem?_eq_some_iff.mp h).1
theorem zz_tn_ok {ci : Nat} (h : ci < 7) : ∀ k, k < zz_Nn ci → parseFieldDescriptor (zz_Tn ci k).2.2.1 = some (zz_tn ci k) := by
  match ci, h with
  | 0, _ => exact tyX0_ok
  | 1, _ => exact tyX1_ok
  | 2, _ => exact tyX2_ok
  | 3, _ => exact tyX3_ok
  | 4, _ => exact tyX4_ok
  | 5, _ => exact tyX6_ok
  | 6, _ => exact tyX7_ok
theorem zz_nm_ok {ci : Nat} (h : ci < 7) : ∀ a, a < zz_Nn ci → ∀ b, b < zz_Nn ci → a ≠ b → (zz_Tn ci a).2.1 ≠ (zz_Tn ci b).2.1 := by
  match ci, h with
  | 0, _ => exact nmX0
  | 1, _ => exact nmX1
  | 2, _ => exact nmX2
  | 3, _ => exact nmX3
  | 4, _ => exact nmX4
  | 5, _ => exact nmX6
  | 6, _ => exact nmX7
theorem zz_lay_ok : (List.range 7).all (fun ci => (u_ws (zz_Rn ci) (zz_Tn ci) (zz_Nn ci)).all (fun w => decide (w ∈ zz_WG))) = true := by decide +kernel
theorem zz_lays {ci : Nat} (h : ci < 7) : ∀ w ∈ u_ws (zz_Rn ci) (zz_Tn ci) (zz_Nn ci), w ∈ zz_WG := by
  have h1 := List.all_eq_true.mp zz_lay_ok ci (List.mem_range.mpr h)
  intro w hw
  exact of_decide_eq_true (List.all_eq_true.mp h1 w hw)
theorem zz_fl_all : (List.range 9).all (fun oc => (zz_flt.getD oc []).all (fun q => decide (q.2.1 < 7) && decide (q.2.2 < zz_Nn q.2.1) && decide (Cond.fieldLink (zz_cn oc) q.1 (zz_Tn q.2.1 q.2.2).1 (zz_Tn q.2.1 q.2.2).2.1 (zz_Tn q.2.1 q.2.2).2.2.1 ∈ zz_WG))) = true := by decide +kernel
theorem zz_lookup_mem {α : Type} {k : Nat} {v : α} : ∀ {l : List (Nat × α)}, l.lookup k = some v → (k, v) ∈ l
  | [], h => by cases h
  | (a, w) :: r, h => by
    rw [List.lookup_cons] at h
    split at h
    · next e => cases h; rw [eq_of_beq e]; exact List.mem_cons_self
    · exact List.mem_cons_of_mem _ (zz_lookup_mem h)
theorem zz_fl_ok {oc idx ci j : Nat} (h : zz_fl oc idx = some (ci, j)) : ci < 7 ∧ j < zz_Nn ci ∧ Cond.fieldLink (zz_cn oc) idx (zz_Tn ci j).1 (zz_Tn ci j).2.1 (zz_Tn ci j).2.2.1 ∈ zz_WG := by
  have hm := zz_lookup_mem h
  by_cases ho : oc < 9
  · have h1 := List.all_eq_true.mp (List.all_eq_true.mp zz_fl_all oc (List.mem_range.mpr ho)) (idx, ci, j) hm
    simp only [Bool.and_eq_true, decide_eq_true_eq] at h1
    exact ⟨h1.1.1, h1.1.2, h1.2⟩
  · have : zz_flt.getD oc [] = [] := by
      rw [List.getD_eq_getElem?_getD, List.getElem?_eq_none (by show 9 ≤ oc; omega)]; rfl
    rw [this] at hm
    cases hm
def mJ6_bitCount_0f7a4 : zz_MD := (yJ6_bitCount_0f7a4, cJ6_bitCount_0f7a4, 1, (some .int), 9)
def mJ9_abs_0f7a4 : zz_MD := (yJ9_abs_0f7a4, cJ9_abs_0f7a4, 1, (some .int), 10)
def mJ9_max_7cf53 : zz_MD := (yJ9_max_7cf53, cJ9_max_7cf53, 2, (some .int), 10)
def mJ9_min_7cf53 : zz_MD := (yJ9_min_7cf53, cJ9_min_7cf53, 2, (some .int), 10)
def mX0_costWith : zz_MD := (yX0_costWith, cX0_costWith, 7, (some .int), 0)
def mX0_firstOfLeast : zz_MD := (yX0_firstOfLeast, cX0_firstOfLeast, 6, (some .int), 0)
def mX0_fits : zz_MD := (yX0_fits, cX0_fits, 5, (some .boolean), 0)
def mX0_init : zz_MD := (yX0_init, cX0_init, 1, none, 0)
def mX0_lay : zz_MD := (yX0_lay, cX0_lay, 5, none, 0)
def mX0_layFrom : zz_MD := (yX0_layFrom, cX0_layFrom, 13, none, 0)
def mX0_readSteps : zz_MD := (yX0_readSteps, cX0_readSteps, 7, none, 0)
def mX0_together : zz_MD := (yX0_together, cX0_together, 5, (some .int), 0)
def mX1_costOfChange : zz_MD := (yX1_costOfChange, cX1_costOfChange, 2, (some .int), 1)
def mX1_farOf : zz_MD := (yX1_farOf, cX1_farOf, 10, (some .int), 1)
def mX1_init : zz_MD := (yX1_init, cX1_init, 1, none, 1)
def mX1_likeButForNumbers : zz_MD := (yX1_likeButForNumbers, cX1_likeButForNumbers, 3, (some .boolean), 1)
def mX1_likeOf : zz_MD := (yX1_likeOf, cX1_likeOf, 4, (some .int), 1)
def mX1_matchOf : zz_MD := (yX1_matchOf, cX1_matchOf, 6, (some .int), 1)
def mX1_meetPair : zz_MD := (yX1_meetPair, cX1_meetPair, 4, none, 1)
def mX1_meetSentence : zz_MD := (yX1_meetSentence, cX1_meetSentence, 5, none, 1)
def mX2_bestFor : zz_MD := (yX2_bestFor, cX2_bestFor, 5, (some .int), 2)
def mX2_init : zz_MD := (yX2_init, cX2_init, 2, none, 2)
def mX2_isPair : zz_MD := (yX2_isPair, cX2_isPair, 2, (some .boolean), 2)
def mX2_isSentence : zz_MD := (yX2_isSentence, cX2_isSentence, 2, (some .boolean), 2)
def mX2_standsAsBefore : zz_MD := (yX2_standsAsBefore, cX2_standsAsBefore, 4, (some .boolean), 2)
def mX2_take : zz_MD := (yX2_take, cX2_take, 3, none, 2)
def mX2_takePairs : zz_MD := (yX2_takePairs, cX2_takePairs, 3, none, 2)
def mX2_takeText : zz_MD := (yX2_takeText, cX2_takeText, 4, none, 2)
def mX3_bandFound : zz_MD := (yX3_bandFound, cX3_bandFound, 3, (some .int), 3)
def mX3_bandOf : zz_MD := (yX3_bandOf, cX3_bandOf, 1, (some .int), 3)
def mX3_chooseNext : zz_MD := (yX3_chooseNext, cX3_chooseNext, 6, none, 3)
def mX3_fewestPairs : zz_MD := (yX3_fewestPairs, cX3_fewestPairs, 6, (some .int), 3)
def mX3_init : zz_MD := (yX3_init, cX3_init, 1, none, 3)
def mX3_isEnough : zz_MD := (yX3_isEnough, cX3_isEnough, 4, (some .boolean), 3)
def mX3_least : zz_MD := (yX3_least, cX3_least, 1, (some .int), 3)
def mX3_ofSentence : zz_MD := (yX3_ofSentence, cX3_ofSentence, 3, (some .int), 3)
def mX3_ofText : zz_MD := (yX3_ofText, cX3_ofText, 3, (some .int), 3)
def mX3_priceWith : zz_MD := (yX3_priceWith, cX3_priceWith, 6, (some .int), 3)
def mX3_putInOrder : zz_MD := (yX3_putInOrder, cX3_putInOrder, 6, none, 3)
def mX3_readHelpers : zz_MD := (yX3_readHelpers, cX3_readHelpers, 4, none, 3)
def mX3_readNeeded : zz_MD := (yX3_readNeeded, cX3_readNeeded, 5, none, 3)
def mX3_readRatesByMemory : zz_MD := (yX3_readRatesByMemory, cX3_readRatesByMemory, 6, none, 3)
def mX4_add : zz_MD := (yX4_add, cX4_add, 2, (some .boolean), 4)
def mX4_at : zz_MD := (yX4_at, cX4_at, 2, (some .int), 4)
def mX4_init : zz_MD := (yX4_init, cX4_init, 2, none, 4)
def mX4_placeOf : zz_MD := (yX4_placeOf, cX4_placeOf, 3, (some .int), 4)
def mX4_put : zz_MD := (yX4_put, cX4_put, 3, none, 4)
def mX4_sameAs : zz_MD := (yX4_sameAs, cX4_sameAs, 3, (some .boolean), 4)
def mX4_take : zz_MD := (yX4_take, cX4_take, 2, none, 4)
def mX4_takePart : zz_MD := (yX4_takePart, cX4_takePart, 5, none, 4)
def mX4_timesOf : zz_MD := (yX4_timesOf, cX4_timesOf, 4, (some .int), 4)
def mX5_change : zz_MD := (yX5_change, cX5_change, 7, (some .int), 5)
def mX5_changeIn : zz_MD := (yX5_changeIn, cX5_changeIn, 5, (some .int), 5)
def mX5_goesMost : zz_MD := (yX5_goesMost, cX5_goesMost, 8, (some .int), 5)
def mX5_inFirst : zz_MD := (yX5_inFirst, cX5_inFirst, 3, (some .boolean), 5)
def mX5_inSecond : zz_MD := (yX5_inSecond, cX5_inSecond, 3, (some .boolean), 5)
def mX5_isWrong : zz_MD := (yX5_isWrong, cX5_isWrong, 6, (some .boolean), 5)
def mX5_lowered : zz_MD := (yX5_lowered, cX5_lowered, 3, (some .int), 5)
def mX5_pairsWithBoth : zz_MD := (yX5_pairsWithBoth, cX5_pairsWithBoth, 5, (some .int), 5)
def mX5_pairsWithEither : zz_MD := (yX5_pairsWithEither, cX5_pairsWithEither, 5, (some .int), 5)
def mX6_clash : zz_MD := (yX6_clash, cX6_clash, 3, (some .int), 6)
def mX6_endOfTongue : zz_MD := (yX6_endOfTongue, cX6_endOfTongue, 4, (some .int), 6)
def mX6_far : zz_MD := (yX6_far, cX6_far, 3, (some .int), 6)
def mX6_fault : zz_MD := (yX6_fault, cX6_fault, 2, (some .int), 6)
def mX6_faultAsPair : zz_MD := (yX6_faultAsPair, cX6_faultAsPair, 3, (some .int), 6)
def mX6_faultAsSentence : zz_MD := (yX6_faultAsSentence, cX6_faultAsSentence, 2, (some .int), 6)
def mX6_filled : zz_MD := (yX6_filled, cX6_filled, 4, (some .int), 6)
def mX6_found : zz_MD := (yX6_found, cX6_found, 4, (some .int), 6)
def mX6_goes : zz_MD := (yX6_goes, cX6_goes, 6, (some .long), 6)
def mX6_image : zz_MD := (yX6_image, cX6_image, 2, (some .int), 6)
def mX6_init : zz_MD := (yX6_init, cX6_init, 2, none, 6)
def mX6_isNumber : zz_MD := (yX6_isNumber, cX6_isNumber, 1, (some .boolean), 6)
def mX6_isWord : zz_MD := (yX6_isWord, cX6_isWord, 1, (some .boolean), 6)
def mX6_keep : zz_MD := (yX6_keep, cX6_keep, 4, (some .int), 6)
def mX6_kept : zz_MD := (yX6_kept, cX6_kept, 1, (some .int), 6)
def mX6_laid : zz_MD := (yX6_laid, cX6_laid, 2, (some .long), 6)
def mX6_learnt : zz_MD := (yX6_learnt, cX6_learnt, 2, (some .int), 6)
def mX6_length : zz_MD := (yX6_length, cX6_length, 4, (some .int), 6)
def mX6_lengths : zz_MD := (yX6_lengths, cX6_lengths, 2, (some .int), 6)
def mX6_match : zz_MD := (yX6_match, cX6_match, 3, (some .int), 6)
def mX6_must : zz_MD := (yX6_must, cX6_must, 4, (some .int), 6)
def mX6_order : zz_MD := (yX6_order, cX6_order, 2, (some .int), 6)
def mX6_otherwise : zz_MD := (yX6_otherwise, cX6_otherwise, 4, (some .int), 6)
def mX6_pair : zz_MD := (yX6_pair, cX6_pair, 4, (some .int), 6)
def mX6_price : zz_MD := (yX6_price, cX6_price, 2, (some .int), 6)
def mX6_rate : zz_MD := (yX6_rate, cX6_rate, 4, (some .int), 6)
def mX6_restore : zz_MD := (yX6_restore, cX6_restore, 2, (some .int), 6)
def mX6_say : zz_MD := (yX6_say, cX6_say, 2, (some .int), 6)
def mX6_signFilled : zz_MD := (yX6_signFilled, cX6_signFilled, 4, (some .int), 6)
def mX6_standsIn : zz_MD := (yX6_standsIn, cX6_standsIn, 2, (some .boolean), 6)
def mX6_told : zz_MD := (yX6_told, cX6_told, 2, (some .int), 6)
def mX6_toldOfSettings : zz_MD := (yX6_toldOfSettings, cX6_toldOfSettings, 2, (some .int), 6)
def mX6_wipe : zz_MD := (yX6_wipe, cX6_wipe, 2, (some .int), 6)
def mX6_write : zz_MD := (yX6_write, cX6_write, 2, (some .int), 6)
def mX6_wrongs : zz_MD := (yX6_wrongs, cX6_wrongs, 3, (some .int), 6)
def mX7_areAlike : zz_MD := (yX7_areAlike, cX7_areAlike, 7, (some .boolean), 7)
def mX7_band : zz_MD := (yX7_band, cX7_band, 1, (some .int), 7)
def mX7_besides : zz_MD := (yX7_besides, cX7_besides, 1, (some .int), 7)
def mX7_bits : zz_MD := (yX7_bits, cX7_bits, 3, (some .int), 7)
def mX7_changes : zz_MD := (yX7_changes, cX7_changes, 2, (some .int), 7)
def mX7_clash : zz_MD := (yX7_clash, cX7_clash, 4, (some .int), 7)
def mX7_costs : zz_MD := (yX7_costs, cX7_costs, 6, (some .int), 7)
def mX7_doesFill : zz_MD := (yX7_doesFill, cX7_doesFill, 5, (some .boolean), 7)
def mX7_far : zz_MD := (yX7_far, cX7_far, 3, (some .int), 7)
def mX7_farOf : zz_MD := (yX7_farOf, cX7_farOf, 12, (some .int), 7)
def mX7_fault : zz_MD := (yX7_fault, cX7_fault, 2, (some .int), 7)
def mX7_faultOf : zz_MD := (yX7_faultOf, cX7_faultOf, 6, (some .int), 7)
def mX7_filled : zz_MD := (yX7_filled, cX7_filled, 6, (some .int), 7)
def mX7_found : zz_MD := (yX7_found, cX7_found, 4, (some .int), 7)
def mX7_foundOf : zz_MD := (yX7_foundOf, cX7_foundOf, 5, (some .int), 7)
def mX7_goes : zz_MD := (yX7_goes, cX7_goes, 7, (some .long), 7)
def mX7_image : zz_MD := (yX7_image, cX7_image, 4, (some .int), 7)
def mX7_in : zz_MD := (yX7_in, cX7_in, 3, (some .boolean), 7)
def mX7_inFirst : zz_MD := (yX7_inFirst, cX7_inFirst, 5, (some .int), 7)
def mX7_inSecond : zz_MD := (yX7_inSecond, cX7_inSecond, 5, (some .int), 7)
def mX7_init : zz_MD := (yX7_init, cX7_init, 2, none, 7)
def mX7_isNumber : zz_MD := (yX7_isNumber, cX7_isNumber, 1, (some .boolean), 7)
def mX7_isPair : zz_MD := (yX7_isPair, cX7_isPair, 2, (some .boolean), 7)
def mX7_isSentence : zz_MD := (yX7_isSentence, cX7_isSentence, 2, (some .boolean), 7)
def mX7_isWord : zz_MD := (yX7_isWord, cX7_isWord, 1, (some .boolean), 7)
def mX7_isWrong : zz_MD := (yX7_isWrong, cX7_isWrong, 7, (some .boolean), 7)
def mX7_keep : zz_MD := (yX7_keep, cX7_keep, 3, (some .int), 7)
def mX7_kept : zz_MD := (yX7_kept, cX7_kept, 5, (some .int), 7)
def mX7_laid : zz_MD := (yX7_laid, cX7_laid, 7, (some .long), 7)
def mX7_layBeside : zz_MD := (yX7_layBeside, cX7_layBeside, 4, none, 7)
def mX7_layCosts : zz_MD := (yX7_layCosts, cX7_layCosts, 8, none, 7)
def mX7_layGoes : zz_MD := (yX7_layGoes, cX7_layGoes, 6, none, 7)
def mX7_layNeeds : zz_MD := (yX7_layNeeds, cX7_layNeeds, 5, none, 7)
def mX7_layOrders : zz_MD := (yX7_layOrders, cX7_layOrders, 5, none, 7)
def mX7_learnt : zz_MD := (yX7_learnt, cX7_learnt, 6, (some .int), 7)
def mX7_length : zz_MD := (yX7_length, cX7_length, 3, (some .int), 7)
def mX7_lengths : zz_MD := (yX7_lengths, cX7_lengths, 2, (some .int), 7)
def mX7_like : zz_MD := (yX7_like, cX7_like, 3, (some .int), 7)
def mX7_likeOf : zz_MD := (yX7_likeOf, cX7_likeOf, 3, (some .int), 7)
def mX7_likePair : zz_MD := (yX7_likePair, cX7_likePair, 3, (some .int), 7)
def mX7_match : zz_MD := (yX7_match, cX7_match, 3, (some .int), 7)
def mX7_matchOf : zz_MD := (yX7_matchOf, cX7_matchOf, 5, (some .int), 7)
def mX7_must : zz_MD := (yX7_must, cX7_must, 4, (some .int), 7)
def mX7_ofOne : zz_MD := (yX7_ofOne, cX7_ofOne, 1, (some .int), 7)
def mX7_ofOther : zz_MD := (yX7_ofOther, cX7_ofOther, 1, (some .int), 7)
def mX7_order : zz_MD := (yX7_order, cX7_order, 7, (some .int), 7)
def mX7_otherwise : zz_MD := (yX7_otherwise, cX7_otherwise, 7, (some .int), 7)
def mX7_pair : zz_MD := (yX7_pair, cX7_pair, 3, (some .int), 7)
def mX7_price : zz_MD := (yX7_price, cX7_price, 4, (some .int), 7)
def mX7_priceOf : zz_MD := (yX7_priceOf, cX7_priceOf, 3, (some .int), 7)
def mX7_rate : zz_MD := (yX7_rate, cX7_rate, 4, (some .int), 7)
def mX7_restore : zz_MD := (yX7_restore, cX7_restore, 4, (some .int), 7)
def mX7_say : zz_MD := (yX7_say, cX7_say, 2, (some .int), 7)
def mX7_stepCosts : zz_MD := (yX7_stepCosts, cX7_stepCosts, 6, (some .int), 7)
def mX7_told : zz_MD := (yX7_told, cX7_told, 2, (some .int), 7)
def mX7_wipe : zz_MD := (yX7_wipe, cX7_wipe, 2, (some .int), 7)
def mX7_write : zz_MD := (yX7_write, cX7_write, 2, (some .int), 7)
def mX7_wrongs : zz_MD := (yX7_wrongs, cX7_wrongs, 3, (some .int), 7)
end
section
/-! ===== the store's changes ===== -/
def zz_up (I : Nat → Nat → Int32) (k j : Nat) (v : Int32) : Nat → Nat → Int32 := fun a => if a = k then upd (I k) j v else I a
def zz_upL (J : Nat → Nat → Int64) (k j : Nat) (v : Int64) : Nat → Nat → Int64 := fun a => if a = k then vp_updL (J k) j v else J a
theorem zz_up_eq (I : Nat → Nat → Int32) (k j : Nat) (v : Int32) : zz_up I k j v k = upd (I k) j v := if_pos rfl
theorem zz_up_ne {I : Nat → Nat → Int32} {k j a : Nat} {v : Int32} (h : a ≠ k) : zz_up I k j v a = I a := if_neg h
theorem zz_upL_eq (J : Nat → Nat → Int64) (k j : Nat) (v : Int64) : zz_upL J k j v k = vp_updL (J k) j v := if_pos rfl
theorem zz_upL_ne {J : Nat → Nat → Int64} {k j a : Nat} {v : Int64} (h : a ≠ k) : zz_upL J k j v a = J a := if_neg h
theorem zz_ws_up {cA : Nat → ClassId} {b : Nat} {ex : Nat → Nat} {σ : zz_St} {k j : Nat} {v : Int32} {x : zz_SK} (hk : σ.1[k]? = some x) : zz_ws cA b ex (σ.1, zz_up σ.2.1 k j v, σ.2.2) = (zz_ws cA b ex σ).set k (b + k, zz_e cA b ex (upd (σ.2.1 k) j v) (σ.2.2 k) x) := by
  apply List.ext_getElem?
  intro a
  have hl : k < (zz_ws cA b ex σ).length := (List.getElem?_eq_some_iff.mp (zz_ws_get hk)).1
  rw [zz_ws_at]
  by_cases h : a = k
  · subst h
    rw [List.getElem?_set_self hl, hk]
    simp only [Option.map_some, zz_up_eq]
  · rw [List.getElem?_set_ne (Ne.symm h), zz_ws_at]
    simp only [zz_up_ne h]
theorem zz_ws_upL {cA : Nat → ClassId} {b : Nat} {ex : Nat → Nat} {σ : zz_St} {k j : Nat} {v : Int64} {x : zz_SK} (hk : σ.1[k]? = some x) : zz_ws cA b ex (σ.1, σ.2.1, zz_upL σ.2.2 k j v) = (zz_ws cA b ex σ).set k (b + k, zz_e cA b ex (σ.2.1 k) (vp_updL (σ.2.2 k) j v) x) := by
  apply List.ext_getElem?
  intro a
  have hl : k < (zz_ws cA b ex σ).length := (List.getElem?_eq_some_iff.mp (zz_ws_get hk)).1
  rw [zz_ws_at]
  by_cases h : a = k
  · subst h
    rw [List.getElem?_set_self hl, hk]
    simp only [Option.map_some, zz_upL_eq]
  · rw [List.getElem?_set_ne (Ne.symm h), zz_ws_at]
    simp only [zz_upL_ne h]
theorem zz_fv_set {b : Nat} {ex : Nat → Nat} {g : Nat → Int32} {j : Nat} {v : Int32} {fs : List (Option (Option Nat))} (hj : fs[j]? = some none) : fs.mapIdx (fun i y => zz_fv b ex (upd g j v) i y) = (fs.mapIdx (fun i y => zz_fv b ex g i y)).set j (.int v) := by
  apply List.ext_getElem?
  intro a
  have hl : j < (fs.mapIdx (fun i y => zz_fv b ex g i y)).length := by
    rw [List.length_mapIdx]; exact (List.getElem?_eq_some_iff.mp hj).1
  rw [List.getElem?_mapIdx]
  by_cases h : a = j
  · subst h
    rw [List.getElem?_set_self hl, hj]
    simp [zz_fv, upd]
  · rw [List.getElem?_set_ne (Ne.symm h), List.getElem?_mapIdx]
    cases fs[a]? with
    | none => rfl
    | some y => cases y with
      | none => simp [zz_fv, upd, h]
      | some z => cases z <;> simp [zz_fv]
def zz_val (I : Nat → Nat → Int32) (k j : Nat) (x : Option (Option Nat)) : Option Value := match x with
  | none => some (.int (I k j))
  | some (some q) => some (.ref q)
  | some none => none
section ZZP
variable {p : Program} {l : Launch} {e : Env} {R : Room} {s : State} {m : MethodId} {args : Array Value} {below : List Frame} {meth : Method} {c : Code} {H : Heap} {locs : List Loc} {cells slots : Nat} {Qt : State → Prop}
variable {cc : ByteArray} {pc : Nat} {ls : Array Slot} {rest : List Value} {D : va_G} {cl : List vw_C} {A : Nat → Prop} {a : Nat} {tys : List (ClassId × FieldType)} {ws : va_W} {H0 : Heap}
/-- a field that is not final is written: the heap keeps its size -/
theorem zz_put (hexec : p.tables.exec = Jvm.exec) (hb : c.code = cc) {own C : String} {T : u_T} {N ci index : Nat} {Ts : List Cond} (hts : ∀ w ∈ Ts, w.before args s = true) (hin : ∀ w ∈ u_ws C T N, w ∈ Ts) (ty0 : Nat → FieldType) (hty : ∀ k, k < N → parseFieldDescriptor (T k).2.2.1 = some (ty0 k)) (hnm : ∀ a, a < N → ∀ b, b < N → a ≠ b → (T a).2.1 ≠ (T b).2.1) (hown : s.vm.findClass own = some m.cls) (hK : va_K D cl tys s) (hP : va_P D cl ws H) (hD : va_D A ws) (hS0 : va_S A H0 H locs) (q0 : Nat) {fs : List Value} (he : ws[q0]? = some (a, .inr (ci, fs))) (hc : cl[ci]? = some (C, T, N)) (k : Nat) (hk : k < N) (hlink : (Cond.fieldLink own index (T k).1 (T k).2.1 (T k).2.2.1).before args s = true) (hfin : (T k).2.2.2 = false) {ty : FieldType} {v : Value} (hd : parseFieldDescriptor (T k).2.2.1 = some ty) (hn : narrow ty v = v) (hfit : fits ty v = true) (hl : k < fs.length)
    (hdg : decode cc pc = .ok (.putfield index, 3)) (kk : ∀ (H1 : Heap) (locs1 : List Loc), H1.size = H.size → va_P D cl (ws.set q0 (a, .inr (ci, fs.set k v))) H1 → va_S A H0 H1 locs1 → W p l e R s m args below meth c H1 locs1 cells slots Qt (F0 m (pc + 3) ls rest)) : W p l e R s m args below meth c H locs cells slots Qt (F0 m pc ls (v :: .ref a :: rest)) := by
  have hap := va_apart (own := own) hts hin ty0 hty hnm hK hc
  obtain ⟨r, h1, cell, q1, q2, q3, q4⟩ := hP q0 _ he
  have hr : r = (C, T, N) := Option.some.inj (h1.symm.trans hc)
  subst hr
  obtain ⟨hSl, hfc, kC, hkC, hkind⟩ := hK.1 ci _ hc
  obtain ⟨cf, kf, fi, f, hi, hsl⟩ := hSl k hk
  have hlay := hts _ (hin _ (u_in_lay hk))
  unfold u_lay at hlay
  rw [if_neg (by rw [hfin]; decide)] at hlay
  have hst := (u_facts hfc hkC (u_lays hts hin hk) hi).1
  have h6 := u_store hfc hkC hkind hlay hi hd hn hfit
  refine W.putK hexec hb (f := f) ⟨hown, hlink, ⟨_, _, _, hi⟩, hst⟩ (by rw [q2]; exact h6) q1 q3 (by rw [hsl]; exact k2_hasslot (q4 k hk)) rfl rfl hdg fun H' e1 e2 e3 => ?_
  rw [hsl] at e1 ⊢
  exact kk H' _ e2 (hP.set hD he ⟨_, hc, t_OB.to (V := updV (vp_V fs) k v) ⟨_, e1, q2, q3, t_set q4 hap hk v⟩ (fun j _ => vp_updV_set hl v j)⟩ e3) (hS0.put e2 e3 (hD.2 q0 _ he))
theorem zz_iast (hexec : p.tables.exec = Jvm.exec) (hb : c.code = cc) (hK : va_K D cl tys s) (hP : va_P D cl ws H) (hD : va_D A ws) (hS : va_S A H0 H locs) (q0 t0 : Nat) {cA : ClassId} {n : Nat} {f : Nat → Int32} (ha : ws[q0]? = some (a, .inl (cA, n, .inl f))) (ht : tys[t0]? = some (cA, .int)) {i : Int32} {x : Int32} (hin : vp_in i n) (hdg : decode cc pc = .ok (.iastore, 1))
    (kk : ∀ (H1 : Heap) (locs1 : List Loc), H1.size = H.size → va_P D cl (ws.set q0 (a, .inl (cA, n, .inl (upd f i.toNatClampNeg x)))) H1 → va_S A H0 H1 locs1 → W p l e R s m args below meth c H1 locs1 cells slots Qt (F0 m (pc + 1) ls rest)) : W p l e R s m args below meth c H locs cells slots Qt (F0 m pc ls (.int x :: .int i :: .ref a :: rest)) := by
  refine W.iast hexec hb (hP q0 _ ha) ((hK.2 t0 _ ht).1 n (fun j => .int (f j))) (fun q => by cases q) (by show ¬ (i < 0 ∨ (arrV _ _ _).slots.size ≤ _); rw [arrV_size]; exact hin) rfl rfl hdg fun H1 e z oq => ?_
  refine kk H1 _ z (hP.set hD ha ?_ oq) (hS.put z oq (hD.2 q0 _ ha))
  show H1[a]? = some (vp_cell _ _)
  rw [e, vp_cell_i, vp_cell_i, arrV_store]
  congr 2
  funext q
  by_cases hq : q = i.toNatClampNeg
  · subst hq
    simp [updV, upd]
  · simp [updV, upd, hq]
theorem zz_zast (hexec : p.tables.exec = Jvm.exec) (hb : c.code = cc) (hK : va_K D cl tys s) (hP : va_P D cl ws H) (hD : va_D A ws) (hS : va_S A H0 H locs) (q0 t0 : Nat) {cA : ClassId} {n : Nat} {f : Nat → Int32} (ha : ws[q0]? = some (a, .inl (cA, n, .inl f))) (ht : tys[t0]? = some (cA, .boolean)) {i : Int32} {x : Int32} (hin : vp_in i n) (hdg : decode cc pc = .ok (.bastore, 1))
    (kk : ∀ (H1 : Heap) (locs1 : List Loc), H1.size = H.size → va_P D cl (ws.set q0 (a, .inl (cA, n, .inl (upd f i.toNatClampNeg (vp_nar .boolean x))))) H1 → va_S A H0 H1 locs1 → W p l e R s m args below meth c H1 locs1 cells slots Qt (F0 m (pc + 1) ls rest)) : W p l e R s m args below meth c H locs cells slots Qt (F0 m pc ls (.int x :: .int i :: .ref a :: rest)) := by
  refine W.zast hexec hb (hP q0 _ ha) ((hK.2 t0 _ ht).1 n (fun j => .int (f j))) (fun q => by cases q) (by show ¬ (i < 0 ∨ (arrV _ _ _).slots.size ≤ _); rw [arrV_size]; exact hin) rfl rfl hdg fun H1 e z oq => ?_
  refine kk H1 _ z (hP.set hD ha ?_ oq) (hS.put z oq (hD.2 q0 _ ha))
  show H1[a]? = some (vp_cell _ _)
  rw [e, vp_cell_i, vp_cell_i, arrV_store]
  congr 2
  funext q
  by_cases hq : q = i.toNatClampNeg
  · subst hq
    simp [updV, upd, vp_nar]
    try rfl
  · simp [updV, upd, hq]
theorem zz_last (hexec : p.tables.exec = Jvm.exec) (hb : c.code = cc) (hK : va_K D cl tys s) (hP : va_P D cl ws H) (hD : va_D A ws) (hS : va_S A H0 H locs) (q0 t0 : Nat) {cA : ClassId} {n : Nat} {f : Nat → Int64} (ha : ws[q0]? = some (a, .inl (cA, n, .inr (.inl f)))) (ht : tys[t0]? = some (cA, .long)) {i : Int32} {x : Int64} (hin : vp_in i n) (hdg : decode cc pc = .ok (.lastore, 1))
    (kk : ∀ (H1 : Heap) (locs1 : List Loc), H1.size = H.size → va_P D cl (ws.set q0 (a, .inl (cA, n, .inr (.inl (vp_updL f i.toNatClampNeg x))))) H1 → va_S A H0 H1 locs1 → W p l e R s m args below meth c H1 locs1 cells slots Qt (F0 m (pc + 1) ls rest)) : W p l e R s m args below meth c H locs cells slots Qt (F0 m pc ls (.long x :: .int i :: .ref a :: rest)) := by
  refine W.last hexec hb (hP q0 _ ha) ((hK.2 t0 _ ht).1 n (fun j => .long (f j))) (fun q => by cases q) (by show ¬ (i < 0 ∨ (arrV _ _ _).slots.size ≤ _); rw [arrV_size]; exact hin) rfl rfl hdg fun H1 e z oq => ?_
  refine kk H1 _ z (hP.set hD ha ?_ oq) (hS.put z oq (hD.2 q0 _ ha))
  show H1[a]? = some (vp_cell _ _)
  rw [e, vp_cell_l, vp_cell_l, arrV_store]
  congr 2
  funext q
  by_cases hq : q = i.toNatClampNeg
  · subst hq
    simp [updV, vp_updL]
  · simp [updV, vp_updL, hq]
theorem zz_aald (hexec : p.tables.exec = Jvm.exec) (hb : c.code = cc) (hK : va_K D cl tys s) (hP : va_P D cl ws H) (q0 t0 : Nat) {cA : ClassId} {ty : FieldType} {n : Nat} {f : Nat → Option Nat} (ha : ws[q0]? = some (a, .inl (cA, n, .inr (.inr (.inr (.inr f)))))) (ht : tys[t0]? = some (cA, ty)) (hty : ty.isReference = true) {i : Int32} (hin : vp_in i n) (hdg : decode cc pc = .ok (.aaload, 1))
    (kk : W p l e R s m args below meth c H locs cells slots Qt (F0 m (pc + 1) ls (va_rf (f i.toNatClampNeg) :: rest))) : W p l e R s m args below meth c H locs cells slots Qt (F0 m pc ls (.int i :: .ref a :: rest)) := by
  have hlt : i.toNatClampNeg < n := Nat.not_le.mp fun q => hin (Or.inr q)
  exact W.aald (v := va_rf (f i.toNatClampNeg)) (ty := ty) hexec hb (hP q0 _ ha) ((hK.2 t0 _ ht).1 n (fun j => va_rf (f j))) hty (fun q => by cases q) (by show ¬ (i < 0 ∨ (arrV _ _ _).slots.size ≤ _); rw [arrV_size]; exact hin) (by show (arrV _ _ _).slots[_]? = _; rw [arrV_read _ _ hlt]) rfl rfl hdg kk
end ZZP
section ZZH
variable {sc : Nat × (Nat → Int32)} {d mc ms : Nat} {M : zz_MD} {pc : Nat} {L : List (Option Value)} {S : List Value} {σ : zz_St} {Q : Option Value → zz_St → Prop}
theorem Ev.getf {k ci j idx : Nat} {fs : List (Option (Option Nat))} {x : Option (Option Nat)} {v : Value} (hoc : M.1.cls = zz_cn M.2.2.2.2) (hlk : zz_fl M.2.2.2.2 idx = some (ci, j)) (hd : decode M.2.1 pc = .ok (.getfield idx, 3)) (hk : σ.1[k]? = some (.inl (ci, fs))) (hf : fs[j]? = some x) (hv : zz_val σ.2.1 k j x = some v)
    (kk : Ev sc d mc ms M (pc + 3) L (v :: S) σ Q) : Ev sc d mc ms M pc L (.ref k :: S) σ Q := by
  intro p l e R s m args below meth c D cA b ex H locs cells slots Qt ls hC hR hL hf1 hlo hce hsl hret
  have K := kk p l e R s m args below meth c D cA b ex H locs cells slots Qt ls hC hR hL hf1 hlo hce hsl hret
  obtain ⟨hx, hb, hml, hown, hts, hK, hX, hbl, hnm⟩ := hC
  obtain ⟨h1, h2, h3⟩ := zz_fl_ok hlk
  have hk9 : k < σ.1.length := (List.getElem?_eq_some_iff.mp hk).1
  have hadr : zz_ad b ex k = b + k := if_pos (Nat.lt_trans hk9 hR.2.1)
  show W p l e R s m args below meth c H locs cells slots Qt (F0 m pc ls (.ref (zz_ad b ex k) :: S.map (zz_tr b ex)))
  rw [hadr]
  refine va_get (D := D) (ci := ci) (v := zz_tr b ex v) (own := M.1.cls) (C := zz_Rn ci) (T := zz_Tn ci) (N := zz_Nn ci) hx hb hts (zz_lays h1) hown hK.1 hR.2.2.1 k (zz_ws_get hk) (zz_cl_at h1) j h2 (hts _ (by rw [hoc]; exact h3)) (fun _ h9 => h9) ?_ hd K
  rw [List.getElem?_mapIdx, hf]
  cases x with
  | none => cases hv; rfl
  | some z => cases z with
    | none => cases hv
    | some q => cases hv; rfl
theorem Ev.putf {k ci j idx : Nat} {fs : List (Option (Option Nat))} {v : Int32} (hoc : M.1.cls = zz_cn M.2.2.2.2) (hlk : zz_fl M.2.2.2.2 idx = some (ci, j)) (hI : (zz_Tn ci j).2.2 = ("I", false)) (hd : decode M.2.1 pc = .ok (.putfield idx, 3)) (hk : σ.1[k]? = some (.inl (ci, fs))) (hf : fs[j]? = some none)
    (kk : Ev sc d mc ms M (pc + 3) L S (σ.1, zz_up σ.2.1 k j v, σ.2.2) Q) : Ev sc d mc ms M pc L (.int v :: .ref k :: S) σ Q := by
  intro p l e R s m args below meth c D cA b ex H locs cells slots Qt ls hC hR hL hf1 hlo hce hsl hret
  have K := fun H1 locs1 hR1 => kk p l e R s m args below meth c D cA b ex H1 locs1 cells slots Qt ls hC hR1 hL hf1 hlo hce hsl hret
  obtain ⟨hx, hb, hml, hown, hts, hK, hX, hbl, hnm⟩ := hC
  obtain ⟨h1, h2, h3⟩ := zz_fl_ok hlk
  have hk9 : k < σ.1.length := (List.getElem?_eq_some_iff.mp hk).1
  have hadr : zz_ad b ex k = b + k := if_pos (Nat.lt_trans hk9 hR.2.1)
  show W p l e R s m args below meth c H locs cells slots Qt (F0 m pc ls (.int v :: .ref (zz_ad b ex k) :: S.map (zz_tr b ex)))
  rw [hadr]
  have e1 : (zz_Tn ci j).2.2.1 = "I" := by rw [hI]
  refine zz_put (D := D) (ci := ci) (v := .int v) (ty := .int) (own := M.1.cls) (C := zz_Rn ci) (T := zz_Tn ci) (N := zz_Nn ci) hx hb hts (zz_lays h1) (zz_tn ci) (zz_tn_ok h1) (zz_nm_ok h1) hown hK.1 hR.2.2.1 (zz_ws_D cA b ex σ) hR.2.2.2 k (zz_ws_get hk) (zz_cl_at h1) j h2 (hts _ (by rw [hoc]; exact h3)) (by rw [hI]) (by rw [e1]; decide +kernel) rfl rfl (by rw [List.length_mapIdx]; exact (List.getElem?_eq_some_iff.mp hf).1) hd (fun H1 locs1 hz1 hP1 hS1 => K H1 locs1 ⟨hz1.trans hR.1, hR.2.1, ?_, hS1⟩)
  rw [zz_ws_up hk]
  have e2 := zz_fv_set (b := b) (ex := ex) (g := σ.2.1 k) (v := v) hf
  show va_P D zz_cl ((zz_ws cA b ex σ).set k (b + k, .inr (ci, fs.mapIdx (fun i y => zz_fv b ex (upd (σ.2.1 k) j v) i y)))) H1
  rw [e2]
  exact hP1
theorem Ev.iald0 {k n : Nat} {rs : List (Option Nat)} {i : Int32} (hd : decode M.2.1 pc = .ok (.iaload, 1)) (hk : σ.1[k]? = some (.inr (0, n, rs))) (hin : vp_in i n)
    (kk : Ev sc d mc ms M (pc + 1) L (.int (σ.2.1 k i.toNatClampNeg) :: S) σ Q) : Ev sc d mc ms M pc L (.int i :: .ref k :: S) σ Q := by
  intro p l e R s m args below meth c D cA b ex H locs cells slots Qt ls hC hR hL hf1 hlo hce hsl hret
  have K := kk p l e R s m args below meth c D cA b ex H locs cells slots Qt ls hC hR hL hf1 hlo hce hsl hret
  obtain ⟨hx, hb, hml, hown, hts, hK, hX, hbl, hnm⟩ := hC
  have hk9 : k < σ.1.length := (List.getElem?_eq_some_iff.mp hk).1
  have hadr : zz_ad b ex k = b + k := if_pos (Nat.lt_trans hk9 hR.2.1)
  show W p l e R s m args below meth c H locs cells slots Qt (F0 m pc ls (.int i :: .ref (zz_ad b ex k) :: S.map (zz_tr b ex)))
  rw [hadr]
  exact va_iald hx hb hK.1 hR.2.2.1 k 0 (zz_ws_get hk) rfl hin hd K
theorem Ev.zald0 {k n : Nat} {rs : List (Option Nat)} {i : Int32} (hd : decode M.2.1 pc = .ok (.baload, 1)) (hk : σ.1[k]? = some (.inr (2, n, rs))) (hin : vp_in i n)
    (kk : Ev sc d mc ms M (pc + 1) L (.int (σ.2.1 k i.toNatClampNeg) :: S) σ Q) : Ev sc d mc ms M pc L (.int i :: .ref k :: S) σ Q := by
  intro p l e R s m args below meth c D cA b ex H locs cells slots Qt ls hC hR hL hf1 hlo hce hsl hret
  have K := kk p l e R s m args below meth c D cA b ex H locs cells slots Qt ls hC hR hL hf1 hlo hce hsl hret
  obtain ⟨hx, hb, hml, hown, hts, hK, hX, hbl, hnm⟩ := hC
  have hk9 : k < σ.1.length := (List.getElem?_eq_some_iff.mp hk).1
  have hadr : zz_ad b ex k = b + k := if_pos (Nat.lt_trans hk9 hR.2.1)
  show W p l e R s m args below meth c H locs cells slots Qt (F0 m pc ls (.int i :: .ref (zz_ad b ex k) :: S.map (zz_tr b ex)))
  rw [hadr]
  exact va_zald hx hb hK.1 hR.2.2.1 k 2 (zz_ws_get hk) rfl hin hd K
theorem Ev.lald0 {k n : Nat} {rs : List (Option Nat)} {i : Int32} (hd : decode M.2.1 pc = .ok (.laload, 1)) (hk : σ.1[k]? = some (.inr (1, n, rs))) (hin : vp_in i n)
    (kk : Ev sc d mc ms M (pc + 1) L (.long (σ.2.2 k i.toNatClampNeg) :: S) σ Q) : Ev sc d mc ms M pc L (.int i :: .ref k :: S) σ Q := by
  intro p l e R s m args below meth c D cA b ex H locs cells slots Qt ls hC hR hL hf1 hlo hce hsl hret
  have K := kk p l e R s m args below meth c D cA b ex H locs cells slots Qt ls hC hR hL hf1 hlo hce hsl hret
  obtain ⟨hx, hb, hml, hown, hts, hK, hX, hbl, hnm⟩ := hC
  have hk9 : k < σ.1.length := (List.getElem?_eq_some_iff.mp hk).1
  have hadr : zz_ad b ex k = b + k := if_pos (Nat.lt_trans hk9 hR.2.1)
  show W p l e R s m args below meth c H locs cells slots Qt (F0 m pc ls (.int i :: .ref (zz_ad b ex k) :: S.map (zz_tr b ex)))
  rw [hadr]
  exact va_lald hx hb hK.1 hR.2.2.1 k 1 (zz_ws_get hk) rfl hin hd K
theorem Ev.aald0 {k n tg r : Nat} {rs : List (Option Nat)} {i : Int32} (hd : decode M.2.1 pc = .ok (.aaload, 1)) (hk : σ.1[k]? = some (.inr (tg, n, rs))) (htg : 3 ≤ tg ∧ tg ≤ 6) (hin : vp_in i n) (hr : rs[i.toNatClampNeg]? = some (some r))
    (kk : Ev sc d mc ms M (pc + 1) L (.ref r :: S) σ Q) : Ev sc d mc ms M pc L (.int i :: .ref k :: S) σ Q := by
  intro p l e R s m args below meth c D cA b ex H locs cells slots Qt ls hC hR hL hf1 hlo hce hsl hret
  have K := kk p l e R s m args below meth c D cA b ex H locs cells slots Qt ls hC hR hL hf1 hlo hce hsl hret
  obtain ⟨hx, hb, hml, hown, hts, hK, hX, hbl, hnm⟩ := hC
  have hk9 : k < σ.1.length := (List.getElem?_eq_some_iff.mp hk).1
  have hadr : zz_ad b ex k = b + k := if_pos (Nat.lt_trans hk9 hR.2.1)
  show W p l e R s m args below meth c H locs cells slots Qt (F0 m pc ls (.int i :: .ref (zz_ad b ex k) :: S.map (zz_tr b ex)))
  rw [hadr]
  have e1 : va_rf ((fun j => (rs[j]?.join).map (zz_ad b ex)) i.toNatClampNeg) = .ref (zz_ad b ex r) := by
    show va_rf ((rs[i.toNatClampNeg]?.join).map (zz_ad b ex)) = _
    rw [hr]; rfl
  have K2 : W p l e R s m args below meth c H locs cells slots Qt (F0 m (pc + 1) ls (va_rf ((fun j => (rs[j]?.join).map (zz_ad b ex)) i.toNatClampNeg) :: S.map (zz_tr b ex))) := by
    rw [e1]; exact K
  rcases (show tg = 3 ∨ tg = 4 ∨ tg = 5 ∨ tg = 6 by omega) with rfl | rfl | rfl | rfl
  · exact zz_aald hx hb hK.1 hR.2.2.1 k 3 (zz_ws_get hk) rfl rfl hin hd K2
  · exact zz_aald hx hb hK.1 hR.2.2.1 k 4 (zz_ws_get hk) rfl rfl hin hd K2
  · exact zz_aald hx hb hK.1 hR.2.2.1 k 5 (zz_ws_get hk) rfl rfl hin hd K2
  · exact zz_aald hx hb hK.1 hR.2.2.1 k 6 (zz_ws_get hk) rfl rfl hin hd K2
theorem Ev.iast0 {k n : Nat} {rs : List (Option Nat)} {i v : Int32} (hd : decode M.2.1 pc = .ok (.iastore, 1)) (hk : σ.1[k]? = some (.inr (0, n, rs))) (hin : vp_in i n)
    (kk : Ev sc d mc ms M (pc + 1) L S (σ.1, zz_up σ.2.1 k i.toNatClampNeg v, σ.2.2) Q) : Ev sc d mc ms M pc L (.int v :: .int i :: .ref k :: S) σ Q := by
  intro p l e R s m args below meth c D cA b ex H locs cells slots Qt ls hC hR hL hf1 hlo hce hsl hret
  have K := fun H1 locs1 hR1 => kk p l e R s m args below meth c D cA b ex H1 locs1 cells slots Qt ls hC hR1 hL hf1 hlo hce hsl hret
  obtain ⟨hx, hb, hml, hown, hts, hK, hX, hbl, hnm⟩ := hC
  have hk9 : k < σ.1.length := (List.getElem?_eq_some_iff.mp hk).1
  have hadr : zz_ad b ex k = b + k := if_pos (Nat.lt_trans hk9 hR.2.1)
  show W p l e R s m args below meth c H locs cells slots Qt (F0 m pc ls (.int v :: .int i :: .ref (zz_ad b ex k) :: S.map (zz_tr b ex)))
  rw [hadr]
  exact zz_iast hx hb hK.1 hR.2.2.1 (zz_ws_D cA b ex σ) hR.2.2.2 k 0 (zz_ws_get hk) rfl hin hd (fun H1 locs1 hz1 hP1 hS1 => K H1 locs1 ⟨hz1.trans hR.1, hR.2.1, by rw [zz_ws_up hk]; exact hP1, hS1⟩)
theorem Ev.zast0 {k n : Nat} {rs : List (Option Nat)} {i v : Int32} (hd : decode M.2.1 pc = .ok (.bastore, 1)) (hk : σ.1[k]? = some (.inr (2, n, rs))) (hin : vp_in i n)
    (kk : Ev sc d mc ms M (pc + 1) L S (σ.1, zz_up σ.2.1 k i.toNatClampNeg (vp_nar .boolean v), σ.2.2) Q) : Ev sc d mc ms M pc L (.int v :: .int i :: .ref k :: S) σ Q := by
  intro p l e R s m args below meth c D cA b ex H locs cells slots Qt ls hC hR hL hf1 hlo hce hsl hret
  have K := fun H1 locs1 hR1 => kk p l e R s m args below meth c D cA b ex H1 locs1 cells slots Qt ls hC hR1 hL hf1 hlo hce hsl hret
  obtain ⟨hx, hb, hml, hown, hts, hK, hX, hbl, hnm⟩ := hC
  have hk9 : k < σ.1.length := (List.getElem?_eq_some_iff.mp hk).1
  have hadr : zz_ad b ex k = b + k := if_pos (Nat.lt_trans hk9 hR.2.1)
  show W p l e R s m args below meth c H locs cells slots Qt (F0 m pc ls (.int v :: .int i :: .ref (zz_ad b ex k) :: S.map (zz_tr b ex)))
  rw [hadr]
  exact zz_zast hx hb hK.1 hR.2.2.1 (zz_ws_D cA b ex σ) hR.2.2.2 k 2 (zz_ws_get hk) rfl hin hd (fun H1 locs1 hz1 hP1 hS1 => K H1 locs1 ⟨hz1.trans hR.1, hR.2.1, by rw [zz_ws_up hk]; exact hP1, hS1⟩)
theorem Ev.last0 {k n : Nat} {rs : List (Option Nat)} {i : Int32} {v : Int64} (hd : decode M.2.1 pc = .ok (.lastore, 1)) (hk : σ.1[k]? = some (.inr (1, n, rs))) (hin : vp_in i n)
    (kk : Ev sc d mc ms M (pc + 1) L S (σ.1, σ.2.1, zz_upL σ.2.2 k i.toNatClampNeg v) Q) : Ev sc d mc ms M pc L (.long v :: .int i :: .ref k :: S) σ Q := by
  intro p l e R s m args below meth c D cA b ex H locs cells slots Qt ls hC hR hL hf1 hlo hce hsl hret
  have K := fun H1 locs1 hR1 => kk p l e R s m args below meth c D cA b ex H1 locs1 cells slots Qt ls hC hR1 hL hf1 hlo hce hsl hret
  obtain ⟨hx, hb, hml, hown, hts, hK, hX, hbl, hnm⟩ := hC
  have hk9 : k < σ.1.length := (List.getElem?_eq_some_iff.mp hk).1
  have hadr : zz_ad b ex k = b + k := if_pos (Nat.lt_trans hk9 hR.2.1)
  show W p l e R s m args below meth c H locs cells slots Qt (F0 m pc ls (.long v :: .int i :: .ref (zz_ad b ex k) :: S.map (zz_tr b ex)))
  rw [hadr]
  exact zz_last hx hb hK.1 hR.2.2.1 (zz_ws_D cA b ex σ) hR.2.2.2 k 1 (zz_ws_get hk) rfl hin hd (fun H1 locs1 hz1 hP1 hS1 => K H1 locs1 ⟨hz1.trans hR.1, hR.2.1, by rw [zz_ws_upL hk]; exact hP1, hS1⟩)
end ZZH
end
section
theorem zz_w_math : Cond.initialized "java/lang/Math" ∈ zz_WG := by decide +kernel
theorem zz_w_mmin : Cond.static Lib.Math.min.name ∈ zz_WG ∧ Cond.code Lib.Math.min.name Lib.Math.min.code 2 (some .int) ∈ zz_WG := by decide +kernel
theorem zz_w_mmax : Cond.static Lib.Math.max.name ∈ zz_WG ∧ Cond.code Lib.Math.max.name Lib.Math.max.code 2 (some .int) ∈ zz_WG := by decide +kernel
theorem zz_w_mabs : Cond.static Lib.Math.abs.name ∈ zz_WG ∧ Cond.code Lib.Math.abs.name Lib.Math.abs.code 1 (some .int) ∈ zz_WG := by decide +kernel
theorem zz_ld_pc {pc n t i pc' : Nat} {L L' : List (Option Value)} {S S' : List Value} (h : zz_ld pc n L S t i = some (pc', L', S')) : pc' = pc + n := by
  unfold zz_ld at h
  split at h <;> cases h <;> rfl
theorem zz_so_pc {pc n t i pc' : Nat} {L L' : List (Option Value)} {S S' : List Value} (h : zz_so pc n L S t i = some (pc', L', S')) : pc' = pc + n := by
  unfold zz_so at h
  split at h
  · cases h
  · split at h
    · cases h; rfl
    · cases h; rfl
    · split at h <;> cases h; rfl
    · cases h
theorem zz_b2_pc {pc n pc' : Nat} {f : Int32 → Int32 → Int32} {L L' : List (Option Value)} {S S' : List Value} (h : zz_b2 pc n L S f = some (pc', L', S')) : pc' = pc + n := by
  unfold zz_b2 at h
  split at h <;> cases h; rfl
theorem zz_step_pc {i : Instr} {n pc pc' : Nat} {L L' : List (Option Value)} {S S' : List Value} (h : zz_step i n pc L S = some (pc', L', S')) : pc' = pc + n := by
  cases i <;> simp only [zz_step, zz_psh] at h
  all_goals (first | (cases h; done) | (exact zz_ld_pc h) | (exact zz_so_pc h) | (exact zz_b2_pc h) | (cases h; rfl) | (split at h <;> first | (cases h; done) | (cases h; rfl)))
/-! ===== the other instructions ===== -/
section ZZO
variable {sc : Nat × (Nat → Int32)} {d mc ms : Nat} {M : zz_MD} {pc : Nat} {L : List (Option Value)} {S : List Value} {σ : zz_St} {Q : Option Value → zz_St → Prop}
theorem zz_exA (b : Nat) (ex : Nat → Nat) (i : Nat) : zz_ad b ex (100000 + i) = ex i := by
  unfold zz_ad
  rw [if_neg (by omega), Nat.add_sub_cancel_left]
theorem Ev.xld {i0 : Nat} {i : Int32} (hd : decode M.2.1 pc = .ok (.iaload, 1)) (h4 : i0 < 4) (hin : vp_in i (zz_xs sc i0).1)
    (kk : Ev sc d mc ms M (pc + 1) L (.int ((zz_xs sc i0).2 i.toNatClampNeg) :: S) σ Q) : Ev sc d mc ms M pc L (.int i :: .ref (100000 + i0) :: S) σ Q := by
  intro p l e R s m args below meth c D cA b ex H locs cells slots Qt ls hC hR hL hf1 hlo hce hsl hret
  have K := kk p l e R s m args below meth c D cA b ex H locs cells slots Qt ls hC hR hL hf1 hlo hce hsl hret
  obtain ⟨hx, hb, hml, hown, hts, hK, hX, hbl, hnm⟩ := hC
  show W p l e R s m args below meth c H locs cells slots Qt (F0 m pc ls (.int i :: .ref (zz_ad b ex (100000 + i0)) :: S.map (zz_tr b ex)))
  rw [zz_exA]
  exact va_sld hx hb (hX.1 i0 h4).2 (Nat.lt_of_lt_of_le (hX.1 i0 h4).1 hbl) (Nat.not_le.mpr (hX.1 i0 h4).1) hR.2.2.2 hin hd K
theorem Ev.xlen {i0 : Nat} (hd : decode M.2.1 pc = .ok (.arraylength, 1)) (h4 : i0 < 4)
    (kk : Ev sc d mc ms M (pc + 1) L (.int (Int32.ofNat (zz_xs sc i0).1) :: S) σ Q) : Ev sc d mc ms M pc L (.ref (100000 + i0) :: S) σ Q := by
  intro p l e R s m args below meth c D cA b ex H locs cells slots Qt ls hC hR hL hf1 hlo hce hsl hret
  have K := kk p l e R s m args below meth c D cA b ex H locs cells slots Qt ls hC hR hL hf1 hlo hce hsl hret
  obtain ⟨hx, hb, hml, hown, hts, hK, hX, hbl, hnm⟩ := hC
  show W p l e R s m args below meth c H locs cells slots Qt (F0 m pc ls (.ref (zz_ad b ex (100000 + i0)) :: S.map (zz_tr b ex)))
  rw [zz_exA]
  exact va_slen hx hb (hX.1 i0 h4).2 (Nat.lt_of_lt_of_le (hX.1 i0 h4).1 hbl) (Nat.not_le.mpr (hX.1 i0 h4).1) hR.2.2.2 hd K
theorem Ev.alen {k n : Nat} {rs : List (Option Nat)} {v : Int32} (hd : decode M.2.1 pc = .ok (.arraylength, 1)) (hk : σ.1[k]? = some (.inr (0, n, rs))) (hv : Int32.ofNat n = v)
    (kk : Ev sc d mc ms M (pc + 1) L (.int v :: S) σ Q) : Ev sc d mc ms M pc L (.ref k :: S) σ Q := by
  intro p l e R s m args below meth c D cA b ex H locs cells slots Qt ls hC hR hL hf1 hlo hce hsl hret
  have K := kk p l e R s m args below meth c D cA b ex H locs cells slots Qt ls hC hR hL hf1 hlo hce hsl hret
  obtain ⟨hx, hb, hml, hown, hts, hK, hX, hbl, hnm⟩ := hC
  have hk9 : k < σ.1.length := (List.getElem?_eq_some_iff.mp hk).1
  have hadr : zz_ad b ex k = b + k := if_pos (Nat.lt_trans hk9 hR.2.1)
  show W p l e R s m args below meth c H locs cells slots Qt (F0 m pc ls (.ref (zz_ad b ex k) :: S.map (zz_tr b ex)))
  rw [hadr]
  exact va_alen hx hb hK.1 hR.2.2.1 k 0 (zz_ws_get hk) rfl hv hd K
theorem Ev.gets {i0 idx : Nat} (hd : decode M.2.1 pc = .ok (.getstatic idx, 3)) (h1 : 1 ≤ i0) (h4 : i0 < 4) (hlk : Cond.fieldLink M.1.cls idx RX0 (zz_sn i0) "[I" ∈ zz_WG)
    (kk : Ev sc d mc ms M (pc + 3) L (.ref (100000 + i0) :: S) σ Q) : Ev sc d mc ms M pc L S σ Q := by
  intro p l e R s m args below meth c D cA b ex H locs cells slots Qt ls hC hR hL hf1 hlo hce hsl hret
  have K := kk p l e R s m args below meth c D cA b ex H locs cells slots Qt ls hC hR hL hf1 hlo hce hsl hret
  obtain ⟨hx, hb, hml, hown, hts, hK, hX, hbl, hnm⟩ := hC
  have K2 : W p l e R s m args below meth c H locs cells slots Qt (F0 m (pc + 3) ls (.ref (ex i0) :: S.map (zz_tr b ex))) := by
    rw [← zz_exA b ex i0]; exact K
  exact va_gets hx hb (hX.2 i0 h1 h4) hR.2.2.2 hown (hts _ hlk) (fun _ h => h) hd K2
theorem Ev.ldc {idx : Nat} {v : Int32} (hd : decode M.2.1 pc = .ok (.ldc idx, 2)) (hw : Cond.constant M.1.cls idx v ∈ zz_WG)
    (kk : Ev sc d mc ms M (pc + 2) L (.int v :: S) σ Q) : Ev sc d mc ms M pc L S σ Q := by
  intro p l e R s m args below meth c D cA b ex H locs cells slots Qt ls hC hR hL hf1 hlo hce hsl hret
  have K := kk p l e R s m args below meth c D cA b ex H locs cells slots Qt ls hC hR hL hf1 hlo hce hsl hret
  obtain ⟨hx, hb, hml, hown, hts, hK, hX, hbl, hnm⟩ := hC
  exact lv_ldc hx hb hown (hts _ hw) hd K
theorem Ev.ldc2 {idx : Nat} {v : Int64} (hd : decode M.2.1 pc = .ok (.ldc2_w idx, 3)) (hw : Cond.constantLong M.1.cls idx v ∈ zz_WG)
    (kk : Ev sc d mc ms M (pc + 3) L (.long v :: S) σ Q) : Ev sc d mc ms M pc L S σ Q := by
  intro p l e R s m args below meth c D cA b ex H locs cells slots Qt ls hC hR hL hf1 hlo hce hsl hret
  have K := kk p l e R s m args below meth c D cA b ex H locs cells slots Qt ls hC hR hL hf1 hlo hce hsl hret
  obtain ⟨hx, hb, hml, hown, hts, hK, hX, hbl, hnm⟩ := hC
  exact lv_ldc2 hx hb hown (hts _ hw) hd K
theorem Ev.idiv {x y : Int32} (hd : decode M.2.1 pc = .ok (.idiv, 1)) (hne : ¬ y = 0)
    (kk : Ev sc d mc ms M (pc + 1) L (.int (x / y) :: S) σ Q) : Ev sc d mc ms M pc L (.int y :: .int x :: S) σ Q := by
  intro p l e R s m args below meth c D cA b ex H locs cells slots Qt ls hC hR hL hf1 hlo hce hsl hret
  have K := kk p l e R s m args below meth c D cA b ex H locs cells slots Qt ls hC hR hL hf1 hlo hce hsl hret
  obtain ⟨hx, hb, hml, hown, hts, hK, hX, hbl, hnm⟩ := hC
  exact lv_idiv hx hb hd hne K
theorem Ev.irem {x y : Int32} (hd : decode M.2.1 pc = .ok (.irem, 1)) (hne : ¬ y = 0)
    (kk : Ev sc d mc ms M (pc + 1) L (.int (x - x / y * y) :: S) σ Q) : Ev sc d mc ms M pc L (.int y :: .int x :: S) σ Q := by
  intro p l e R s m args below meth c D cA b ex H locs cells slots Qt ls hC hR hL hf1 hlo hce hsl hret
  have K := kk p l e R s m args below meth c D cA b ex H locs cells slots Qt ls hC hR hL hf1 hlo hce hsl hret
  obtain ⟨hx, hb, hml, hown, hts, hK, hX, hbl, hnm⟩ := hC
  exact lv_irem hx hb hd hne K
theorem Ev.goto {off : Int} {tgt : Nat} (hd : decode M.2.1 pc = .ok (.goto off, 3)) (ht : (pc : Int) + off = (tgt : Int)) (kk : Ev sc d mc ms M tgt L S σ Q) : Ev sc d mc ms M pc L S σ Q := by
  intro p l e R s m args below meth c D cA b ex H locs cells slots Qt ls hC hR hL hf1 hlo hce hsl hret
  have K := kk p l e R s m args below meth c D cA b ex H locs cells slots Qt ls hC hR hL hf1 hlo hce hsl hret
  obtain ⟨hx, hb, hml, hown, hts, hK, hX, hbl, hnm⟩ := hC
  exact lv_goto hx hb hd ht K
theorem Ev.tblOut {dflt lo hi : Int} {offs : Array Int} {len : Nat} {x : Int32} {tgt : Nat} (hd : decode M.2.1 pc = .ok (.tableswitch dflt lo hi offs, len)) (h : x.toInt < lo ∨ hi < x.toInt) (ht : (pc : Int) + dflt = (tgt : Int)) (kk : Ev sc d mc ms M tgt L S σ Q) : Ev sc d mc ms M pc L (.int x :: S) σ Q := by
  intro p l e R s m args below meth c D cA b ex H locs cells slots Qt ls hC hR hL hf1 hlo hce hsl hret
  have K := kk p l e R s m args below meth c D cA b ex H locs cells slots Qt ls hC hR hL hf1 hlo hce hsl hret
  obtain ⟨hx, hb, hml, hown, hts, hK, hX, hbl, hnm⟩ := hC
  exact lv_tableOut hx hb hd h ht K
theorem Ev.tblIn {dflt lo hi : Int} {offs : Array Int} {len : Nat} {x : Int32} {off : Int} {tgt : Nat} (hd : decode M.2.1 pc = .ok (.tableswitch dflt lo hi offs, len)) (h1 : ¬ x.toInt < lo) (h2 : ¬ hi < x.toInt) (ho : offs[(x.toInt - lo).toNat]? = some off) (ht : (pc : Int) + off = (tgt : Int)) (kk : Ev sc d mc ms M tgt L S σ Q) : Ev sc d mc ms M pc L (.int x :: S) σ Q := by
  intro p l e R s m args below meth c D cA b ex H locs cells slots Qt ls hC hR hL hf1 hlo hce hsl hret
  have K := kk p l e R s m args below meth c D cA b ex H locs cells slots Qt ls hC hR hL hf1 hlo hce hsl hret
  obtain ⟨hx, hb, hml, hown, hts, hK, hX, hbl, hnm⟩ := hC
  exact lv_tableIn hx hb hd h1 h2 ho ht K
theorem Ev.if_eq {x : Int32} {off : Int} {tgt : Nat} (hd : decode M.2.1 pc = .ok (.ifCond .eq off, 3)) (ht : (pc : Int) + off = (tgt : Int)) (kt : x = 0 → Ev sc d mc ms M tgt L S σ Q) (kf : ¬ (x = 0) → Ev sc d mc ms M (pc + 3) L S σ Q) : Ev sc d mc ms M pc L (.int x :: S) σ Q := by
  intro p l e R s m args below meth c D cA b ex H locs cells slots Qt ls hC hR hL hf1 hlo hce hsl hret
  have Kt := fun h => kt h p l e R s m args below meth c D cA b ex H locs cells slots Qt ls hC hR hL hf1 hlo hce hsl hret
  have Kf := fun h => kf h p l e R s m args below meth c D cA b ex H locs cells slots Qt ls hC hR hL hf1 hlo hce hsl hret
  obtain ⟨hx, hb, hml, hown, hts, hK, hX, hbl, hnm⟩ := hC
  exact lv_if_eq hx hb hd ht Kt Kf
theorem Ev.icmp_eq {x y : Int32} {off : Int} {tgt : Nat} (hd : decode M.2.1 pc = .ok (.if_icmp .eq off, 3)) (ht : (pc : Int) + off = (tgt : Int)) (kt : x = y → Ev sc d mc ms M tgt L S σ Q) (kf : ¬ (x = y) → Ev sc d mc ms M (pc + 3) L S σ Q) : Ev sc d mc ms M pc L (.int y :: .int x :: S) σ Q := by
  intro p l e R s m args below meth c D cA b ex H locs cells slots Qt ls hC hR hL hf1 hlo hce hsl hret
  have Kt := fun h => kt h p l e R s m args below meth c D cA b ex H locs cells slots Qt ls hC hR hL hf1 hlo hce hsl hret
  have Kf := fun h => kf h p l e R s m args below meth c D cA b ex H locs cells slots Qt ls hC hR hL hf1 hlo hce hsl hret
  obtain ⟨hx, hb, hml, hown, hts, hK, hX, hbl, hnm⟩ := hC
  exact lv_icmp_eq hx hb hd ht Kt Kf
theorem Ev.if_ne {x : Int32} {off : Int} {tgt : Nat} (hd : decode M.2.1 pc = .ok (.ifCond .ne off, 3)) (ht : (pc : Int) + off = (tgt : Int)) (kt : ¬ x = 0 → Ev sc d mc ms M tgt L S σ Q) (kf : x = 0 → Ev sc d mc ms M (pc + 3) L S σ Q) : Ev sc d mc ms M pc L (.int x :: S) σ Q := by
  intro p l e R s m args below meth c D cA b ex H locs cells slots Qt ls hC hR hL hf1 hlo hce hsl hret
  have Kt := fun h => kt h p l e R s m args below meth c D cA b ex H locs cells slots Qt ls hC hR hL hf1 hlo hce hsl hret
  have Kf := fun h => kf h p l e R s m args below meth c D cA b ex H locs cells slots Qt ls hC hR hL hf1 hlo hce hsl hret
  obtain ⟨hx, hb, hml, hown, hts, hK, hX, hbl, hnm⟩ := hC
  exact lv_if_ne hx hb hd ht Kt Kf
theorem Ev.icmp_ne {x y : Int32} {off : Int} {tgt : Nat} (hd : decode M.2.1 pc = .ok (.if_icmp .ne off, 3)) (ht : (pc : Int) + off = (tgt : Int)) (kt : ¬ x = y → Ev sc d mc ms M tgt L S σ Q) (kf : x = y → Ev sc d mc ms M (pc + 3) L S σ Q) : Ev sc d mc ms M pc L (.int y :: .int x :: S) σ Q := by
  intro p l e R s m args below meth c D cA b ex H locs cells slots Qt ls hC hR hL hf1 hlo hce hsl hret
  have Kt := fun h => kt h p l e R s m args below meth c D cA b ex H locs cells slots Qt ls hC hR hL hf1 hlo hce hsl hret
  have Kf := fun h => kf h p l e R s m args below meth c D cA b ex H locs cells slots Qt ls hC hR hL hf1 hlo hce hsl hret
  obtain ⟨hx, hb, hml, hown, hts, hK, hX, hbl, hnm⟩ := hC
  exact lv_icmp_ne hx hb hd ht Kt Kf
theorem Ev.if_lt {x : Int32} {off : Int} {tgt : Nat} (hd : decode M.2.1 pc = .ok (.ifCond .lt off, 3)) (ht : (pc : Int) + off = (tgt : Int)) (kt : x < 0 → Ev sc d mc ms M tgt L S σ Q) (kf : ¬ (x < 0) → Ev sc d mc ms M (pc + 3) L S σ Q) : Ev sc d mc ms M pc L (.int x :: S) σ Q := by
  intro p l e R s m args below meth c D cA b ex H locs cells slots Qt ls hC hR hL hf1 hlo hce hsl hret
  have Kt := fun h => kt h p l e R s m args below meth c D cA b ex H locs cells slots Qt ls hC hR hL hf1 hlo hce hsl hret
  have Kf := fun h => kf h p l e R s m args below meth c D cA b ex H locs cells slots Qt ls hC hR hL hf1 hlo hce hsl hret
  obtain ⟨hx, hb, hml, hown, hts, hK, hX, hbl, hnm⟩ := hC
  exact lv_if_lt hx hb hd ht Kt Kf
theorem Ev.icmp_lt {x y : Int32} {off : Int} {tgt : Nat} (hd : decode M.2.1 pc = .ok (.if_icmp .lt off, 3)) (ht : (pc : Int) + off = (tgt : Int)) (kt : x < y → Ev sc d mc ms M tgt L S σ Q) (kf : ¬ (x < y) → Ev sc d mc ms M (pc + 3) L S σ Q) : Ev sc d mc ms M pc L (.int y :: .int x :: S) σ Q := by
  intro p l e R s m args below meth c D cA b ex H locs cells slots Qt ls hC hR hL hf1 hlo hce hsl hret
  have Kt := fun h => kt h p l e R s m args below meth c D cA b ex H locs cells slots Qt ls hC hR hL hf1 hlo hce hsl hret
  have Kf := fun h => kf h p l e R s m args below meth c D cA b ex H locs cells slots Qt ls hC hR hL hf1 hlo hce hsl hret
  obtain ⟨hx, hb, hml, hown, hts, hK, hX, hbl, hnm⟩ := hC
  exact lv_icmp_lt hx hb hd ht Kt Kf
theorem Ev.if_ge {x : Int32} {off : Int} {tgt : Nat} (hd : decode M.2.1 pc = .ok (.ifCond .ge off, 3)) (ht : (pc : Int) + off = (tgt : Int)) (kt : 0 ≤ x → Ev sc d mc ms M tgt L S σ Q) (kf : ¬ (0 ≤ x) → Ev sc d mc ms M (pc + 3) L S σ Q) : Ev sc d mc ms M pc L (.int x :: S) σ Q := by
  intro p l e R s m args below meth c D cA b ex H locs cells slots Qt ls hC hR hL hf1 hlo hce hsl hret
  have Kt := fun h => kt h p l e R s m args below meth c D cA b ex H locs cells slots Qt ls hC hR hL hf1 hlo hce hsl hret
  have Kf := fun h => kf h p l e R s m args below meth c D cA b ex H locs cells slots Qt ls hC hR hL hf1 hlo hce hsl hret
  obtain ⟨hx, hb, hml, hown, hts, hK, hX, hbl, hnm⟩ := hC
  exact lv_if_ge hx hb hd ht Kt Kf
theorem Ev.icmp_ge {x y : Int32} {off : Int} {tgt : Nat} (hd : decode M.2.1 pc = .ok (.if_icmp .ge off, 3)) (ht : (pc : Int) + off = (tgt : Int)) (kt : y ≤ x → Ev sc d mc ms M tgt L S σ Q) (kf : ¬ (y ≤ x) → Ev sc d mc ms M (pc + 3) L S σ Q) : Ev sc d mc ms M pc L (.int y :: .int x :: S) σ Q := by
  intro p l e R s m args below meth c D cA b ex H locs cells slots Qt ls hC hR hL hf1 hlo hce hsl hret
  have Kt := fun h => kt h p l e R s m args below meth c D cA b ex H locs cells slots Qt ls hC hR hL hf1 hlo hce hsl hret
  have Kf := fun h => kf h p l e R s m args below meth c D cA b ex H locs cells slots Qt ls hC hR hL hf1 hlo hce hsl hret
  obtain ⟨hx, hb, hml, hown, hts, hK, hX, hbl, hnm⟩ := hC
  exact lv_icmp_ge hx hb hd ht Kt Kf
theorem Ev.if_gt {x : Int32} {off : Int} {tgt : Nat} (hd : decode M.2.1 pc = .ok (.ifCond .gt off, 3)) (ht : (pc : Int) + off = (tgt : Int)) (kt : 0 < x → Ev sc d mc ms M tgt L S σ Q) (kf : ¬ (0 < x) → Ev sc d mc ms M (pc + 3) L S σ Q) : Ev sc d mc ms M pc L (.int x :: S) σ Q := by
  intro p l e R s m args below meth c D cA b ex H locs cells slots Qt ls hC hR hL hf1 hlo hce hsl hret
  have Kt := fun h => kt h p l e R s m args below meth c D cA b ex H locs cells slots Qt ls hC hR hL hf1 hlo hce hsl hret
  have Kf := fun h => kf h p l e R s m args below meth c D cA b ex H locs cells slots Qt ls hC hR hL hf1 hlo hce hsl hret
  obtain ⟨hx, hb, hml, hown, hts, hK, hX, hbl, hnm⟩ := hC
  exact lv_if_gt hx hb hd ht Kt Kf
theorem Ev.icmp_gt {x y : Int32} {off : Int} {tgt : Nat} (hd : decode M.2.1 pc = .ok (.if_icmp .gt off, 3)) (ht : (pc : Int) + off = (tgt : Int)) (kt : y < x → Ev sc d mc ms M tgt L S σ Q) (kf : ¬ (y < x) → Ev sc d mc ms M (pc + 3) L S σ Q) : Ev sc d mc ms M pc L (.int y :: .int x :: S) σ Q := by
  intro p l e R s m args below meth c D cA b ex H locs cells slots Qt ls hC hR hL hf1 hlo hce hsl hret
  have Kt := fun h => kt h p l e R s m args below meth c D cA b ex H locs cells slots Qt ls hC hR hL hf1 hlo hce hsl hret
  have Kf := fun h => kf h p l e R s m args below meth c D cA b ex H locs cells slots Qt ls hC hR hL hf1 hlo hce hsl hret
  obtain ⟨hx, hb, hml, hown, hts, hK, hX, hbl, hnm⟩ := hC
  exact lv_icmp_gt hx hb hd ht Kt Kf
theorem Ev.if_le {x : Int32} {off : Int} {tgt : Nat} (hd : decode M.2.1 pc = .ok (.ifCond .le off, 3)) (ht : (pc : Int) + off = (tgt : Int)) (kt : x ≤ 0 → Ev sc d mc ms M tgt L S σ Q) (kf : ¬ (x ≤ 0) → Ev sc d mc ms M (pc + 3) L S σ Q) : Ev sc d mc ms M pc L (.int x :: S) σ Q := by
  intro p l e R s m args below meth c D cA b ex H locs cells slots Qt ls hC hR hL hf1 hlo hce hsl hret
  have Kt := fun h => kt h p l e R s m args below meth c D cA b ex H locs cells slots Qt ls hC hR hL hf1 hlo hce hsl hret
  have Kf := fun h => kf h p l e R s m args below meth c D cA b ex H locs cells slots Qt ls hC hR hL hf1 hlo hce hsl hret
  obtain ⟨hx, hb, hml, hown, hts, hK, hX, hbl, hnm⟩ := hC
  exact lv_if_le hx hb hd ht Kt Kf
theorem Ev.icmp_le {x y : Int32} {off : Int} {tgt : Nat} (hd : decode M.2.1 pc = .ok (.if_icmp .le off, 3)) (ht : (pc : Int) + off = (tgt : Int)) (kt : x ≤ y → Ev sc d mc ms M tgt L S σ Q) (kf : ¬ (x ≤ y) → Ev sc d mc ms M (pc + 3) L S σ Q) : Ev sc d mc ms M pc L (.int y :: .int x :: S) σ Q := by
  intro p l e R s m args below meth c D cA b ex H locs cells slots Qt ls hC hR hL hf1 hlo hce hsl hret
  have Kt := fun h => kt h p l e R s m args below meth c D cA b ex H locs cells slots Qt ls hC hR hL hf1 hlo hce hsl hret
  have Kf := fun h => kf h p l e R s m args below meth c D cA b ex H locs cells slots Qt ls hC hR hL hf1 hlo hce hsl hret
  obtain ⟨hx, hb, hml, hown, hts, hK, hX, hbl, hnm⟩ := hC
  exact lv_icmp_le hx hb hd ht Kt Kf
theorem Ev.vret (hr : M.2.2.2.1 = none) (hd : decode M.2.1 pc = .ok (.return_, 1)) (hq : Q none σ) : Ev sc d mc ms M pc L [] σ Q := by
  intro p l e R s m args below meth c D cA b ex H locs cells slots Qt ls hC hR hL hf1 hlo hce hsl hret
  exact hret pc ls none σ H locs cells slots hq hR (Nat.le_add_right _ _) (Nat.le_add_right _ _) (Or.inl ⟨hr, rfl, hd⟩)
theorem Ev.iret {x : Int32} (hr : M.2.2.2.1 = some .int) (hd : decode M.2.1 pc = .ok (.ireturn, 1)) (hq : Q (some (.int x)) σ) : Ev sc d mc ms M pc L [.int x] σ Q := by
  intro p l e R s m args below meth c D cA b ex H locs cells slots Qt ls hC hR hL hf1 hlo hce hsl hret
  exact hret pc ls (some (.int x)) σ H locs cells slots hq hR (Nat.le_add_right _ _) (Nat.le_add_right _ _) (Or.inr (Or.inl ⟨hr, x, rfl, hd⟩))
theorem Ev.zret {x : Int32} (hr : M.2.2.2.1 = some .boolean) (hd : decode M.2.1 pc = .ok (.ireturn, 1)) (h01 : x = 0 ∨ x = 1) (hq : Q (some (.int x)) σ) : Ev sc d mc ms M pc L [.int x] σ Q := by
  intro p l e R s m args below meth c D cA b ex H locs cells slots Qt ls hC hR hL hf1 hlo hce hsl hret
  exact hret pc ls (some (.int x)) σ H locs cells slots hq hR (Nat.le_add_right _ _) (Nat.le_add_right _ _) (Or.inr (Or.inr (Or.inl ⟨hr, x, h01, rfl, hd⟩)))
theorem Ev.lret {x : Int64} (hr : M.2.2.2.1 = some .long) (hd : decode M.2.1 pc = .ok (.lreturn, 1)) (hq : Q (some (.long x)) σ) : Ev sc d mc ms M pc L [.long x] σ Q := by
  intro p l e R s m args below meth c D cA b ex H locs cells slots Qt ls hC hR hL hf1 hlo hce hsl hret
  exact hret pc ls (some (.long x)) σ H locs cells slots hq hR (Nat.le_add_right _ _) (Nat.le_add_right _ _) (Or.inr (Or.inr (Or.inr ⟨hr, x, rfl, hd⟩)))
theorem Ev.mmin {x y : Int32} {idx : Nat} (hd : decode M.2.1 pc = .ok (.invokestatic idx, 3)) (hst : (S.map fun v => v.category).sum ≤ 8) (w1 : Cond.methodLink M.1.cls idx Lib.Math.min.name ∈ zz_WG)
    (kk : Ev sc (d + 1) mc ms M (pc + 3) L (.int (if y < x then y else x) :: S) σ Q) : Ev sc (d + 1) mc ms M pc L (.int y :: .int x :: S) σ Q := by
  intro p l e R s m args below meth c D cA b ex H locs cells slots Qt ls hC hR hL hf1 hlo hce hsl hret
  have K := kk p l e R s m args below meth c D cA b ex H locs cells slots Qt ls hC hR hL hf1 hlo hce hsl hret
  obtain ⟨hx, hb, hml, hown, hts, hK, hX, hbl, hnm⟩ := hC
  exact va_mmin hx hb (by rw [hml]; exact hL.1.symm) hown (hts _ w1) (hts _ zz_w_mmin.1) (hts _ zz_w_math) (hts _ zz_w_mmin.2) (by omega) (by rw [zz_cats]; omega) (by omega) (by omega) hd K
theorem Ev.mmax {x y : Int32} {idx : Nat} (hd : decode M.2.1 pc = .ok (.invokestatic idx, 3)) (hst : (S.map fun v => v.category).sum ≤ 8) (w1 : Cond.methodLink M.1.cls idx Lib.Math.max.name ∈ zz_WG)
    (kk : Ev sc (d + 1) mc ms M (pc + 3) L (.int (if x < y then y else x) :: S) σ Q) : Ev sc (d + 1) mc ms M pc L (.int y :: .int x :: S) σ Q := by
  intro p l e R s m args below meth c D cA b ex H locs cells slots Qt ls hC hR hL hf1 hlo hce hsl hret
  have K := kk p l e R s m args below meth c D cA b ex H locs cells slots Qt ls hC hR hL hf1 hlo hce hsl hret
  obtain ⟨hx, hb, hml, hown, hts, hK, hX, hbl, hnm⟩ := hC
  exact va_mmax hx hb (by rw [hml]; exact hL.1.symm) hown (hts _ w1) (hts _ zz_w_mmax.1) (hts _ zz_w_math) (hts _ zz_w_mmax.2) (by omega) (by rw [zz_cats]; omega) (by omega) (by omega) hd K
theorem Ev.mabs {x : Int32} {idx : Nat} (hd : decode M.2.1 pc = .ok (.invokestatic idx, 3)) (hst : (S.map fun v => v.category).sum ≤ 8) (w1 : Cond.methodLink M.1.cls idx Lib.Math.abs.name ∈ zz_WG)
    (kk : Ev sc (d + 1) mc ms M (pc + 3) L (.int (if 0 ≤ x then x else 0 - x) :: S) σ Q) : Ev sc (d + 1) mc ms M pc L (.int x :: S) σ Q := by
  intro p l e R s m args below meth c D cA b ex H locs cells slots Qt ls hC hR hL hf1 hlo hce hsl hret
  have K := kk p l e R s m args below meth c D cA b ex H locs cells slots Qt ls hC hR hL hf1 hlo hce hsl hret
  obtain ⟨hx, hb, hml, hown, hts, hK, hX, hbl, hnm⟩ := hC
  exact va_mabs hx hb (by rw [hml]; exact hL.1.symm) hown (hts _ w1) (hts _ zz_w_mabs.1) (hts _ zz_w_math) (hts _ zz_w_mabs.2) (by omega) (by rw [zz_cats]; omega) (by omega) (by omega) hd K
theorem Ev.callSN {d : Nat} {mc1 ms1 mc2 ms2 : Nat} (M' : zz_MD) {idx n : Nat} {host : String} (as rest : List Value) (Q1 : Option Value → zz_St → Prop)
    (hw : Cond.methodLinkNest M.1.cls idx M'.1 host ∈ zz_nest) (w1 : Cond.code M'.1 M'.2.1 M'.2.2.1 M'.2.2.2.1 ∈ zz_WG) (w2 : Cond.initialized M'.1.cls ∈ zz_WG) (w4 : M'.1.cls ≠ "java/lang/invoke/MethodHandle" ∧ M'.1.cls ≠ "java/lang/invoke/VarHandle" ∧ (parseMethodDescriptor M'.1.desc).map (fun d => d.parameters.length) = some n) (w5 : M'.2.2.1 ≤ 17) (w6 : Cond.static M'.1 ∈ zz_WG)
    (hd : decode M.2.1 pc = .ok (.invokestatic idx, 3)) (hn : as.length = n) (hst : (rest.map fun v => v.category).sum ≤ 8)
    (hM : EvM sc d mc1 ms1 M' as σ Q1) (kk : ∀ (r : Option Value) (σ' : zz_St), Q1 r σ' → Ev sc (d + 1) mc2 ms2 M (pc + 3) L (r.toList ++ rest) σ' Q) : Ev sc (d + 1) (mc1 + mc2) (ms1 + ms2) M pc L (as.reverse ++ rest) σ Q := by
  intro p l e R s m args below meth c D cA b ex H locs cells slots Qt ls hC hR hL hf hlo hce hsl hret
  have hC' := hC
  obtain ⟨hx, hb, hml, hown, hts, hK, hX, hbl, hnm⟩ := hC
  have hpre := zz_pre hC' hR (as.map (zz_tr b ex))
  have hstk : (as.reverse ++ rest).map (zz_tr b ex) = (as.map (zz_tr b ex)).reverse ++ rest.map (zz_tr b ex) := by
    rw [List.map_append, List.map_reverse]
  rw [hstk]
  refine zz_go (Q1 := Q1) (a := #[]) (va_runSN (As := as.map (zz_tr b ex)) (n := n) ⟨hx, hb, hml, hown, hts⟩ (hM l D cA b ex) ⟨va_cnB n hts (zz_gw w1) rfl rfl rfl (hK.2 _ hw) (hts _ w2) w4 ⟨by show d + 1 ≤ R.frames; omega, by show 8 + (M'.2.2.1 + 11) + 36 * d ≤ R.locals; omega⟩, hts _ w6, trivial⟩ hpre rfl (by rw [List.length_map]; exact hn) hL.1 rfl (lv_room (by rw [zz_cats]; exact hst)) hd ⟨by omega, by omega⟩) hR.2.2.2 ?_
  intro r σ' H1 locs1 hq1 hR1
  have h1 := kk r σ' hq1 p l e R s m args below meth c D cA b ex H1 locs1 (cells + mc1) (slots + ms1) Qt ls hC' hR1 hL hf hlo (by omega) (by omega) (fun pc' ls' r' σ'' H' locs' cells' slots' a1 a2 a3 a4 a5 => hret pc' ls' r' σ'' H' locs' cells' slots' a1 a2 (by omega) (by omega) a5)
  have e9 : (r.toList ++ rest).map (zz_tr b ex) = (r.map (zz_tr b ex)).toList ++ rest.map (zz_tr b ex) := by
    cases r <;> rfl
  rw [e9] at h1
  exact h1
/-! by places -/
theorem zz_vin {i : Int32} {j n : Nat} (hi : i = nI j) (hj : j < n) (hn : n < 2 ^ 31) : vp_in i n := by rw [hi]; exact vp_in_nI hj hn
theorem Ev.iald {k n : Nat} {rs : List (Option Nat)} {i : Int32} (j : Nat) (hd : decode M.2.1 pc = .ok (.iaload, 1)) (hk : σ.1[k]? = some (.inr (0, n, rs))) (hi : i = nI j) (hj : j < n) (hn : n < 2 ^ 31)
    (kk : Ev sc d mc ms M (pc + 1) L (.int (σ.2.1 k j) :: S) σ Q) : Ev sc d mc ms M pc L (.int i :: .ref k :: S) σ Q := by
  refine Ev.iald0 hd hk (zz_vin hi hj hn) ?_
  rw [hi, nI_clamp (Nat.lt_trans hj hn)]
  exact kk
theorem Ev.zald {k n : Nat} {rs : List (Option Nat)} {i : Int32} (j : Nat) (hd : decode M.2.1 pc = .ok (.baload, 1)) (hk : σ.1[k]? = some (.inr (2, n, rs))) (hi : i = nI j) (hj : j < n) (hn : n < 2 ^ 31)
    (kk : Ev sc d mc ms M (pc + 1) L (.int (σ.2.1 k j) :: S) σ Q) : Ev sc d mc ms M pc L (.int i :: .ref k :: S) σ Q := by
  refine Ev.zald0 hd hk (zz_vin hi hj hn) ?_
  rw [hi, nI_clamp (Nat.lt_trans hj hn)]
  exact kk
theorem Ev.lald {k n : Nat} {rs : List (Option Nat)} {i : Int32} (j : Nat) (hd : decode M.2.1 pc = .ok (.laload, 1)) (hk : σ.1[k]? = some (.inr (1, n, rs))) (hi : i = nI j) (hj : j < n) (hn : n < 2 ^ 31)
    (kk : Ev sc d mc ms M (pc + 1) L (.long (σ.2.2 k j) :: S) σ Q) : Ev sc d mc ms M pc L (.int i :: .ref k :: S) σ Q := by
  refine Ev.lald0 hd hk (zz_vin hi hj hn) ?_
  rw [hi, nI_clamp (Nat.lt_trans hj hn)]
  exact kk
theorem Ev.aald {k n tg r : Nat} {rs : List (Option Nat)} {i : Int32} (j : Nat) (hd : decode M.2.1 pc = .ok (.aaload, 1)) (hk : σ.1[k]? = some (.inr (tg, n, rs))) (htg : 3 ≤ tg ∧ tg ≤ 6) (hi : i = nI j) (hj : j < n) (hn : n < 2 ^ 31) (hr : rs[j]? = some (some r))
    (kk : Ev sc d mc ms M (pc + 1) L (.ref r :: S) σ Q) : Ev sc d mc ms M pc L (.int i :: .ref k :: S) σ Q := by
  refine Ev.aald0 (r := r) hd hk htg (zz_vin hi hj hn) ?_ kk
  rw [hi, nI_clamp (Nat.lt_trans hj hn)]
  exact hr
theorem Ev.iast {k n : Nat} {rs : List (Option Nat)} {i v : Int32} (j : Nat) (hd : decode M.2.1 pc = .ok (.iastore, 1)) (hk : σ.1[k]? = some (.inr (0, n, rs))) (hi : i = nI j) (hj : j < n) (hn : n < 2 ^ 31)
    (kk : Ev sc d mc ms M (pc + 1) L S (σ.1, zz_up σ.2.1 k j v, σ.2.2) Q) : Ev sc d mc ms M pc L (.int v :: .int i :: .ref k :: S) σ Q := by
  refine Ev.iast0 hd hk (zz_vin hi hj hn) ?_
  rw [hi, nI_clamp (Nat.lt_trans hj hn)]
  exact kk
theorem Ev.zast {k n : Nat} {rs : List (Option Nat)} {i v : Int32} (j : Nat) (hd : decode M.2.1 pc = .ok (.bastore, 1)) (hk : σ.1[k]? = some (.inr (2, n, rs))) (hi : i = nI j) (hj : j < n) (hn : n < 2 ^ 31)
    (kk : Ev sc d mc ms M (pc + 1) L S (σ.1, zz_up σ.2.1 k j (vp_nar .boolean v), σ.2.2) Q) : Ev sc d mc ms M pc L (.int v :: .int i :: .ref k :: S) σ Q := by
  refine Ev.zast0 hd hk (zz_vin hi hj hn) ?_
  rw [hi, nI_clamp (Nat.lt_trans hj hn)]
  exact kk
theorem Ev.last {k n : Nat} {rs : List (Option Nat)} {i : Int32} {v : Int64} (j : Nat) (hd : decode M.2.1 pc = .ok (.lastore, 1)) (hk : σ.1[k]? = some (.inr (1, n, rs))) (hi : i = nI j) (hj : j < n) (hn : n < 2 ^ 31)
    (kk : Ev sc d mc ms M (pc + 1) L S (σ.1, σ.2.1, zz_upL σ.2.2 k j v) Q) : Ev sc d mc ms M pc L (.long v :: .int i :: .ref k :: S) σ Q := by
  refine Ev.last0 hd hk (zz_vin hi hj hn) ?_
  rw [hi, nI_clamp (Nat.lt_trans hj hn)]
  exact kk
theorem Ev.xldN {i0 : Nat} {i : Int32} (j : Nat) (hd : decode M.2.1 pc = .ok (.iaload, 1)) (h4 : i0 < 4) (hi : i = nI j) (hj : j < (zz_xs sc i0).1) (hn : (zz_xs sc i0).1 < 2 ^ 31)
    (kk : Ev sc d mc ms M (pc + 1) L (.int ((zz_xs sc i0).2 j) :: S) σ Q) : Ev sc d mc ms M pc L (.int i :: .ref (100000 + i0) :: S) σ Q := by
  refine Ev.xld hd h4 (zz_vin hi hj hn) ?_
  rw [hi, nI_clamp (Nat.lt_trans hj hn)]
  exact kk
/-! ===== straight stretches ===== -/
def zz_stepG (oc : Nat) (σ : zz_St) (i : Instr) (n pc : Nat) (L : List (Option Value)) (S : List Value) : Option (Nat × List (Option Value) × List Value) := match i with
  | .getfield idx => match S, Nat.beq n 3 with
    | .ref k :: r, true => match zz_fl oc idx, σ.1[k]? with
      | some (ci, j), some (.inl o) => match Nat.beq ci o.1, o.2[j]? with
        | true, some x => match zz_val σ.2.1 k j x with
          | some v => some (pc + 3, L, v :: r)
          | none => none
        | _, _ => none
      | _, _ => none
    | _, _ => none
  | i => match Nat.beq (zz_len i) n with
    | true => zz_step i n pc L S
    | false => none
def zz_run (oc : Nat) (σ : zz_St) : List (Instr × Nat) → Nat → List (Option Value) → List Value → Option (Nat × List (Option Value) × List Value)
  | [], pc, L, S => some (pc, L, S)
  | (i, n) :: r, pc, L, S => match zz_stepG oc σ i n pc L S with
    | some (pc', L', S') => zz_run oc σ r pc' L' S'
    | none => none
def zz_chk (c : ByteArray) : List (Instr × Nat) → Nat → Bool
  | [], _ => true
  | (i, n) :: r, pc => decide (decode c pc = .ok (i, n)) && zz_chk c r (pc + n)
theorem Ev.stepG {i : Instr} {n pc' : Nat} {L' : List (Option Value)} {S' : List Value} (hoc : M.1.cls = zz_cn M.2.2.2.2) (hd : decode M.2.1 pc = .ok (i, n)) (hs : zz_stepG M.2.2.2.2 σ i n pc L S = some (pc', L', S')) (kk : Ev sc d mc ms M pc' L' S' σ Q) : Ev sc d mc ms M pc L S σ Q ∧ pc' = pc + n := by
  unfold zz_stepG at hs
  split at hs
  · next idx =>
    split at hs
    · next k r hn =>
      have hn : n = 3 := Nat.eq_of_beq_eq_true hn
      subst hn
      split at hs
      · next ci j o h1 h2 =>
        split at hs
        · next x h3 h4 =>
          split at hs
          · next v h5 =>
            cases hs
            have e := Nat.eq_of_beq_eq_true h3
            obtain ⟨ci', fs⟩ := o
            dsimp only at e h4 h2
            subst e
            exact ⟨Ev.getf hoc h1 hd h2 h4 h5 kk, rfl⟩
          · cases hs
        · cases hs
      · cases hs
    · cases hs
  · split at hs
    · next h1 => exact ⟨Ev.step hd (Nat.eq_of_beq_eq_true h1) hs kk, zz_step_pc hs⟩
    · cases hs
theorem zz_stepG_pc {oc : Nat} {i : Instr} {n pc' : Nat} {L' : List (Option Value)} {S' : List Value} (hs : zz_stepG oc σ i n pc L S = some (pc', L', S')) : pc' = pc + n := by
  unfold zz_stepG at hs
  split at hs
  · split at hs
    · next hn =>
      have hn : n = 3 := Nat.eq_of_beq_eq_true hn
      subst hn
      split at hs
      · split at hs
        · split at hs
          · cases hs; rfl
          · cases hs
        · cases hs
      · cases hs
    · cases hs
  · split at hs
    · exact zz_step_pc hs
    · cases hs
theorem Ev.run (is : List (Instr × Nat)) {pc' : Nat} {L' : List (Option Value)} {S' : List Value} (hoc : M.1.cls = zz_cn M.2.2.2.2) (hc : zz_chk M.2.1 is pc = true) (hs : zz_run M.2.2.2.2 σ is pc L S = some (pc', L', S')) (kk : Ev sc d mc ms M pc' L' S' σ Q) : Ev sc d mc ms M pc L S σ Q := by
  induction is generalizing pc L S with
  | nil => cases hs; exact kk
  | cons a r ih =>
    obtain ⟨i, n⟩ := a
    simp only [zz_chk, Bool.and_eq_true, decide_eq_true_eq] at hc
    simp only [zz_run] at hs
    split at hs
    · next p1 L1 S1 h1 =>
      have hp : p1 = pc + n := zz_stepG_pc h1
      exact (Ev.stepG hoc hc.1 h1 (ih (by rw [hp]; exact hc.2) hs)).1
    · cases hs
end ZZO
end
section
/-! ===== cells are made: objects, arrays, arrays of arrays; their first fields; constructors are called ===== -/
theorem zz_ws_app {cA : Nat → ClassId} {b : Nat} {ex : Nat → Nat} {σ : zz_St} {x : zz_SK} : zz_ws cA b ex (σ.1 ++ [x], σ.2) = zz_ws cA b ex σ ++ [(b + σ.1.length, zz_e cA b ex (σ.2.1 σ.1.length) (σ.2.2 σ.1.length) x)] := by
  simp [zz_ws, List.mapIdx_append]
theorem zz_R.app {D : va_G} {cA : Nat → ClassId} {b : Nat} {ex : Nat → Nat} {σ : zz_St} {H0 H H1 : Heap} {locs : List Loc} {x : zz_SK} (hR : zz_R D cA b ex σ H0 H locs) (hl : σ.1.length + 1 < 100000) (z : H1.size = H.size + 1) (o : ∀ q : Nat, q < H.size → H1[q]? = H[q]?)
    (hx : va_at D zz_cl (H.size, zz_e cA b ex (σ.2.1 σ.1.length) (σ.2.2 σ.1.length) x) H1) : zz_R D cA b ex (σ.1 ++ [x], σ.2) H0 H1 locs := by
  obtain ⟨z1, z2, z3, z4⟩ := hR
  refine ⟨by rw [z, z1]; simp; omega, by simpa using hl, ?_, ⟨Nat.le_trans z4.1 (by omega), fun q h1 h2 => (o q (Nat.lt_of_lt_of_le h1 z4.1)).trans (z4.2.1 q h1 h2), z4.2.2⟩⟩
  rw [zz_ws_app]
  refine (z3.kept (fun k q hq => o q.1 ((z3 k q hq).lt))).app (fun k q hq => ?_)
  have hk : k < 1 := (List.getElem?_eq_some_iff.mp hq).1
  rw [show k = 0 by omega] at hq
  cases hq
  rw [← z1]
  exact hx
theorem zz_new_ref {b : Nat} {ex : Nat → Nat} {H : Heap} {n : Nat} (h : H.size = b + n) (hl : n + 1 < 100000) (S : List Value) : (Value.ref n :: S).map (zz_tr b ex) = .ref H.size :: S.map (zz_tr b ex) := by
  show Value.ref (zz_ad b ex n) :: _ = _
  rw [show zz_ad b ex n = H.size from by rw [h]; exact if_pos (by omega)]
def zz_df (ci : Nat) : List (Option (Option Nat)) := (List.range (zz_Nn ci)).map (fun j => if (zz_Tn ci j).2.2.1 = "I" then none else some none)
theorem zz_df_all : ∀ ci, ci < 7 → ∀ j, j < zz_Nn ci → (zz_tn ci j = .int ∧ (zz_df ci)[j]? = some none) ∨ ((zz_tn ci j).isReference = true ∧ (zz_df ci)[j]? = some (some none)) := by decide +kernel
theorem zz_dv_ref {t : FieldType} (h : t.isReference = true) : defaultValue t = .null := by
  cases t <;> first | rfl | (exact absurd h (by decide))
theorem zz_df_ok {ci : Nat} (h : ci < 7) {b : Nat} {ex : Nat → Nat} {g : Nat → Int32} (hg : ∀ j, g j = 0) : ∀ j, j < zz_Nn ci → defaultValue (zz_tn ci j) = vp_V ((zz_df ci).mapIdx (fun i y => zz_fv b ex g i y)) j := by
  intro j hj
  show _ = List.getD _ j _
  rw [List.getD_eq_getElem?_getD, List.getElem?_mapIdx]
  rcases zz_df_all ci h j hj with ⟨h1, h2⟩ | ⟨h1, h2⟩
  · rw [h1, h2]
    show defaultValue .int = Value.int (g j)
    rw [hg]
    rfl
  · rw [zz_dv_ref h1, h2]
    rfl
section ZZM
variable {sc : Nat × (Nat → Int32)} {d mc ms : Nat} {M : zz_MD} {pc : Nat} {L : List (Option Value)} {S : List Value} {σ : zz_St} {Q : Option Value → zz_St → Prop}
theorem Ev.new {idx ci : Nat} (hd : decode M.2.1 pc = .ok (.new idx, 3)) (hci : ci < 7) (w1 : Cond.classLink M.1.cls idx (zz_Rn ci) ∈ zz_WG) (w2 : Cond.instantiable (zz_Rn ci) (zz_Nn ci) ∈ zz_WG) (w3 : Cond.initialized (zz_Rn ci) ∈ zz_WG) (hl : σ.1.length + 1 < 100000) (hz : ∀ j, σ.2.1 σ.1.length j = 0)
    (kk : Ev sc d mc ms M (pc + 3) L (.ref σ.1.length :: S) (σ.1 ++ [.inl (ci, zz_df ci)], σ.2) Q) : Ev sc d (1 + mc) (zz_Nn ci + ms) M pc L S σ Q := by
  intro p l e R s m args below meth c D cA b ex H locs cells slots Qt ls hC hR hL hf1 hlo hce hsl hret
  have hC' := hC
  obtain ⟨hx, hb, hml, hown, hts, hK, hX, hbl, hnm⟩ := hC
  have hKn := hK.1.1 ci _ (zz_cl_at hci)
  refine W.newcK (n := zz_Nn ci) hx hb hown (hts _ w1) (hts _ w2) (hts _ w3) rfl hd (by omega) (by omega) hKn.2.1 rfl (fun H1 kC hkC e1 z1 o1 => ?_)
  have hR1 : zz_R D cA b ex (σ.1 ++ [.inl (ci, zz_df ci)], σ.2) s.heap H1 locs := hR.app hl z1 o1 ⟨_, zz_cl_at hci, (u_born (zz_tn ci) hts (zz_lays hci) hKn hkC e1 (zz_tn_ok hci)).to (zz_df_ok hci hz)⟩
  have K := kk p l e R s m args below meth c D cA b ex H1 locs (cells + 1) (slots + zz_Nn ci) Qt ls hC' hR1 hL hf1 hlo (by omega) (by omega) (fun pc' ls' r' σ'' H' locs' cells' slots' a1 a2 a3 a4 a5 => hret pc' ls' r' σ'' H' locs' cells' slots' a1 a2 (by omega) (by omega) a5)
  rw [zz_new_ref hR.1 hl] at K
  exact K
def zz_at (tg : Nat) : ArrayType := match tg with
  | 0 => .int
  | 1 => .long
  | _ => .boolean
theorem Ev.newa {tg n : Nat} {x : Int32} (hd : decode M.2.1 pc = .ok (.newarray (zz_at tg), 2)) (htg : tg < 3) (h0 : ¬ x < 0) (hn : x.toNatClampNeg = n) (hn2 : n ≤ 100000) (hl : σ.1.length + 1 < 100000) (hz : ∀ j, σ.2.1 σ.1.length j = 0) (hzJ : ∀ j, σ.2.2 σ.1.length j = 0)
    (kk : Ev sc d mc ms M (pc + 2) L (.ref σ.1.length :: S) (σ.1 ++ [.inr (tg, n, [])], σ.2) Q) : Ev sc d (1 + mc) (n + ms) M pc L (.int x :: S) σ Q := by
  intro p l e R s m args below meth c D cA b ex H locs cells slots Qt ls hC hR hL hf1 hlo hce hsl hret
  have hC' := hC
  obtain ⟨hx, hb, hml, hown, hts, hK, hX, hbl, hnm⟩ := hC
  have harr : Cond.arrayClass (newarray.typeOf (zz_at tg)) ∈ zz_WG := by
    rcases (show tg = 0 ∨ tg = 1 ∨ tg = 2 by omega) with rfl | rfl | rfl <;> decide +kernel
  have hby : n * componentBytes (newarray.typeOf (zz_at tg)) ≤ 536870912 := by
    rcases (show tg = 0 ∨ tg = 1 ∨ tg = 2 by omega) with rfl | rfl | rfl
    · show n * 4 ≤ _; omega
    · show n * 8 ≤ _; omega
    · show n * 1 ≤ _; omega
  refine va_newaK (N := n) hx hb (hts _ harr) rfl hd rfl h0 hn hby (by omega) (by omega) rfl (fun H1 cA' e1 z1 o1 hAr hNm => ?_)
  have hcA : cA' = cA tg := by
    rcases (show tg = 0 ∨ tg = 1 ∨ tg = 2 by omega) with rfl | rfl | rfl
    · exact Option.some.inj (hNm.symm.trans (hK.1.2 0 _ rfl).2)
    · exact Option.some.inj (hNm.symm.trans (hK.1.2 1 _ rfl).2)
    · exact Option.some.inj (hNm.symm.trans (hK.1.2 2 _ rfl).2)
  subst hcA
  have hR1 : zz_R D cA b ex (σ.1 ++ [.inr (tg, n, [])], σ.2) s.heap H1 locs := by
    refine hR.app hl z1 o1 ?_
    show H1[H.size]? = some (vp_cell _ _)
    rw [e1]
    rcases (show tg = 0 ∨ tg = 1 ∨ tg = 2 by omega) with rfl | rfl | rfl
    · show some _ = some (arrV (cA 0) n (fun j => .int (σ.2.1 σ.1.length j)))
      simp only [hz]; rfl
    · show some _ = some (arrV (cA 1) n (fun j => .long (σ.2.2 σ.1.length j)))
      simp only [hzJ]; rfl
    · show some _ = some (arrV (cA 2) n (fun j => .int (σ.2.1 σ.1.length j)))
      simp only [hz]; rfl
  have K := kk p l e R s m args below meth c D cA b ex H1 locs (cells + 1) (slots + n) Qt ls hC' hR1 hL hf1 hlo (by omega) (by omega) (fun pc' ls' r' σ'' H' locs' cells' slots' a1 a2 a3 a4 a5 => hret pc' ls' r' σ'' H' locs' cells' slots' a1 a2 (by omega) (by omega) a5)
  rw [zz_new_ref hR.1 hl] at K
  exact K
/-- of arrays of objects: the tag's class, its number -/
def zz_qc (tg : Nat) : Nat := if tg = 3 then 4 else 2
theorem Ev.newq {tg n idx : Nat} {x : Int32} (hd : decode M.2.1 pc = .ok (.anewarray idx, 3)) (htg : tg = 3 ∨ tg = 4) (w1 : Cond.classLink M.1.cls idx (zz_Rn (zz_qc tg)) ∈ zz_WG) (h0 : ¬ x < 0) (hn : x.toNatClampNeg = n) (hn2 : n ≤ 100000) (hl : σ.1.length + 1 < 100000)
    (kk : Ev sc d mc ms M (pc + 3) L (.ref σ.1.length :: S) (σ.1 ++ [.inr (tg, n, List.replicate n none)], σ.2) Q) : Ev sc d (1 + mc) (n + ms) M pc L (.int x :: S) σ Q := by
  intro p l e R s m args below meth c D cA b ex H locs cells slots Qt ls hC hR hL hf1 hlo hce hsl hret
  have hC' := hC
  obtain ⟨hx, hb, hml, hown, hts, hK, hX, hbl, hnm⟩ := hC
  subst hn
  have hover : (Cond.arrayOver (.object (zz_Rn (zz_qc tg)))).before args s = true := by
    rcases htg with rfl | rfl
    · exact zz_ao (Vm.Alike.refl _) (hK.2 (.arrayOver (.object RX4)) (by decide +kernel))
    · exact zz_ao (Vm.Alike.refl _) (hK.2 (.arrayOver (.object RX2)) (by decide +kernel))
  refine W.anew hx hb hown (hts _ w1) hover rfl hd rfl h0 (by omega) (by omega) (by omega) (fun cA' kA comp f1 f2 f3 f4 => ?_)
  have hcA : cA' = cA tg := by
    rcases htg with rfl | rfl
    · obtain ⟨_, _, _, _, _, q4⟩ := (hK.1.2 3 _ rfl).2
      exact Option.some.inj (f1.symm.trans q4)
    · obtain ⟨_, _, _, _, _, q4⟩ := (hK.1.2 4 _ rfl).2
      exact Option.some.inj (f1.symm.trans q4)
  subst hcA
  generalize hH1 : H.push ({ cls := cA tg, slots := Array.replicate x.toNatClampNeg .null, vm := .none } : Cell) = H1
  have z1 : H1.size = H.size + 1 := by rw [← hH1, Array.size_push]
  have e1 : H1[H.size]? = some (arrV (cA tg) x.toNatClampNeg (fun _ => .null)) := by rw [← hH1, Array.getElem?_push_size, ← arrV_new]
  have o1 : ∀ q : Nat, q < H.size → H1[q]? = H[q]? := fun q hq => by rw [← hH1, Array.getElem?_push, if_neg (Nat.ne_of_lt hq)]
  have hR1 : zz_R D cA b ex (σ.1 ++ [.inr (tg, x.toNatClampNeg, List.replicate x.toNatClampNeg none)], σ.2) s.heap H1 locs := by
    refine hR.app hl z1 o1 ?_
    show H1[H.size]? = some (vp_cell _ _)
    rw [e1]
    have e2 : ∀ j : Nat, ((List.replicate x.toNatClampNeg (none : Option Nat))[j]?.join).map (zz_ad b ex) = none := by
      intro j
      rw [List.getElem?_replicate]
      split <;> rfl
    rcases htg with rfl | rfl
    · show some _ = some (arrV (cA 3) _ (fun j => va_rf (((List.replicate x.toNatClampNeg (none : Option Nat))[j]?.join).map (zz_ad b ex))))
      simp only [e2]; rfl
    · show some _ = some (arrV (cA 4) _ (fun j => va_rf (((List.replicate x.toNatClampNeg (none : Option Nat))[j]?.join).map (zz_ad b ex))))
      simp only [e2]; rfl
  have K := kk p l e R s m args below meth c D cA b ex H1 locs (cells + 1) (slots + x.toNatClampNeg) Qt ls hC' hR1 hL hf1 hlo (by omega) (by omega) (fun pc' ls' r' σ'' H' locs' cells' slots' a1 a2 a3 a4 a5 => hret pc' ls' r' σ'' H' locs' cells' slots' a1 a2 (by omega) (by omega) a5)
  rw [zz_new_ref hR.1 hl] at K
  exact K
end ZZM
theorem zz_ws_sh {cA : Nat → ClassId} {b : Nat} {ex : Nat → Nat} {σ : zz_St} {k : Nat} {x y : zz_SK} (hk : σ.1[k]? = some x) : zz_ws cA b ex (σ.1.set k y, σ.2) = (zz_ws cA b ex σ).set k (b + k, zz_e cA b ex (σ.2.1 k) (σ.2.2 k) y) := by
  apply List.ext_getElem?
  intro a
  have hl : k < (zz_ws cA b ex σ).length := (List.getElem?_eq_some_iff.mp (zz_ws_get hk)).1
  have hl2 : k < σ.1.length := (List.getElem?_eq_some_iff.mp hk).1
  rw [zz_ws_at]
  by_cases h : a = k
  · subst h
    rw [List.getElem?_set_self hl]
    show Option.map _ ((σ.1.set a y)[a]?) = _
    rw [List.getElem?_set_self hl2]
    rfl
  · show Option.map _ ((σ.1.set k y)[a]?) = _
    rw [List.getElem?_set_ne (Ne.symm h), List.getElem?_set_ne (Ne.symm h), zz_ws_at]
theorem zz_fv_setr {b : Nat} {ex : Nat → Nat} {g : Nat → Int32} {j q : Nat} {fs : List (Option (Option Nat))} (hj : j < fs.length) : (fs.set j (some (some q))).mapIdx (fun i y => zz_fv b ex g i y) = (fs.mapIdx (fun i y => zz_fv b ex g i y)).set j (.ref (zz_ad b ex q)) := by
  apply List.ext_getElem?
  intro a
  rw [List.getElem?_mapIdx]
  by_cases h : a = j
  · subst h
    rw [List.getElem?_set_self hj, List.getElem?_set_self (by rw [List.length_mapIdx]; exact hj)]
    rfl
  · rw [List.getElem?_set_ne (Ne.symm h), List.getElem?_set_ne (Ne.symm h), List.getElem?_mapIdx]
section ZZF
variable {p : Program} {l : Launch} {e : Env} {R : Room} {s : State} {m : MethodId} {args : Array Value} {below : List Frame} {meth : Method} {c : Code} {H : Heap} {locs : List Loc} {cells slots : Nat} {Qt : State → Prop}
variable {cc : ByteArray} {pc : Nat} {ls : Array Slot} {rest : List Value} {D : va_G} {cl : List vw_C} {A : Nat → Prop} {a : Nat} {tys : List (ClassId × FieldType)} {ws : va_W} {H0 : Heap}
/-- a final field, in its constructor: the heap keeps its size -/
theorem zz_putF (hexec : p.tables.exec = Jvm.exec) (hb : c.code = cc) {own C : String} {T : u_T} {N ci index : Nat} {Ts : List Cond} (hts : ∀ w ∈ Ts, w.before args s = true) (hin : ∀ w ∈ u_ws C T N, w ∈ Ts) (ty0 : Nat → FieldType) (hty : ∀ k, k < N → parseFieldDescriptor (T k).2.2.1 = some (ty0 k)) (hnm : ∀ a, a < N → ∀ b, b < N → a ≠ b → (T a).2.1 ≠ (T b).2.1) (hown : s.vm.findClass own = some m.cls) (hK : va_K D cl tys s) (hP : va_P D cl ws H) (hD : va_D A ws) (hS0 : va_S A H0 H locs) (q0 : Nat) {fs : List Value} (he : ws[q0]? = some (a, .inr (ci, fs))) (hc : cl[ci]? = some (C, T, N)) (k : Nat) (hk : k < N) (hlink : (Cond.fieldLink own index (T k).1 (T k).2.1 (T k).2.2.1).before args s = true) (hfin : (T k).2.2.2 = true) (hin2 : meth.name = "<init>") (hdecl : (T k).1 = own) {ty : FieldType} {v : Value} (hd : parseFieldDescriptor (T k).2.2.1 = some ty) (hn : narrow ty v = v) (hfit : fits ty v = true) (hl : k < fs.length)
    (hdg : decode cc pc = .ok (.putfield index, 3)) (kk : ∀ (H1 : Heap) (locs1 : List Loc), H1.size = H.size → va_P D cl (ws.set q0 (a, .inr (ci, fs.set k v))) H1 → va_S A H0 H1 locs1 → W p l e R s m args below meth c H1 locs1 cells slots Qt (F0 m (pc + 3) ls rest)) : W p l e R s m args below meth c H locs cells slots Qt (F0 m pc ls (v :: .ref a :: rest)) := by
  have hap := va_apart (own := own) hts hin ty0 hty hnm hK hc
  obtain ⟨r, h1, cell, q1, q2, q3, q4⟩ := hP q0 _ he
  have hr : r = (C, T, N) := Option.some.inj (h1.symm.trans hc)
  subst hr
  obtain ⟨hSl, hfc, kC, hkC, hkind⟩ := hK.1 ci _ hc
  obtain ⟨cf, kf, fi, f, hi, hsl⟩ := hSl k hk
  have hlay := hts _ (hin _ (u_in_lay hk))
  unfold u_lay at hlay
  rw [if_pos hfin] at hlay
  have hst := (u_facts hfc hkC (u_lays hts hin hk) hi).1
  have hcf : m.cls = cf := by
    obtain ⟨_, _, c', _, _, _, -, -, hf', -, -, -, hown2, -⟩ := Cond.laysFinal_spec hlay
    have e1 : c' = cf := by
      have h9 := hi.symm.trans hf'
      simp at h9
      exact h9.1.symm
    rw [hdecl] at hown2
    rw [← e1]
    exact Option.some.inj (hown.symm.trans hown2)
  have h6 := u_fits hfc hkC hkind (Or.inr hlay) hi hd hn hfit
  refine W.putFinK hexec hb hown hlink hi hst hcf hin2 (by rw [q2]; exact h6) q1 q3 (by rw [hsl]; exact k2_hasslot (q4 k hk)) rfl rfl hdg fun H' e1 e2 e3 => ?_
  rw [hsl] at e1 ⊢
  exact kk H' _ e2 (hP.set hD he ⟨_, hc, t_OB.to (V := updV (vp_V fs) k v) ⟨_, e1, q2, q3, t_set q4 hap hk v⟩ (fun j _ => vp_updV_set hl v j)⟩ e3) (hS0.put e2 e3 (hD.2 q0 _ he))
/-- an object is laid into an array of its class: the heap keeps its size -/
theorem zz_astq (hexec : p.tables.exec = Jvm.exec) (hb : c.code = cc) (hK : va_K D cl tys s) (hP : va_P D cl ws H) (hD : va_D A ws) (hS : va_S A H0 H locs) (q0 t0 qk ci : Nat) {cA : ClassId} {r : vw_C} {n v : Nat} {vs : List Value} {f : Nat → Option Nat} (ha : ws[q0]? = some (a, .inl (cA, n, .inr (.inr (.inr (.inr f)))))) (ht : tys[t0]? = some (cA, .object r.1)) (hv : ws[qk]? = some (v, .inr (ci, vs))) (hc : cl[ci]? = some r) {i : Int32} (hin : vp_in i n) (hdg : decode cc pc = .ok (.aastore, 1))
    (kk : ∀ (H1 : Heap) (locs1 : List Loc), H1.size = H.size → va_P D cl (ws.set q0 (a, .inl (cA, n, .inr (.inr (.inr (.inr (va_up f i.toNatClampNeg (some v)))))))) H1 → va_S A H0 H1 locs1 → W p l e R s m args below meth c H1 locs1 cells slots Qt (F0 m (pc + 1) ls rest)) : W p l e R s m args below meth c H locs cells slots Qt (F0 m pc ls (.ref v :: .int i :: .ref a :: rest)) := by
  have hlt : i.toNatClampNeg < n := Nat.not_le.mp fun q => hin (Or.inr q)
  have h0 : ¬ i < 0 := fun q => hin (Or.inl q)
  obtain ⟨r', hr', cellV, g1, g2, g3, -⟩ := hP qk _ hv
  have hcls := (hK.1 ci r hc).2
  obtain ⟨kA, comp, k1, k2, k3, -⟩ := (hK.2 t0 _ ht).2
  have hcomp : comp = D.1 ci := Option.some.inj (k3.symm.trans hcls.1)
  subst hcomp
  obtain ⟨kC, hkC, -⟩ := hcls.2
  refine W.aast hexec hb (hP q0 _ ha) (fun q h => by cases h) (fun h => by cases h) k1 k2 rfl hkC ⟨h0, by show _ < (arrV _ _ _).slots.size; rw [arrV_size]; exact hlt⟩ g1 (fun q h => by rw [g3] at h; cases h) (by rw [g2]; exact hkC) (by rw [g2]; exact va_assign hcls) rfl rfl hdg fun H1 e z oq => ?_
  refine kk H1 _ z (hP.set hD ha ?_ oq) (hS.put z oq (hD.2 q0 _ ha))
  show H1[a]? = some (vp_cell _ _)
  rw [e, vp_cell_q, vp_cell_q, arrV_store]
  congr 2
  funext q
  by_cases hq : q = i.toNatClampNeg
  · subst hq
    simp [updV, va_up, va_rf]
  · simp [updV, va_up, hq]
end ZZF
section ZZN
variable {sc : Nat × (Nat → Int32)} {d mc ms : Nat} {M : zz_MD} {pc : Nat} {L : List (Option Value)} {S : List Value} {σ : zz_St} {Q : Option Value → zz_St → Prop}
theorem zz_ref_ok {t : FieldType} (h : t.isReference = true) (a : Nat) : narrow t (.ref a) = .ref a ∧ fits t (.ref a) = true := by
  cases t <;> first | exact ⟨rfl, rfl⟩ | (exact absurd h (by decide))
theorem Ev.putr {k ci j idx q : Nat} {fs : List (Option (Option Nat))} (hoc : M.1.cls = zz_cn M.2.2.2.2) (hin : M.1.name = "<init>") (hlk : zz_fl M.2.2.2.2 idx = some (ci, j)) (hI : (zz_Tn ci j).2.2.2 = true ∧ (zz_Tn ci j).1 = M.1.cls) (hd : decode M.2.1 pc = .ok (.putfield idx, 3)) (hk : σ.1[k]? = some (.inl (ci, fs))) (hf : fs[j]? = some (some none)) (hty : (zz_tn ci j).isReference = true)
    (kk : Ev sc d mc ms M (pc + 3) L S (σ.1.set k (.inl (ci, fs.set j (some (some q)))), σ.2) Q) : Ev sc d mc ms M pc L (.ref q :: .ref k :: S) σ Q := by
  intro p l e R s m args below meth c D cA b ex H locs cells slots Qt ls hC hR hL hf1 hlo hce hsl hret
  have K := fun H1 locs1 hR1 => kk p l e R s m args below meth c D cA b ex H1 locs1 cells slots Qt ls hC hR1 hL hf1 hlo hce hsl hret
  obtain ⟨hx, hb, hml, hown, hts, hK, hX, hbl, hnm⟩ := hC
  obtain ⟨h1, h2, h3⟩ := zz_fl_ok hlk
  have hk9 : k < σ.1.length := (List.getElem?_eq_some_iff.mp hk).1
  have hadr : zz_ad b ex k = b + k := if_pos (Nat.lt_trans hk9 hR.2.1)
  have hj9 : j < fs.length := (List.getElem?_eq_some_iff.mp hf).1
  show W p l e R s m args below meth c H locs cells slots Qt (F0 m pc ls (.ref (zz_ad b ex q) :: .ref (zz_ad b ex k) :: S.map (zz_tr b ex)))
  rw [hadr]
  refine zz_putF (D := D) (ci := ci) (v := .ref (zz_ad b ex q)) (ty := zz_tn ci j) (own := M.1.cls) (C := zz_Rn ci) (T := zz_Tn ci) (N := zz_Nn ci) hx hb hts (zz_lays h1) (zz_tn ci) (zz_tn_ok h1) (zz_nm_ok h1) hown hK.1 hR.2.2.1 (zz_ws_D cA b ex σ) hR.2.2.2 k (zz_ws_get hk) (zz_cl_at h1) j h2 (hts _ (by rw [hoc]; exact h3)) hI.1 (hnm.trans hin) hI.2 (zz_tn_ok h1 j h2) (zz_ref_ok hty _).1 (zz_ref_ok hty _).2 (by rw [List.length_mapIdx]; exact hj9) hd (fun H1 locs1 hz1 hP1 hS1 => K H1 locs1 ⟨hz1.trans (by rw [hR.1]; simp), by simpa using hR.2.1, ?_, hS1⟩)
  rw [zz_ws_sh hk]
  show va_P D zz_cl ((zz_ws cA b ex σ).set k (b + k, .inr (ci, (fs.set j (some (some q))).mapIdx (fun i y => zz_fv b ex (σ.2.1 k) i y)))) H1
  rw [zz_fv_setr hj9]
  exact hP1
theorem Ev.aast {k n tg q : Nat} {rs : List (Option Nat)} {fs : List (Option (Option Nat))} {i : Int32} (hd : decode M.2.1 pc = .ok (.aastore, 1)) (hk : σ.1[k]? = some (.inr (tg, n, rs))) (htg : tg = 3 ∨ tg = 4) (hq : σ.1[q]? = some (.inl (zz_qc tg, fs))) (hin : vp_in i n) (hrs : rs.length = n)
    (kk : Ev sc d mc ms M (pc + 1) L S (σ.1.set k (.inr (tg, n, rs.set i.toNatClampNeg (some q))), σ.2) Q) : Ev sc d mc ms M pc L (.ref q :: .int i :: .ref k :: S) σ Q := by
  intro p l e R s m args below meth c D cA b ex H locs cells slots Qt ls hC hR hL hf1 hlo hce hsl hret
  have K := fun H1 locs1 hR1 => kk p l e R s m args below meth c D cA b ex H1 locs1 cells slots Qt ls hC hR1 hL hf1 hlo hce hsl hret
  obtain ⟨hx, hb, hml, hown, hts, hK, hX, hbl, hnm⟩ := hC
  have hk9 : k < σ.1.length := (List.getElem?_eq_some_iff.mp hk).1
  have hadr : zz_ad b ex k = b + k := if_pos (Nat.lt_trans hk9 hR.2.1)
  have hq9 : q < σ.1.length := (List.getElem?_eq_some_iff.mp hq).1
  have hadq : zz_ad b ex q = b + q := if_pos (Nat.lt_trans hq9 hR.2.1)
  have hlt : i.toNatClampNeg < n := Nat.not_le.mp fun q => hin (Or.inr q)
  show W p l e R s m args below meth c H locs cells slots Qt (F0 m pc ls (.ref (zz_ad b ex q) :: .int i :: .ref (zz_ad b ex k) :: S.map (zz_tr b ex)))
  rw [hadr, hadq]
  have e2 : (fun j => ((rs.set i.toNatClampNeg (some q))[j]?.join).map (zz_ad b ex)) = va_up (fun j => (rs[j]?.join).map (zz_ad b ex)) i.toNatClampNeg (some (b + q)) := by
    funext j
    by_cases h : j = i.toNatClampNeg
    · subst h
      rw [List.getElem?_set_self (by omega)]
      simp [va_up, hadq]
    · rw [List.getElem?_set_ne (Ne.symm h)]
      simp [va_up, h]
  have fin : ∀ (H1 : Heap) (locs1 : List Loc), H1.size = H.size → va_P D zz_cl ((zz_ws cA b ex σ).set k (b + k, .inl (cA tg, n, .inr (.inr (.inr (.inr (va_up (fun j => (rs[j]?.join).map (zz_ad b ex)) i.toNatClampNeg (some (b + q))))))))) H1 → va_S (fun q => b ≤ q) s.heap H1 locs1 → W p l e R s m args below meth c H1 locs1 cells slots Qt (F0 m (pc + 1) ls (S.map (zz_tr b ex))) := by
    intro H1 locs1 hz1 hP1 hS1
    refine K H1 locs1 ⟨hz1.trans (by rw [hR.1]; simp), by simpa using hR.2.1, ?_, hS1⟩
    rw [zz_ws_sh hk]
    rw [← e2] at hP1
    rcases htg with rfl | rfl
    · exact hP1
    · exact hP1
  rcases htg with rfl | rfl
  · exact zz_astq hx hb hK.1 hR.2.2.1 (zz_ws_D cA b ex σ) hR.2.2.2 k 3 q 4 (r := (RX4, TX4, 2)) (zz_ws_get hk) rfl (zz_ws_get hq) rfl hin hd fin
  · exact zz_astq hx hb hK.1 hR.2.2.1 (zz_ws_D cA b ex σ) hR.2.2.2 k 4 q 2 (r := (RX2, TX2, 12)) (zz_ws_get hk) rfl (zz_ws_get hq) rfl hin hd fin
theorem Ev.objInit {k idx : Nat} (hd : decode M.2.1 pc = .ok (.invokespecial idx, 3)) (w1 : Cond.methodLink M.1.cls idx Lib.objectInit ∈ zz_WG) (hst : (S.map fun v => v.category).sum ≤ 8)
    (kk : Ev sc (d + 1) mc ms M (pc + 3) L S σ Q) : Ev sc (d + 1) mc ms M pc L (.ref k :: S) σ Q := by
  intro p l e R s m args below meth c D cA b ex H locs cells slots Qt ls hC hR hL hf1 hlo hce hsl hret
  have K := kk p l e R s m args below meth c D cA b ex H locs cells slots Qt ls hC hR hL hf1 hlo hce hsl hret
  obtain ⟨hx, hb, hml, hown, hts, hK, hX, hbl, hnm⟩ := hC
  have hin : Cond.instanceMethod Lib.objectInit ∈ zz_WG ∧ Cond.code Lib.objectInit ⟨#[0xb1]⟩ 1 none ∈ zz_WG := by decide +kernel
  exact W.objInit hx hb hown (hts _ w1) (hts _ hin.1) (hts _ hin.2) rfl (by rw [hml]; exact hL.1) rfl hd (by omega) (by show 2 * 0 + _ + 12 ≤ _; rw [zz_cats]; omega) K
theorem Ev.callI {d : Nat} {mc1 ms1 mc2 ms2 : Nat} (M' : zz_MD) {idx n k : Nat} (as rest : List Value) (Q1 : Option Value → zz_St → Prop) (hr : M'.2.2.2.1 = none)
    (w1 : Cond.code M'.1 M'.2.1 M'.2.2.1 M'.2.2.2.1 ∈ zz_WG) (w2 : Cond.initialized M'.1.cls ∈ zz_WG) (w3 : Cond.methodLink M.1.cls idx M'.1 ∈ zz_WG) (w4 : M'.1.cls ≠ "java/lang/invoke/MethodHandle" ∧ M'.1.cls ≠ "java/lang/invoke/VarHandle" ∧ (parseMethodDescriptor M'.1.desc).map (fun d => d.parameters.length) = some n) (w5 : M'.2.2.1 ≤ 17) (w6 : Cond.instanceMethod M'.1 ∈ zz_WG) (w7 : M'.1.name = "<init>")
    (hd : decode M.2.1 pc = .ok (.invokespecial idx, 3)) (hn : as.length = n) (hst : (rest.map fun v => v.category).sum ≤ 8)
    (hM : EvM sc d mc1 ms1 M' (.ref k :: as) σ Q1) (kk : ∀ (r : Option Value) (σ' : zz_St), Q1 r σ' → Ev sc (d + 1) mc2 ms2 M (pc + 3) L (r.toList ++ rest) σ' Q) : Ev sc (d + 1) (mc1 + mc2) (ms1 + ms2) M pc L (as.reverse ++ .ref k :: rest) σ Q := by
  intro p l e R s m args below meth c D cA b ex H locs cells slots Qt ls hC hR hL hf hlo hce hsl hret
  obtain ⟨y, cc', nl, rt, oc'⟩ := M'
  dsimp only at hr
  subst hr
  have hC' := hC
  obtain ⟨hx, hb, hml, hown, hts, hK, hX, hbl, hnm⟩ := hC
  have hpre := zz_pre hC' hR ((Value.ref k :: as).map (zz_tr b ex))
  have hstk : (as.reverse ++ Value.ref k :: rest).map (zz_tr b ex) = (as.map (zz_tr b ex)).reverse ++ Value.ref (zz_ad b ex k) :: rest.map (zz_tr b ex) := by
    rw [List.map_append, List.map_reverse]; rfl
  rw [hstk]
  refine zz_go (Q1 := Q1) (a := #[]) (va_runI (b := zz_ad b ex k) (As := as.map (zz_tr b ex)) (n := n) ⟨hx, hb, hml, hown, hts⟩ (hM l D cA b ex) ⟨callB_of n hts (zz_gw w1) rfl rfl rfl (hts _ w2) (hts _ w3) w4 ⟨by show d + 1 ≤ R.frames; omega, by show 8 + (nl + 11) + 36 * d ≤ R.locals; dsimp only at w5; omega⟩, w7, hts _ w6⟩ hpre rfl (by rw [List.length_map]; exact hn) hL.1 rfl (lv_room (by rw [zz_cats]; exact hst)) hd ⟨by omega, by omega⟩) hR.2.2.2 ?_
  intro r σ' H1 locs1 hq1 hR1
  have h1 := kk r σ' hq1 p l e R s m args below meth c D cA b ex H1 locs1 (cells + mc1) (slots + ms1) Qt ls hC' hR1 hL hf hlo (by omega) (by omega) (fun pc' ls' r' σ'' H' locs' cells' slots' a1 a2 a3 a4 a5 => hret pc' ls' r' σ'' H' locs' cells' slots' a1 a2 (by omega) (by omega) a5)
  have e9 : (r.toList ++ rest).map (zz_tr b ex) = (r.map (zz_tr b ex)).toList ++ rest.map (zz_tr b ex) := by
    cases r <;> rfl
  rw [e9] at h1
  exact h1
theorem Ev.callIN {d : Nat} {mc1 ms1 mc2 ms2 : Nat} (M' : zz_MD) {idx n k : Nat} {host : String} (as rest : List Value) (Q1 : Option Value → zz_St → Prop) (hr : M'.2.2.2.1 = none)
    (w1 : Cond.code M'.1 M'.2.1 M'.2.2.1 M'.2.2.2.1 ∈ zz_WG) (w2 : Cond.initialized M'.1.cls ∈ zz_WG) (w3 : Cond.methodLinkNest M.1.cls idx M'.1 host ∈ zz_nest) (w4 : M'.1.cls ≠ "java/lang/invoke/MethodHandle" ∧ M'.1.cls ≠ "java/lang/invoke/VarHandle" ∧ (parseMethodDescriptor M'.1.desc).map (fun d => d.parameters.length) = some n) (w5 : M'.2.2.1 ≤ 17) (w6 : Cond.instanceMethod M'.1 ∈ zz_WG) (w7 : M'.1.name = "<init>")
    (hd : decode M.2.1 pc = .ok (.invokespecial idx, 3)) (hn : as.length = n) (hst : (rest.map fun v => v.category).sum ≤ 8)
    (hM : EvM sc d mc1 ms1 M' (.ref k :: as) σ Q1) (kk : ∀ (r : Option Value) (σ' : zz_St), Q1 r σ' → Ev sc (d + 1) mc2 ms2 M (pc + 3) L (r.toList ++ rest) σ' Q) : Ev sc (d + 1) (mc1 + mc2) (ms1 + ms2) M pc L (as.reverse ++ .ref k :: rest) σ Q := by
  intro p l e R s m args below meth c D cA b ex H locs cells slots Qt ls hC hR hL hf hlo hce hsl hret
  obtain ⟨y, cc', nl, rt, oc'⟩ := M'
  dsimp only at hr
  subst hr
  have hC' := hC
  obtain ⟨hx, hb, hml, hown, hts, hK, hX, hbl, hnm⟩ := hC
  have hpre := zz_pre hC' hR ((Value.ref k :: as).map (zz_tr b ex))
  have hstk : (as.reverse ++ Value.ref k :: rest).map (zz_tr b ex) = (as.map (zz_tr b ex)).reverse ++ Value.ref (zz_ad b ex k) :: rest.map (zz_tr b ex) := by
    rw [List.map_append, List.map_reverse]; rfl
  rw [hstk]
  refine zz_go (Q1 := Q1) (a := #[]) (va_runIN (b := zz_ad b ex k) (As := as.map (zz_tr b ex)) (n := n) ⟨hx, hb, hml, hown, hts⟩ (hM l D cA b ex) ⟨va_cnB n hts (zz_gw w1) rfl rfl rfl (hK.2 _ w3) (hts _ w2) w4 ⟨by show d + 1 ≤ R.frames; omega, by show 8 + (nl + 11) + 36 * d ≤ R.locals; dsimp only at w5; omega⟩, w7, hts _ w6⟩ hpre rfl (by rw [List.length_map]; exact hn) hL.1 rfl (lv_room (by rw [zz_cats]; exact hst)) hd ⟨by omega, by omega⟩) hR.2.2.2 ?_
  intro r σ' H1 locs1 hq1 hR1
  have h1 := kk r σ' hq1 p l e R s m args below meth c D cA b ex H1 locs1 (cells + mc1) (slots + ms1) Qt ls hC' hR1 hL hf hlo (by omega) (by omega) (fun pc' ls' r' σ'' H' locs' cells' slots' a1 a2 a3 a4 a5 => hret pc' ls' r' σ'' H' locs' cells' slots' a1 a2 (by omega) (by omega) a5)
  have e9 : (r.toList ++ rest).map (zz_tr b ex) = (r.map (zz_tr b ex)).toList ++ rest.map (zz_tr b ex) := by
    cases r <;> rfl
  rw [e9] at h1
  exact h1
end ZZN
/-! ===== an array of arrays ===== -/
def zz_mO (cO : ClassId) (n h i : Nat) : Cell := arrV cO n (fun j => if j < i then .ref (h + 1 + j) else .null)
theorem zz_mO_step (cO : ClassId) (n h i : Nat) : (zz_mO cO n h i).setSlot i (.ref (h + 1 + i)) = zz_mO cO n h (i + 1) := by
  unfold zz_mO
  rw [arrV_store]
  congr 1
  funext j
  by_cases hj : j = i
  · subst hj
    simp [updV]
  · simp only [updV, hj, if_false]
    by_cases h2 : j < i
    · rw [if_pos h2, if_pos (by omega)]
    · rw [if_neg h2, if_neg (by omega)]
def zz_mS (T : State) (cO cI : ClassId) (n q : Nat) (v : Value) : Nat → State
  | 0 => T.pushCell (zz_mO cO n T.heap.size 0)
  | i + 1 => ((zz_mS T cO cI n q v i).pushCell (arrV cI q (fun _ => v))).setCell T.heap.size (zz_mO cO n T.heap.size (i + 1))
theorem zz_mS_f (T : State) (cO cI : ClassId) (n q : Nat) (v : Value) : ∀ i, (zz_mS T cO cI n q v i).heap.size = T.heap.size + 1 + i ∧ (zz_mS T cO cI n q v i).heap[T.heap.size]? = some (zz_mO cO n T.heap.size i) ∧ (zz_mS T cO cI n q v i).vm = T.vm ∧ (zz_mS T cO cI n q v i).slotsUsed = T.slotsUsed + n + i * q ∧
    (∀ a : Nat, a < T.heap.size → (zz_mS T cO cI n q v i).heap[a]? = T.heap[a]?) ∧ ∀ j : Nat, j < i → (zz_mS T cO cI n q v i).heap[T.heap.size + 1 + j]? = some (arrV cI q (fun _ => v)) := by
  intro i
  induction i with
  | zero =>
    refine ⟨by simp [zz_mS, State.pushCell], by simp [zz_mS, State.pushCell], rfl, ?_, fun a ha => ?_, fun j hj => absurd hj (Nat.not_lt_zero _)⟩
    · show T.slotsUsed + (zz_mO cO n T.heap.size 0).slots.size = _
      unfold zz_mO
      rw [arrV_size]; omega
    · show (T.heap.push _)[a]? = _
      rw [Array.getElem?_push, if_neg (Nat.ne_of_lt ha)]
  | succ i ih =>
    obtain ⟨f1, f2, f3, f4, f5, f6⟩ := ih
    have hne : ∀ (a : Nat) (x y : Cell), a ≠ T.heap.size → (((zz_mS T cO cI n q v i).heap.push x).setIfInBounds T.heap.size y)[a]? = ((zz_mS T cO cI n q v i).heap.push x)[a]? := by
      intro a x y ha
      rw [Array.getElem?_setIfInBounds, if_neg (Ne.symm ha)]
    refine ⟨?_, ?_, f3, ?_, fun a ha => ?_, fun j hj => ?_⟩
    · show (((zz_mS T cO cI n q v i).heap.push _).setIfInBounds T.heap.size _).size = _
      rw [Array.size_setIfInBounds, Array.size_push, f1]; omega
    · show (((zz_mS T cO cI n q v i).heap.push _).setIfInBounds T.heap.size _)[T.heap.size]? = _
      rw [Array.getElem?_setIfInBounds, if_pos rfl, if_pos (by rw [Array.size_push, f1]; omega)]
    · show (zz_mS T cO cI n q v i).slotsUsed + (arrV cI q (fun _ => v)).slots.size = _
      rw [arrV_size, f4, Nat.succ_mul]; omega
    · show (((zz_mS T cO cI n q v i).heap.push _).setIfInBounds T.heap.size _)[a]? = _
      rw [hne _ _ _ (by omega), Array.getElem?_push, if_neg (by omega)]
      exact f5 a ha
    · show (((zz_mS T cO cI n q v i).heap.push _).setIfInBounds T.heap.size _)[T.heap.size + 1 + j]? = _
      rw [hne _ _ _ (by omega), Array.getElem?_push]
      by_cases h : j = i
      · subst h
        rw [if_pos (by omega)]
      · rw [if_neg (by omega)]
        exact f6 j (by omega)
theorem zz_mS_top (T : State) (f : JFrame) (cO cI : ClassId) (n q : Nat) (v : Value) : ∀ i, zz_mS (T.setTop f) cO cI n q v i = (zz_mS T cO cI n q v i).setTop f := by
  intro i
  induction i with
  | zero => rfl
  | succ i ih => simp only [zz_mS, ih, State.heap_setTop, State.pushCell_setTop, State.setCell_setTop]
section ZZW
variable {E : CtlPost} {e : Env} {d : Bool} {acts : List Action} {s : State}
theorem zz_mk1 {c1 cc : ClassId} {k1 : Class} {ty : FieldType} {y : Int32} (hk : s.vm.classes[c1]? = some k1) (hkind : k1.kind = .array cc ty) (hy : ¬ y < 0) (hl : ¬ y.toNatClampNeg > e.platform.arrayLengthLimit) (hh : ¬ y.toNatClampNeg * componentBytes ty > e.platform.maxHeapBytes) (hdf : fits ty (defaultValue ty) = true)
    (h1 : s.heap.size < e.platform.maxCells) (h2 : s.slotsUsed + y.toNatClampNeg ≤ e.platform.maxSlots) {Q : Addr → Pre} (hq : ∀ acts', Q s.heap.size d acts' (s.pushCell (arrV c1 y.toNatClampNeg (fun _ => defaultValue ty)))) : wp (multianewarray.make c1 [y]) Q E e d acts s := by
  rw [multianewarray.make]
  simp only [wp_bind', W.ite, hy, if_false, wp_pure', W.theClass, hk, hkind, Option.some.injEq, exists_eq_left']
  refine W.newArray_of hk hkind hl hh h1 h2 hdf (fun acts' => ?_)
  have h9 := hq acts'
  rw [← arrV_new] at h9
  exact h9
theorem zz_mk2 {c0 c1 cc : ClassId} {k0 k1 : Class} {ty : FieldType} {x y : Int32} (hk0 : s.vm.classes[c0]? = some k0) (hkind0 : k0.kind = .array c1 (.array ty)) (hk1 : s.vm.classes[c1]? = some k1) (hkind1 : k1.kind = .array cc ty) (hx : ¬ x < 0) (hy : ¬ y < 0)
    (hl0 : ¬ x.toNatClampNeg > e.platform.arrayLengthLimit) (hh0 : ¬ x.toNatClampNeg * componentBytes (.array ty) > e.platform.maxHeapBytes) (hl1 : ¬ y.toNatClampNeg > e.platform.arrayLengthLimit) (hh1 : ¬ y.toNatClampNeg * componentBytes ty > e.platform.maxHeapBytes) (hdf : fits ty (defaultValue ty) = true)
    (hc : s.heap.size + 1 + x.toNatClampNeg ≤ e.platform.maxCells) (hs : s.slotsUsed + x.toNatClampNeg + x.toNatClampNeg * y.toNatClampNeg ≤ e.platform.maxSlots)
    {Q : Addr → Pre} (hq : ∀ d' acts', Q s.heap.size d' acts' (zz_mS s c0 c1 x.toNatClampNeg y.toNatClampNeg (defaultValue ty) x.toNatClampNeg)) : wp (multianewarray.make c0 [x, y]) Q E e d acts s := by
  have hfind : ([y].find? (· < 0)) = none := by simp [hy]
  rw [multianewarray.make]
  simp only [wp_bind', W.ite, hx, if_false, wp_pure', W.theClass, hk0, hkind0, Option.some.injEq, exists_eq_left']
  refine W.newArray_of hk0 hkind0 hl0 hh0 (by omega) (by omega) rfl (fun acts' => ?_)
  simp only [hfind]
  rw [ite_self, wp_bind', Std.Legacy.Range.forIn_eq_forIn_range']
  have hsz : ([:x.toNatClampNeg] : Std.Legacy.Range).size = x.toNatClampNeg := by simp [Std.Legacy.Range.size]
  rw [hsz]
  show wp (forIn (List.range' 0 x.toNatClampNeg 1) PUnit.unit _) _ E e d acts' _
  refine wp_forIn_inv (fun rest s' => ∃ i, i + rest.length = x.toNatClampNeg ∧ rest = List.range' i (x.toNatClampNeg - i) ∧ s' = zz_mS s c0 c1 x.toNatClampNeg y.toNatClampNeg (defaultValue ty) i) _ _ ⟨0, by simp, by simp, ?_⟩ ?_ ?_
  · show _ = s.pushCell (zz_mO c0 x.toNatClampNeg s.heap.size 0)
    unfold zz_mO
    rw [show (fun j : Nat => if j < 0 then Value.ref (s.heap.size + 1 + j) else Value.null) = (fun _ => Value.null) from by funext j; exact if_neg (Nat.not_lt_zero _), ← arrV_new]
  · rintro z rest s' d' acts'' Q' ⟨i, hi, hl, rfl⟩ hnext
    rw [List.length_cons] at hi
    have hlt : i < x.toNatClampNeg := by omega
    rw [show x.toNatClampNeg - i = (x.toNatClampNeg - (i + 1)) + 1 from by omega, List.range'_succ] at hl
    obtain ⟨rfl, hrest⟩ := List.cons.inj hl
    obtain ⟨f1, f2, f3, f4, -, -⟩ := zz_mS_f s c0 c1 x.toNatClampNeg y.toNatClampNeg (defaultValue ty) z
    have hmul : z * y.toNatClampNeg + y.toNatClampNeg ≤ x.toNatClampNeg * y.toNatClampNeg := by
      have h9 := Nat.mul_le_mul_right y.toNatClampNeg (show z + 1 ≤ x.toNatClampNeg from hlt)
      rw [Nat.succ_mul] at h9; exact h9
    simp only [wp_bind']
    refine zz_mk1 (by rw [f3]; exact hk1) hkind1 hy hl1 hh1 hdf (by rw [f1]; omega) (by rw [f4]; omega) (fun acts3 => ?_)
    simp only [wp_bind', W.writeLoc, wp_pure']
    refine ⟨zz_mO c0 x.toNatClampNeg s.heap.size z, ?_, (fun h => by cases h), ?_, ?_, hnext _ _ _ ⟨z + 1, by omega, hrest, ?_⟩⟩
    · show ((zz_mS s c0 c1 x.toNatClampNeg y.toNatClampNeg (defaultValue ty) z).heap.push _)[s.heap.size]? = _
      rw [Array.getElem?_push, if_neg (by omega)]
      exact f2
    · unfold zz_mO
      rw [arrV_size]; exact hlt
    · show State.fitsSlot _ c0 .none _ _ = true
      simp [State.fitsSlot, State.slotType?, f3, hk0, hkind0]
      rfl
    · rw [f1, zz_mO_step]; rfl
  · rintro s' d' acts'' ⟨i, hi, -, rfl⟩
    have hi9 : i = x.toNatClampNeg := by simpa using hi
    subst hi9
    simp only [wp_pure']
    exact hq _ _
end ZZW
section ZZV
variable {p : Program} {l : Launch} {e : Env} {R : Room} {s : State} {m : MethodId} {args : Array Value} {below : List Frame} {meth : Method} {c : Code} {H : Heap} {locs : List Loc} {cells slots : Nat} {Qt : State → Prop}
variable {cc : ByteArray} {pc : Nat} {ls : Array Slot} {rest : List Value}
theorem zz_mS_X {T : State} (X : Stand p l e R s m args below meth c T locs cells slots) (cO cI : ClassId) (n q : Nat) (v : Value) : ∀ i, Stand p l e R s m args below meth c (zz_mS T cO cI n q v i) (locs ++ (List.range i).map (fun j => (⟨T.heap.size, j⟩ : Loc))) (cells + 1 + i) (slots + n + i * q) := by
  intro i
  induction i with
  | zero =>
    have h := X.pushed (zz_mO cO n T.heap.size 0)
    rw [show (zz_mO cO n T.heap.size 0).slots.size = n from arrV_size _ _ _] at h
    simpa [zz_mS] using h
  | succ i ih =>
    obtain ⟨f1, f2, -, -, -, -⟩ := zz_mS_f T cO cI n q v i
    have hcell : ((zz_mS T cO cI n q v i).pushCell (arrV cI q (fun _ => v))).heap[T.heap.size]? = some (zz_mO cO n T.heap.size i) := by
      show ((zz_mS T cO cI n q v i).heap.push _)[T.heap.size]? = _
      rw [Array.getElem?_push, if_neg (by omega)]
      exact f2
    have h := (ih.pushed (arrV cI q (fun _ => v))).stored hcell i (.ref (T.heap.size + 1 + i))
    rw [zz_mO_step, show (arrV cI q (fun _ => v)).slots.size = q from arrV_size _ _ _] at h
    rw [List.range_succ, List.map_append, ← List.append_assoc, show slots + n + (i + 1) * q = slots + n + i * q + q from by rw [Nat.succ_mul]; omega]
    exact h
theorem zz_manew (hexec : p.tables.exec = Jvm.exec) (hb : c.code = cc) {own : String} {idx : Nat} {ty : FieldType} (hown : s.vm.findClass own = some m.cls) (hclink : (Cond.classLink own idx ("[" ++ (FieldType.array ty).toString)).before args s = true) (hover : (Cond.arrayOver (.array ty)).before args s = true) (harr : (Cond.arrayClass ty).before args s = true)
    (hdg : decode cc pc = .ok (.multianewarray idx 2, 4)) {x y : Int32} {n q : Nat} (hx : ¬ x < 0) (hy : ¬ y < 0) (hn : x.toNatClampNeg = n) (hq : y.toNatClampNeg = q) (hn2 : n ≤ 100000) (hq2 : q ≤ 100000) (hcb : componentBytes ty ≤ 8) (hdf : fits ty (defaultValue ty) = true) (hcells : cells + (1 + n) ≤ R.cells) (hslots : slots + (n + n * q) ≤ R.slots)
    (kk : ∀ (H1 : Heap) (cO cI : ClassId), s.vm.findClass ("[" ++ (FieldType.array ty).toString) = some cO → s.vm.findClass (FieldType.array ty).toString = some cI → H1.size = H.size + 1 + n → H1[H.size]? = some (arrV cO n (fun j => if j < n then .ref (H.size + 1 + j) else .null)) → (∀ j : Nat, j < n → H1[H.size + 1 + j]? = some (arrV cI q (fun _ => defaultValue ty))) → (∀ a : Nat, a < H.size → H1[a]? = H[a]?) →
      W p l e R s m args below meth c H1 (locs ++ (List.range n).map (fun j => (⟨H.size, j⟩ : Loc))) (cells + 1 + n) (slots + n + n * q) Qt (F0 m (pc + 4) ls (.ref H.size :: rest))) : W p l e R s m args below meth c H locs cells slots Qt (F0 m pc ls (.int y :: .int x :: rest)) := by
  subst hn
  subst hq
  intro T hT X
  subst hT
  have hpl : e.platform.magicAccessors = ({} : Platform).magicAccessors := by rw [X.admits.platform]
  obtain ⟨c1, c0, k0, hc1, -, hk0, hkind0, hname0⟩ := arrayOverA_spec hover
  obtain ⟨c1', k1, c2, hc1', hk1, hkind1⟩ := Cond.arrayClass_spec harr
  have e1 : c1' = c1 := Option.some.inj (hc1'.symm.trans hc1)
  subst e1
  obtain ⟨c9, hf9, hcl⟩ := Cond.classLink_spec hown hclink e.platform hpl
  cases hname0.symm.trans hf9
  obtain ⟨hg₁, hwarm₁, hready₁⟩ := State.classEntry (e := e) X.warmed hcl
  generalize T.vm.noted m.cls idx (.cls c0) = vm₁ at hg₁ hwarm₁ hready₁
  have hal : s.vm.Alike vm₁ := hwarm₁.alike
  obtain ⟨k0', hk0', he0⟩ := hal.2.2 _ _ hk0
  obtain ⟨k1', hk1', he1⟩ := hal.2.2 _ _ hk1
  have hkind0' : k0'.kind = .array c1' (.array ty) := by rw [he0]; exact hkind0
  have hkind1' : k1'.kind = .array c2 ty := by rw [he1]; exact hkind1
  have XF := zz_mS_X (X.noted hwarm₁) c0 c1' x.toNatClampNeg y.toNatClampNeg (defaultValue ty) x.toNatClampNeg
  obtain ⟨f1, f2, -, -, f5, f6⟩ := zz_mS_f (T.setVm vm₁) c0 c1' x.toNatClampNeg y.toNatClampNeg (defaultValue ty) x.toNatClampNeg
  obtain ⟨hr1, hr2⟩ := X.roomAbove hcells hslots
  obtain ⟨t', a1, b1⟩ := kk _ c0 c1' hname0 hc1 f1 f2 f6 f5 _ rfl XF
  refine ⟨t', ?_, b1⟩
  have hl0 : ¬ x.toNatClampNeg > e.platform.arrayLengthLimit := by rw [Launch.admits_arrayLengthLimit X.admits]; omega
  have hh0 : ¬ x.toNatClampNeg * componentBytes (.array ty) > e.platform.maxHeapBytes := by
    rw [Launch.admits_maxHeapBytes X.admits]; show ¬ x.toNatClampNeg * 4 > 536870912; omega
  have hl1 : ¬ y.toNatClampNeg > e.platform.arrayLengthLimit := by rw [Launch.admits_arrayLengthLimit X.admits]; omega
  have hh1 : ¬ y.toNatClampNeg * componentBytes ty > e.platform.maxHeapBytes := by
    rw [Launch.admits_maxHeapBytes X.admits]
    have h9 := Nat.mul_le_mul hq2 hcb
    omega
  subst hb
  jvm_step X.here [hexec, hdg]
  simp only [multianewarray.sem, wp_bind', W.resolveClassAt_links (State.method?_setTop (F0 m pc ls (.int y :: .int x :: rest)) X.here.top) hg₁]
  rw [W.popN, if_neg (by decide)]
  refine ⟨_, State.topJava?_setTop' (s := T.setVm vm₁) (F0 m pc ls (.int y :: .int x :: rest)) X.here.top, [.int x, .int y], rest, rfl, rfl, ?_⟩
  simp only [List.mapM_cons, List.mapM_nil, wp_bind', wp_pure']
  refine zz_mk2 hk0' hkind0' hk1' hkind1' hx hy hl0 hh0 hl1 hh1 hdf (by show T.heap.size + 1 + _ ≤ _; omega) (by show T.slotsUsed + _ + _ ≤ _; omega) (fun d' acts' => ?_)
  have eS : ((T.setTop (F0 m pc ls (.int y :: .int x :: rest))).setVm vm₁).setTop (F0 m pc ls rest) = (T.setVm vm₁).setTop (F0 m pc ls rest) := by
    show ((T.setVm vm₁).setTop _).setTop _ = _
    rw [State.setTop_setTop]
  show wp _ _ _ _ _ _ (zz_mS (((T.setTop (F0 m pc ls (.int y :: .int x :: rest))).setVm vm₁).setTop (F0 m pc ls rest)) _ _ _ _ _ _)
  rw [eS, zz_mS_top]
  simp only [wp_bind', W.mark, W.pushRef, State.topJava?_setTop' _ XF.here.top, Option.some.injEq, exists_eq_left', State.setTop_setTop, State.heap_setTop]
  intro acts
  simp [jvm, XF.here.top]
  exact a1
end ZZV
end
section
/-! ===== constructors run: a small machine over lists, and that it is right ===== -/
theorem zz_ws_apps {cA : Nat → ClassId} {b : Nat} {ex : Nat → Nat} {σ : zz_St} {xs : List zz_SK} : zz_ws cA b ex (σ.1 ++ xs, σ.2) = zz_ws cA b ex σ ++ xs.mapIdx (fun i x => (b + (i + σ.1.length), zz_e cA b ex (σ.2.1 (i + σ.1.length)) (σ.2.2 (i + σ.1.length)) x)) := by
  simp [zz_ws, List.mapIdx_append]
theorem zz_R.apps {D : va_G} {cA : Nat → ClassId} {b : Nat} {ex : Nat → Nat} {σ : zz_St} {H0 H H1 : Heap} {locs locs1 : List Loc} {xs : List zz_SK} (hR : zz_R D cA b ex σ H0 H locs) (hl : σ.1.length + xs.length < 100000) (z : H1.size = H.size + xs.length) (o : ∀ q : Nat, q < H.size → H1[q]? = H[q]?) (hl1 : ∀ q ∈ locs1, b ≤ q.base)
    (hx : ∀ (i : Nat) (x : zz_SK), xs[i]? = some x → va_at D zz_cl (H.size + i, zz_e cA b ex (σ.2.1 (i + σ.1.length)) (σ.2.2 (i + σ.1.length)) x) H1) : zz_R D cA b ex (σ.1 ++ xs, σ.2) H0 H1 (locs ++ locs1) := by
  obtain ⟨z1, z2, z3, z4⟩ := hR
  refine ⟨by rw [z, z1]; simp; omega, by simpa using hl, ?_, ⟨Nat.le_trans z4.1 (by omega), fun q h1 h2 => (o q (Nat.lt_of_lt_of_le h1 z4.1)).trans (z4.2.1 q h1 h2), fun q hq => ?_⟩⟩
  · rw [zz_ws_apps]
    refine (z3.kept (fun k q hq => o q.1 ((z3 k q hq).lt))).app (fun k q hq => ?_)
    rw [List.getElem?_mapIdx] at hq
    obtain ⟨x, hx1, rfl⟩ := Option.map_eq_some_iff.mp hq
    have h9 := hx k x hx1
    rw [z1, Nat.add_assoc, Nat.add_comm σ.1.length k] at h9
    exact h9
  · rcases List.mem_append.mp hq with h | h
    · exact z4.2.2 q h
    · exact hl1 q h
def zz_mty (tg : Nat) : FieldType := if tg = 0 then .int else .long
section ZZA
variable {sc : Nat × (Nat → Int32)} {d mc ms : Nat} {M : zz_MD} {pc : Nat} {L : List (Option Value)} {S : List Value} {σ : zz_St} {Q : Option Value → zz_St → Prop}
theorem Ev.manew {tg n q idx : Nat} {x y : Int32} (hd : decode M.2.1 pc = .ok (.multianewarray idx 2, 4)) (htg : tg < 2) (w1 : Cond.classLink M.1.cls idx ("[" ++ (FieldType.array (zz_mty tg)).toString) ∈ zz_WG) (hx0 : ¬ x < 0) (hy0 : ¬ y < 0) (hn : x.toNatClampNeg = n) (hq : y.toNatClampNeg = q) (hn2 : n ≤ 100000) (hq2 : q ≤ 100000) (hl : σ.1.length + (1 + n) < 100000) (hz : ∀ k, σ.1.length ≤ k → ∀ j, σ.2.1 k j = 0) (hzJ : ∀ k, σ.1.length ≤ k → ∀ j, σ.2.2 k j = 0)
    (kk : Ev sc d mc ms M (pc + 4) L (.ref σ.1.length :: S) (σ.1 ++ (.inr (tg + 5, n, (List.range n).map (fun j => some (σ.1.length + 1 + j))) :: List.replicate n (.inr (tg, q, []))), σ.2) Q) : Ev sc d (1 + n + mc) (n + n * q + ms) M pc L (.int y :: .int x :: S) σ Q := by
  intro p l e R s m args below meth c D cA b ex H locs cells slots Qt ls hC hR hL hf1 hlo hce hsl hret
  have hC' := hC
  obtain ⟨hx, hb, hml, hown, hts, hK, hX, hbl, hnm⟩ := hC
  have hover : (Cond.arrayOver (.array (zz_mty tg))).before args s = true := by
    rcases (show tg = 0 ∨ tg = 1 by omega) with rfl | rfl
    · exact zz_ao (Vm.Alike.refl _) (hK.2 (.arrayOver (.array .int)) (by decide +kernel))
    · exact zz_ao (Vm.Alike.refl _) (hK.2 (.arrayOver (.array .long)) (by decide +kernel))
  have harr : Cond.arrayClass (zz_mty tg) ∈ zz_WG := by
    rcases (show tg = 0 ∨ tg = 1 by omega) with rfl | rfl <;> decide +kernel
  have hcb : componentBytes (zz_mty tg) ≤ 8 := by
    rcases (show tg = 0 ∨ tg = 1 by omega) with rfl | rfl <;> decide
  have hdf : fits (zz_mty tg) (defaultValue (zz_mty tg)) = true := by
    rcases (show tg = 0 ∨ tg = 1 by omega) with rfl | rfl <;> rfl
  show W p l e R s m args below meth c H locs cells slots Qt (F0 m pc ls (.int y :: .int x :: S.map (zz_tr b ex)))
  refine zz_manew hx hb hown (hts _ w1) hover (hts _ harr) hd hx0 hy0 hn hq hn2 hq2 hcb hdf (by omega) (by omega) (fun H1 cO cI f1 f2 z1 g1 g2 o1 => ?_)
  have hcO : cO = cA (tg + 5) := by
    rcases (show tg = 0 ∨ tg = 1 by omega) with rfl | rfl
    · exact Option.some.inj (f1.symm.trans (hK.1.2 5 _ rfl).2)
    · exact Option.some.inj (f1.symm.trans (hK.1.2 6 _ rfl).2)
  have hcI : cI = cA tg := by
    rcases (show tg = 0 ∨ tg = 1 by omega) with rfl | rfl
    · exact Option.some.inj (f2.symm.trans (hK.1.2 0 _ rfl).2)
    · exact Option.some.inj (f2.symm.trans (hK.1.2 1 _ rfl).2)
  subst hcO
  subst hcI
  have hR1 : zz_R D cA b ex (σ.1 ++ (.inr (tg + 5, n, (List.range n).map (fun j => some (σ.1.length + 1 + j))) :: List.replicate n (.inr (tg, q, []))), σ.2) s.heap H1 (locs ++ (List.range n).map (fun j => (⟨H.size, j⟩ : Loc))) := by
    refine hR.apps (by simp; omega) (by rw [z1]; simp; omega) o1 (fun q hq => ?_) (fun i x hi => ?_)
    · obtain ⟨j, -, rfl⟩ := List.mem_map.mp hq
      show b ≤ H.size
      rw [hR.1]; omega
    · cases i with
      | zero =>
        cases hi
        have e2 : (fun j => va_rf ((((List.range n).map (fun j => some (σ.1.length + 1 + j)))[j]?.join).map (zz_ad b ex))) = (fun j => if j < n then Value.ref (H.size + 1 + j) else Value.null) := by
          funext j
          rw [List.getElem?_map]
          by_cases h : j < n
          · rw [if_pos h, List.getElem?_range h]
            show Value.ref (zz_ad b ex (σ.1.length + 1 + j)) = _
            have h8 : b + (σ.1.length + 1 + j) = H.size + 1 + j := by rw [hR.1]; omega
            rw [show zz_ad b ex (σ.1.length + 1 + j) = b + (σ.1.length + 1 + j) from if_pos (by omega), h8]
          · rw [if_neg h, List.getElem?_eq_none (by simp; omega)]
            rfl
        show H1[H.size + 0]? = some (vp_cell _ _)
        rw [Nat.add_zero, g1]
        rcases (show tg = 0 ∨ tg = 1 by omega) with rfl | rfl
        · show _ = some (arrV (cA 5) n (fun j => va_rf ((((List.range n).map (fun j => some (σ.1.length + 1 + j)))[j]?.join).map (zz_ad b ex))))
          rw [e2]
        · show _ = some (arrV (cA 6) n (fun j => va_rf ((((List.range n).map (fun j => some (σ.1.length + 1 + j)))[j]?.join).map (zz_ad b ex))))
          rw [e2]
      | succ i =>
        rw [List.getElem?_cons_succ, List.getElem?_replicate] at hi
        split at hi
        · next hin =>
          cases hi
          show H1[H.size + (i + 1)]? = some (vp_cell _ _)
          rw [show H.size + (i + 1) = H.size + 1 + i by omega, g2 i hin]
          rcases (show tg = 0 ∨ tg = 1 by omega) with rfl | rfl
          · show some _ = some (arrV (cA 0) q (fun j => .int (σ.2.1 (i + 1 + σ.1.length) j)))
            simp only [hz _ (show σ.1.length ≤ i + 1 + σ.1.length by omega)]; rfl
          · show some _ = some (arrV (cA 1) q (fun j => .long (σ.2.2 (i + 1 + σ.1.length) j)))
            simp only [hzJ _ (show σ.1.length ≤ i + 1 + σ.1.length by omega)]; rfl
        · cases hi
  have K := kk p l e R s m args below meth c D cA b ex H1 _ (cells + 1 + n) (slots + n + n * q) Qt ls hC' hR1 hL hf1 hlo (by omega) (by omega) (fun pc' ls' r' σ'' H' locs' cells' slots' a1 a2 a3 a4 a5 => hret pc' ls' r' σ'' H' locs' cells' slots' a1 a2 (by omega) (by omega) a5)
  rw [zz_new_ref hR.1 (by omega)] at K
  exact K
end ZZA
/-! the numbers, as rows of rows -/
def zz_pl {α : Type} (z : α) : List α → Nat → α → List α
  | [], 0, v => [v]
  | [], n + 1, v => z :: zz_pl z [] n v
  | _ :: t, 0, v => v :: t
  | a :: t, n + 1, v => a :: zz_pl z t n v
theorem zz_pl_nil {α : Type} (z v : α) : ∀ (n i : Nat), (zz_pl z [] n v).getD i z = if i = n then v else z := by
  intro n
  induction n with
  | zero => intro i; cases i <;> simp [zz_pl]
  | succ n ih =>
    intro i
    cases i with
    | zero => simp [zz_pl]
    | succ i => simp only [zz_pl, List.getD_cons_succ, ih, Nat.add_right_cancel_iff]
theorem zz_pl_at {α : Type} (z v : α) : ∀ (l : List α) (n i : Nat), (zz_pl z l n v).getD i z = if i = n then v else l.getD i z := by
  intro l
  induction l with
  | nil => intro n i; rw [zz_pl_nil]; simp
  | cons a t ih =>
    intro n i
    cases n with
    | zero => cases i <;> simp [zz_pl]
    | succ n =>
      cases i with
      | zero => simp [zz_pl]
      | succ i => simp only [zz_pl, List.getD_cons_succ, ih, Nat.add_right_cancel_iff]
def zz_D (dt : List (List Int32)) : Nat → Nat → Int32 := fun k j => (dt.getD k []).getD j 0
def zz_pD (dt : List (List Int32)) (k j : Nat) (v : Int32) : List (List Int32) := zz_pl [] dt k (zz_pl 0 (dt.getD k []) j v)
def zJ0 : Nat → Nat → Int64 := fun _ _ => 0
theorem zz_pD_ok (dt : List (List Int32)) (k j : Nat) (v : Int32) : zz_D (zz_pD dt k j v) = zz_up (zz_D dt) k j v := by
  funext a i
  show ((zz_pl [] dt k (zz_pl 0 (dt.getD k []) j v)).getD a []).getD i 0 = _
  rw [zz_pl_at]
  by_cases h : a = k
  · subst h
    rw [if_pos rfl, zz_pl_at, zz_up_eq]
    rfl
  · rw [if_neg h, zz_up_ne h]
    rfl
def zz_fit (SH : List zz_SK) (dt : List (List Int32)) (m : Nat) : Bool := Nat.ble dt.length SH.length && Nat.blt (SH.length + m) 100000
theorem zz_fit_ok {SH : List zz_SK} {dt : List (List Int32)} {m : Nat} (h : zz_fit SH dt m = true) : SH.length + m < 100000 ∧ ∀ k, SH.length ≤ k → ∀ j, zz_D dt k j = 0 := by
  unfold zz_fit at h
  rw [Bool.and_eq_true] at h
  refine ⟨Nat.le_of_ble_eq_true h.2, fun k hk j => ?_⟩
  have h1 := Nat.le_of_ble_eq_true h.1
  show (dt.getD k []).getD j 0 = 0
  rw [List.getD_eq_getElem?_getD (l := dt), List.getElem?_eq_none (by omega)]
  simp
/-! the tables of its links -/
def zz_tb {α : Type} (T : List (List (Nat × α))) (oc idx : Nat) : Option α := (T.getD oc []).lookup idx
theorem zz_tb_ok {α : Type} {T : List (List (Nat × α))} {P : Nat → Nat → α → Bool} (hall : (List.range 9).all (fun oc => (T.getD oc []).all (fun q => P oc q.1 q.2)) = true) (hl : T.length ≤ 9) {oc idx : Nat} {v : α} (h : zz_tb T oc idx = some v) : P oc idx v = true := by
  have hm := zz_lookup_mem h
  by_cases ho : oc < 9
  · exact List.all_eq_true.mp (List.all_eq_true.mp hall oc (List.mem_range.mpr ho)) (idx, v) hm
  · have : T.getD oc [] = [] := by
      rw [List.getD_eq_getElem?_getD, List.getElem?_eq_none (by omega)]; rfl
    rw [this] at hm
    cases hm
def zz_nw : List (List (Nat × Nat)) := [[(21, 4)], [], [(9, 4)], [(29, 4)], [], [], [(7, 4), (18, 2), (33, 1), (40, 3), (47, 0)], [], [(7, 5), (10, 6)]]
theorem zz_nw_all : (List.range 9).all (fun oc => (zz_nw.getD oc []).all (fun q => decide (q.2 < 7) && (decide (Cond.classLink (zz_cn oc) q.1 (zz_Rn q.2) ∈ zz_WG) && (decide (Cond.instantiable (zz_Rn q.2) (zz_Nn q.2) ∈ zz_WG) && decide (Cond.initialized (zz_Rn q.2) ∈ zz_WG))))) = true := by decide +kernel
theorem zz_nw_ok {oc idx ci : Nat} (h : zz_tb zz_nw oc idx = some ci) : ci < 7 ∧ Cond.classLink (zz_cn oc) idx (zz_Rn ci) ∈ zz_WG ∧ Cond.instantiable (zz_Rn ci) (zz_Nn ci) ∈ zz_WG ∧ Cond.initialized (zz_Rn ci) ∈ zz_WG := by
  have h1 := zz_tb_ok (P := fun oc idx ci => decide (ci < 7) && (decide (Cond.classLink (zz_cn oc) idx (zz_Rn ci) ∈ zz_WG) && (decide (Cond.instantiable (zz_Rn ci) (zz_Nn ci) ∈ zz_WG) && decide (Cond.initialized (zz_Rn ci) ∈ zz_WG)))) zz_nw_all (by decide) h
  simpa only [Bool.and_eq_true, decide_eq_true_eq] using h1
def zz_nq : List (List (Nat × Nat)) := [[], [], [(9, 3)], [], [], [], [(18, 4)], [], []]
theorem zz_nq_all : (List.range 9).all (fun oc => (zz_nq.getD oc []).all (fun q => decide (q.2 = 3 ∨ q.2 = 4) && decide (Cond.classLink (zz_cn oc) q.1 (zz_Rn (zz_qc q.2)) ∈ zz_WG))) = true := by decide +kernel
theorem zz_nq_ok {oc idx tg : Nat} (h : zz_tb zz_nq oc idx = some tg) : (tg = 3 ∨ tg = 4) ∧ Cond.classLink (zz_cn oc) idx (zz_Rn (zz_qc tg)) ∈ zz_WG := by
  have h1 := zz_tb_ok (P := fun oc idx tg => decide (tg = 3 ∨ tg = 4) && decide (Cond.classLink (zz_cn oc) idx (zz_Rn (zz_qc tg)) ∈ zz_WG)) zz_nq_all (by decide) h
  simpa only [Bool.and_eq_true, decide_eq_true_eq] using h1
def zz_nm : List (List (Nat × Nat)) := [[(9, 0), (16, 1)], [], [(27, 0)], [(15, 0)], [], [], [], [], []]
theorem zz_nm_all : (List.range 9).all (fun oc => (zz_nm.getD oc []).all (fun q => decide (q.2 < 2) && decide (Cond.classLink (zz_cn oc) q.1 ("[" ++ (FieldType.array (zz_mty q.2)).toString) ∈ zz_WG))) = true := by decide +kernel
theorem zz_nm_lk {oc idx tg : Nat} (h : zz_tb zz_nm oc idx = some tg) : tg < 2 ∧ Cond.classLink (zz_cn oc) idx ("[" ++ (FieldType.array (zz_mty tg)).toString) ∈ zz_WG := by
  have h1 := zz_tb_ok (P := fun oc idx tg => decide (tg < 2) && decide (Cond.classLink (zz_cn oc) idx ("[" ++ (FieldType.array (zz_mty tg)).toString) ∈ zz_WG)) zz_nm_all (by decide) h
  simpa only [Bool.and_eq_true, decide_eq_true_eq] using h1
/-! the constructors, by number -/
def zz_cm (mi : Nat) : zz_MD := match mi with
  | 1 => mX4_init
  | 2 => mX2_init
  | 3 => mX1_init
  | 4 => mX3_init
  | 5 => mX0_init
  | 6 => mX6_init
  | _ => mX7_init
def zz_np (mi : Nat) : Nat := if mi = 1 then 1 else 0
def zz_so2 : List (List (Nat × Nat)) := [[(3, 0), (23, 1)], [(3, 0)], [(3, 0), (41, 1)], [(3, 0), (31, 1)], [(3, 0)], [], [(1, 0), (11, 1), (20, 2), (35, 3), (42, 4), (49, 5)], [(1, 0)], [(9, 6), (12, 7)]]
def zz_cw (oc idx mi : Nat) : Bool := match mi with
  | 0 => decide (Cond.methodLink (zz_cn oc) idx Lib.objectInit ∈ zz_WG)
  | mi => decide (Cond.methodLink (zz_cn oc) idx (zz_cm mi).1 ∈ zz_WG) || decide (Cond.methodLinkNest (zz_cn oc) idx (zz_cm mi).1 "SaidAlready" ∈ zz_nest)
theorem zz_so2_all : (List.range 9).all (fun oc => (zz_so2.getD oc []).all (fun q => zz_cw oc q.1 q.2)) = true := by decide +kernel
theorem zz_so2_ok {oc idx mi : Nat} (h : zz_tb zz_so2 oc idx = some mi) : zz_cw oc idx mi = true := zz_tb_ok (P := zz_cw) zz_so2_all (by decide) h
theorem zz_cm_all : (List.range 8).all (fun mi => decide ((zz_cm mi).2.2.2.1 = none) && (decide (Cond.code (zz_cm mi).1 (zz_cm mi).2.1 (zz_cm mi).2.2.1 (zz_cm mi).2.2.2.1 ∈ zz_WG) && (decide (Cond.initialized (zz_cm mi).1.cls ∈ zz_WG) && (decide ((zz_cm mi).1.cls ≠ "java/lang/invoke/MethodHandle" ∧ (zz_cm mi).1.cls ≠ "java/lang/invoke/VarHandle" ∧ (parseMethodDescriptor (zz_cm mi).1.desc).map (fun d => d.parameters.length) = some (zz_np mi)) && (decide ((zz_cm mi).2.2.1 ≤ 17) && (decide (Cond.instanceMethod (zz_cm mi).1 ∈ zz_WG) && (decide ((zz_cm mi).1.name = "<init>") && (decide ((zz_cm mi).1.cls = zz_cn (zz_cm mi).2.2.2.2) && (plainName (zz_cm mi).1.cls && decide (2 ≤ (zz_cm mi).2.2.1 + (1 - zz_np mi)))))))))))  = true := by decide +kernel
theorem zz_cm_ge {mi : Nat} (h : 7 ≤ mi) : zz_cm mi = mX7_init ∧ zz_np mi = 0 := by
  refine ⟨?_, if_neg (by omega)⟩
  unfold zz_cm
  split <;> first | omega | rfl
theorem zz_cm_ok (mi : Nat) : (zz_cm mi).2.2.2.1 = none ∧ Cond.code (zz_cm mi).1 (zz_cm mi).2.1 (zz_cm mi).2.2.1 (zz_cm mi).2.2.2.1 ∈ zz_WG ∧ Cond.initialized (zz_cm mi).1.cls ∈ zz_WG ∧ ((zz_cm mi).1.cls ≠ "java/lang/invoke/MethodHandle" ∧ (zz_cm mi).1.cls ≠ "java/lang/invoke/VarHandle" ∧ (parseMethodDescriptor (zz_cm mi).1.desc).map (fun d => d.parameters.length) = some (zz_np mi)) ∧ (zz_cm mi).2.2.1 ≤ 17 ∧ Cond.instanceMethod (zz_cm mi).1 ∈ zz_WG ∧ (zz_cm mi).1.name = "<init>" ∧ (zz_cm mi).1.cls = zz_cn (zz_cm mi).2.2.2.2 ∧ plainName (zz_cm mi).1.cls = true ∧ 2 ≤ (zz_cm mi).2.2.1 + (1 - zz_np mi) := by
  by_cases h : mi < 8
  · have h1 := List.all_eq_true.mp zz_cm_all mi (List.mem_range.mpr h)
    simpa only [Bool.and_eq_true, decide_eq_true_eq] using h1
  · have h1 := List.all_eq_true.mp zz_cm_all 7 (List.mem_range.mpr (by decide))
    obtain ⟨e1, e2⟩ := zz_cm_ge (mi := mi) (by omega)
    rw [e1, e2]
    simp only [Bool.and_eq_true, decide_eq_true_eq] at h1
    exact h1
/-! one instruction -/
abbrev zz_cf : Type := Nat × List (Option Value) × List Value × List zz_SK × List (List Int32) × Nat × Nat
def zz_gd {α : Type} (b : Bool) (x : α) : Option α := match b with
  | true => some x
  | false => none
theorem zz_gd_some {α : Type} {b : Bool} {x y : α} (h : zz_gd b x = some y) : b = true ∧ x = y := by
  cases b
  · cases h
  · exact ⟨rfl, Option.some.inj h⟩
def zz_xNew (oc idx n pc : Nat) (L : List (Option Value)) (S : List Value) (SH : List zz_SK) (dt : List (List Int32)) : Option zz_cf := match zz_tb zz_nw oc idx with
  | some ci => zz_gd (Nat.beq n 3 && zz_fit SH dt 1) (pc + 3, L, .ref SH.length :: S, SH ++ [.inl (ci, zz_df ci)], dt, 1, zz_Nn ci)
  | none => none
def zz_ta (a : ArrayType) : Option Nat := match a with
  | .int => some 0
  | .long => some 1
  | .boolean => some 2
  | _ => none
def zz_xNewa (a : ArrayType) (n pc : Nat) (L : List (Option Value)) (S : List Value) (SH : List zz_SK) (dt : List (List Int32)) : Option zz_cf := match S with
  | .int x :: r => match zz_ta a with
    | some tg => zz_gd (Nat.beq n 2 && (zz_fit SH dt 1 && (!(decide (x < 0)) && Nat.ble x.toNatClampNeg 100000))) (pc + 2, L, .ref SH.length :: r, SH ++ [.inr (tg, x.toNatClampNeg, [])], dt, 1, x.toNatClampNeg)
    | none => none
  | _ => none
def zz_xNewq (oc idx n pc : Nat) (L : List (Option Value)) (S : List Value) (SH : List zz_SK) (dt : List (List Int32)) : Option zz_cf := match S with
  | .int x :: r => match zz_tb zz_nq oc idx with
    | some tg => zz_gd (Nat.beq n 3 && (zz_fit SH dt 1 && (!(decide (x < 0)) && Nat.ble x.toNatClampNeg 100000))) (pc + 3, L, .ref SH.length :: r, SH ++ [.inr (tg, x.toNatClampNeg, List.replicate x.toNatClampNeg none)], dt, 1, x.toNatClampNeg)
    | none => none
  | _ => none
def zz_xMan (oc idx dim n pc : Nat) (L : List (Option Value)) (S : List Value) (SH : List zz_SK) (dt : List (List Int32)) : Option zz_cf := match S with
  | .int y :: .int x :: r => match zz_tb zz_nm oc idx with
    | some tg => zz_gd (Nat.beq n 4 && (Nat.beq dim 2 && (zz_fit SH dt (1 + x.toNatClampNeg) && (!(decide (x < 0)) && (!(decide (y < 0)) && (Nat.ble x.toNatClampNeg 100000 && Nat.ble y.toNatClampNeg 100000)))))) (pc + 4, L, .ref SH.length :: r, SH ++ (.inr (tg + 5, x.toNatClampNeg, (List.range x.toNatClampNeg).map (fun j => some (SH.length + 1 + j))) :: List.replicate x.toNatClampNeg (.inr (tg, y.toNatClampNeg, []))), dt, 1 + x.toNatClampNeg, x.toNatClampNeg + x.toNatClampNeg * y.toNatClampNeg)
    | none => none
  | _ => none
def zz_oci (ci : Nat) : Nat := if ci < 5 then ci else ci + 1
def zz_isN (x : Option (Option (Option Nat))) : Bool := match x with
  | some (some none) => true
  | _ => false
def zz_isI (x : Option (Option (Option Nat))) : Bool := match x with
  | some none => true
  | _ => false
def zz_xPut (oc idx n pc : Nat) (L : List (Option Value)) (S : List Value) (SH : List zz_SK) (dt : List (List Int32)) : Option zz_cf := match S with
  | .ref q :: .ref k :: r => match zz_fl oc idx, SH[k]? with
    | some (ci, j), some (.inl o) => zz_gd (Nat.beq n 3 && (Nat.beq ci o.1 && (Nat.beq oc (zz_oci ci) && (zz_isN ((zz_df ci)[j]?) && zz_isN (o.2[j]?))))) (pc + 3, L, r, SH.set k (.inl (ci, o.2.set j (some (some q)))), dt, 0, 0)
    | _, _ => none
  | .int v :: .ref k :: r => match zz_fl oc idx, SH[k]? with
    | some (ci, j), some (.inl o) => zz_gd (Nat.beq n 3 && (Nat.beq ci o.1 && (zz_isI ((zz_df ci)[j]?) && zz_isI (o.2[j]?)))) (pc + 3, L, r, SH, zz_pD dt k j v, 0, 0)
    | _, _ => none
  | _ => none
def zz_xAst (n pc : Nat) (L : List (Option Value)) (S : List Value) (SH : List zz_SK) (dt : List (List Int32)) : Option zz_cf := match S with
  | .ref q :: .int i :: .ref k :: r => match SH[k]?, SH[q]? with
    | some (.inr a), some (.inl o) => zz_gd (Nat.beq n 1 && (!(decide (i < 0)) && (Nat.blt i.toNatClampNeg a.2.1 && (Nat.beq o.1 (zz_qc a.1) && ((Nat.beq a.1 3 || Nat.beq a.1 4) && Nat.beq a.2.2.length a.2.1))))) (pc + 1, L, r, SH.set k (.inr (a.1, a.2.1, a.2.2.set i.toNatClampNeg (some q))), dt, 0, 0)
    | _, _ => none
  | _ => none
def zz_xIst (n pc : Nat) (L : List (Option Value)) (S : List Value) (SH : List zz_SK) (dt : List (List Int32)) : Option zz_cf := match S with
  | .int v :: .int i :: .ref k :: r => match SH[k]? with
    | some (.inr a) => zz_gd (Nat.beq n 1 && (!(decide (i < 0)) && (Nat.blt i.toNatClampNeg a.2.1 && Nat.beq a.1 0))) (pc + 1, L, r, SH, zz_pD dt k i.toNatClampNeg v, 0, 0)
    | _ => none
  | _ => none
def zz_xGo (off : Int) (n pc : Nat) (L : List (Option Value)) (S : List Value) (SH : List zz_SK) (dt : List (List Int32)) : Option zz_cf :=
  zz_gd (Nat.beq n 3 && decide ((pc : Int) + off = (((pc : Int) + off).toNat : Int))) (((pc : Int) + off).toNat, L, S, SH, dt, 0, 0)
def zz_xIge (off : Int) (n pc : Nat) (L : List (Option Value)) (S : List Value) (SH : List zz_SK) (dt : List (List Int32)) : Option zz_cf := match S with
  | .int y :: .int x :: r => zz_gd (Nat.beq n 3 && decide ((pc : Int) + off = (((pc : Int) + off).toNat : Int))) (if y ≤ x then (((pc : Int) + off).toNat, L, r, SH, dt, 0, 0) else (pc + 3, L, r, SH, dt, 0, 0))
  | _ => none
def zz_xFge (off : Int) (n pc : Nat) (L : List (Option Value)) (S : List Value) (SH : List zz_SK) (dt : List (List Int32)) : Option zz_cf := match S with
  | .int x :: r => zz_gd (Nat.beq n 3 && decide ((pc : Int) + off = (((pc : Int) + off).toNat : Int))) (if 0 ≤ x then (((pc : Int) + off).toNat, L, r, SH, dt, 0, 0) else (pc + 3, L, r, SH, dt, 0, 0))
  | _ => none
def zz_xEls (oc : Nat) (i : Instr) (n pc : Nat) (L : List (Option Value)) (S : List Value) (SH : List zz_SK) (dt : List (List Int32)) : Option zz_cf := match zz_stepG oc (SH, zz_D dt, zJ0) i n pc L S with
  | some (pc', L', S') => some (pc', L', S', SH, dt, 0, 0)
  | none => none
def zz_cx (oc : Nat) (i : Instr) (n pc : Nat) (L : List (Option Value)) (S : List Value) (SH : List zz_SK) (dt : List (List Int32)) : Option zz_cf := match i with
  | .new idx => zz_xNew oc idx n pc L S SH dt
  | .newarray a => zz_xNewa a n pc L S SH dt
  | .anewarray idx => zz_xNewq oc idx n pc L S SH dt
  | .multianewarray idx dim => zz_xMan oc idx dim n pc L S SH dt
  | .putfield idx => zz_xPut oc idx n pc L S SH dt
  | .aastore => zz_xAst n pc L S SH dt
  | .iastore => zz_xIst n pc L S SH dt
  | .goto off => zz_xGo off n pc L S SH dt
  | .if_icmp .ge off => zz_xIge off n pc L S SH dt
  | .ifCond .ge off => zz_xFge off n pc L S SH dt
  | i => zz_xEls oc i n pc L S SH dt
theorem zz_pf_all : ∀ ci, ci < 7 → ∀ j, j < zz_Nn ci → (zz_isN ((zz_df ci)[j]?) = true → (zz_Tn ci j).2.2.2 = true ∧ (zz_Tn ci j).1 = zz_cn (zz_oci ci) ∧ (zz_tn ci j).isReference = true) ∧ (zz_isI ((zz_df ci)[j]?) = true → (zz_Tn ci j).2.2 = ("I", false)) := by decide +kernel
theorem zz_isN_ok {x : Option (Option (Option Nat))} (h : zz_isN x = true) : x = some (some none) := by
  unfold zz_isN at h
  split at h
  · rfl
  · cases h
theorem zz_isI_ok {x : Option (Option (Option Nat))} (h : zz_isI x = true) : x = some none := by
  unfold zz_isI at h
  split at h
  · rfl
  · cases h
theorem zz_nlt {x : Int32} (h : (!(decide (x < 0))) = true) : ¬ x < 0 := by
  intro h1
  rw [decide_eq_true h1] at h
  cases h
section ZZX
variable {sc : Nat × (Nat → Int32)} {d mc ms mi : Nat} {pc n : Nat} {L : List (Option Value)} {S : List Value} {SH : List zz_SK} {dt : List (List Int32)} {Q : Option Value → zz_St → Prop} {t : zz_cf}
theorem zz_xNew_ok {idx : Nat} (hd : decode (zz_cm mi).2.1 pc = .ok (.new idx, n)) (h : zz_xNew (zz_cm mi).2.2.2.2 idx n pc L S SH dt = some t) (kk : Ev sc d mc ms (zz_cm mi) t.1 t.2.1 t.2.2.1 (t.2.2.2.1, zz_D t.2.2.2.2.1, zJ0) Q) : Ev sc d (t.2.2.2.2.2.1 + mc) (t.2.2.2.2.2.2 + ms) (zz_cm mi) pc L S (SH, zz_D dt, zJ0) Q := by
  unfold zz_xNew at h
  split at h
  · next ci hci =>
    obtain ⟨h1, rfl⟩ := zz_gd_some h
    rw [Bool.and_eq_true] at h1
    obtain ⟨g1, g2⟩ := zz_fit_ok h1.2
    obtain ⟨w0, w1, w2, w3⟩ := zz_nw_ok hci
    rw [Nat.eq_of_beq_eq_true h1.1] at hd
    exact Ev.new (σ := (SH, zz_D dt, zJ0)) hd w0 (by rw [(zz_cm_ok mi).2.2.2.2.2.2.2.1]; exact w1) w2 w3 g1 (g2 _ (Nat.le_refl _)) kk
  · cases h
theorem zz_xNewa_ok {a : ArrayType} (hd : decode (zz_cm mi).2.1 pc = .ok (.newarray a, n)) (h : zz_xNewa a n pc L S SH dt = some t) (kk : Ev sc d mc ms (zz_cm mi) t.1 t.2.1 t.2.2.1 (t.2.2.2.1, zz_D t.2.2.2.2.1, zJ0) Q) : Ev sc d (t.2.2.2.2.2.1 + mc) (t.2.2.2.2.2.2 + ms) (zz_cm mi) pc L S (SH, zz_D dt, zJ0) Q := by
  unfold zz_xNewa at h
  split at h
  · next x r =>
    split at h
    · next tg htg =>
      obtain ⟨h1, rfl⟩ := zz_gd_some h
      simp only [Bool.and_eq_true] at h1
      obtain ⟨g1, g2⟩ := zz_fit_ok h1.2.1
      rw [Nat.eq_of_beq_eq_true h1.1] at hd
      have ha : tg < 3 ∧ a = zz_at tg := by
        unfold zz_ta at htg
        split at htg <;> first | (cases htg; exact ⟨by decide, rfl⟩) | cases htg
      rw [ha.2] at hd
      exact Ev.newa (σ := (SH, zz_D dt, zJ0)) hd ha.1 (zz_nlt h1.2.2.1) rfl (Nat.le_of_ble_eq_true h1.2.2.2) g1 (g2 _ (Nat.le_refl _)) (fun _ => rfl) kk
    · cases h
  · cases h
theorem zz_xNewq_ok {idx : Nat} (hd : decode (zz_cm mi).2.1 pc = .ok (.anewarray idx, n)) (h : zz_xNewq (zz_cm mi).2.2.2.2 idx n pc L S SH dt = some t) (kk : Ev sc d mc ms (zz_cm mi) t.1 t.2.1 t.2.2.1 (t.2.2.2.1, zz_D t.2.2.2.2.1, zJ0) Q) : Ev sc d (t.2.2.2.2.2.1 + mc) (t.2.2.2.2.2.2 + ms) (zz_cm mi) pc L S (SH, zz_D dt, zJ0) Q := by
  unfold zz_xNewq at h
  split at h
  · next x r =>
    split at h
    · next tg htg =>
      obtain ⟨h1, rfl⟩ := zz_gd_some h
      simp only [Bool.and_eq_true] at h1
      obtain ⟨g1, g2⟩ := zz_fit_ok h1.2.1
      obtain ⟨w0, w1⟩ := zz_nq_ok htg
      rw [Nat.eq_of_beq_eq_true h1.1] at hd
      exact Ev.newq (σ := (SH, zz_D dt, zJ0)) hd w0 (by rw [(zz_cm_ok mi).2.2.2.2.2.2.2.1]; exact w1) (zz_nlt h1.2.2.1) rfl (Nat.le_of_ble_eq_true h1.2.2.2) g1 kk
    · cases h
  · cases h
theorem zz_xMan_ok {idx dim : Nat} (hd : decode (zz_cm mi).2.1 pc = .ok (.multianewarray idx dim, n)) (h : zz_xMan (zz_cm mi).2.2.2.2 idx dim n pc L S SH dt = some t) (kk : Ev sc d mc ms (zz_cm mi) t.1 t.2.1 t.2.2.1 (t.2.2.2.1, zz_D t.2.2.2.2.1, zJ0) Q) : Ev sc d (t.2.2.2.2.2.1 + mc) (t.2.2.2.2.2.2 + ms) (zz_cm mi) pc L S (SH, zz_D dt, zJ0) Q := by
  unfold zz_xMan at h
  split at h
  · next y x r =>
    split at h
    · next tg htg =>
      obtain ⟨h1, rfl⟩ := zz_gd_some h
      simp only [Bool.and_eq_true] at h1
      obtain ⟨g1, g2⟩ := zz_fit_ok h1.2.2.1
      obtain ⟨w0, w1⟩ := zz_nm_lk htg
      rw [Nat.eq_of_beq_eq_true h1.1, Nat.eq_of_beq_eq_true h1.2.1] at hd
      exact Ev.manew (σ := (SH, zz_D dt, zJ0)) hd w0 (by rw [(zz_cm_ok mi).2.2.2.2.2.2.2.1]; exact w1) (zz_nlt h1.2.2.2.1) (zz_nlt h1.2.2.2.2.1) rfl rfl (Nat.le_of_ble_eq_true h1.2.2.2.2.2.1) (Nat.le_of_ble_eq_true h1.2.2.2.2.2.2) g1 g2 (fun _ _ _ => rfl) kk
    · cases h
  · cases h
theorem Ev.z0 {M : zz_MD} {σ : zz_St} (h : Ev sc d mc ms M pc L S σ Q) : Ev sc d (0 + mc) (0 + ms) M pc L S σ Q := by
  rw [Nat.zero_add, Nat.zero_add]; exact h
theorem zz_xPut_ok {idx : Nat} (hd : decode (zz_cm mi).2.1 pc = .ok (.putfield idx, n)) (h : zz_xPut (zz_cm mi).2.2.2.2 idx n pc L S SH dt = some t) (kk : Ev sc d mc ms (zz_cm mi) t.1 t.2.1 t.2.2.1 (t.2.2.2.1, zz_D t.2.2.2.2.1, zJ0) Q) : Ev sc d (t.2.2.2.2.2.1 + mc) (t.2.2.2.2.2.2 + ms) (zz_cm mi) pc L S (SH, zz_D dt, zJ0) Q := by
  unfold zz_xPut at h
  split at h
  · next q k r =>
    split at h
    · next ci j o h1 h2 =>
      obtain ⟨h3, rfl⟩ := zz_gd_some h
      simp only [Bool.and_eq_true] at h3
      obtain ⟨ci', fs⟩ := o
      have e1 : ci = ci' := Nat.eq_of_beq_eq_true h3.2.1
      subst e1
      obtain ⟨g1, g2, -⟩ := zz_fl_ok h1
      obtain ⟨p1, p2, p3⟩ := (zz_pf_all ci g1 j g2).1 h3.2.2.2.1
      rw [Nat.eq_of_beq_eq_true h3.1] at hd
      have e2 := (zz_cm_ok mi).2.2.2.2.2.2.2.1
      exact Ev.z0 (Ev.putr (σ := (SH, zz_D dt, zJ0)) e2 (zz_cm_ok mi).2.2.2.2.2.2.1 h1 ⟨p1, by rw [e2, Nat.eq_of_beq_eq_true h3.2.2.1]; exact p2⟩ hd h2 (zz_isN_ok h3.2.2.2.2) p3 kk)
    · cases h
  · next v k r =>
    split at h
    · next ci j o h1 h2 =>
      obtain ⟨h3, rfl⟩ := zz_gd_some h
      simp only [Bool.and_eq_true] at h3
      obtain ⟨ci', fs⟩ := o
      have e1 : ci = ci' := Nat.eq_of_beq_eq_true h3.2.1
      subst e1
      obtain ⟨g1, g2, -⟩ := zz_fl_ok h1
      rw [Nat.eq_of_beq_eq_true h3.1] at hd
      have kk2 : Ev sc d mc ms (zz_cm mi) (pc + 3) L r (SH, zz_D (zz_pD dt k j v), zJ0) Q := kk
      rw [zz_pD_ok] at kk2
      exact Ev.z0 (Ev.putf (σ := (SH, zz_D dt, zJ0)) (zz_cm_ok mi).2.2.2.2.2.2.2.1 h1 ((zz_pf_all ci g1 j g2).2 h3.2.2.1) hd h2 (zz_isI_ok h3.2.2.2) kk2)
    · cases h
  · cases h
theorem zz_vpin {i : Int32} {n : Nat} (h : ¬ i < 0) (h2 : Nat.blt i.toNatClampNeg n = true) : vp_in i n := fun q => q.elim h (fun q => absurd (Nat.le_of_ble_eq_true h2) (by omega))
theorem zz_xAst_ok (hd : decode (zz_cm mi).2.1 pc = .ok (.aastore, n)) (h : zz_xAst n pc L S SH dt = some t) (kk : Ev sc d mc ms (zz_cm mi) t.1 t.2.1 t.2.2.1 (t.2.2.2.1, zz_D t.2.2.2.2.1, zJ0) Q) : Ev sc d (t.2.2.2.2.2.1 + mc) (t.2.2.2.2.2.2 + ms) (zz_cm mi) pc L S (SH, zz_D dt, zJ0) Q := by
  unfold zz_xAst at h
  split at h
  · next q i k r =>
    split at h
    · next a o h1 h2 =>
      obtain ⟨h3, rfl⟩ := zz_gd_some h
      simp only [Bool.and_eq_true, Bool.or_eq_true] at h3
      obtain ⟨tg, nn, rs⟩ := a
      obtain ⟨ci, fs⟩ := o
      have e1 : ci = zz_qc tg := Nat.eq_of_beq_eq_true h3.2.2.2.1
      subst e1
      rw [Nat.eq_of_beq_eq_true h3.1] at hd
      exact Ev.z0 (Ev.aast (σ := (SH, zz_D dt, zJ0)) hd h1 (h3.2.2.2.2.1.imp Nat.eq_of_beq_eq_true Nat.eq_of_beq_eq_true) h2 (zz_vpin (zz_nlt h3.2.1) h3.2.2.1) (Nat.eq_of_beq_eq_true h3.2.2.2.2.2) kk)
    · cases h
  · cases h
theorem zz_xIst_ok (hd : decode (zz_cm mi).2.1 pc = .ok (.iastore, n)) (h : zz_xIst n pc L S SH dt = some t) (kk : Ev sc d mc ms (zz_cm mi) t.1 t.2.1 t.2.2.1 (t.2.2.2.1, zz_D t.2.2.2.2.1, zJ0) Q) : Ev sc d (t.2.2.2.2.2.1 + mc) (t.2.2.2.2.2.2 + ms) (zz_cm mi) pc L S (SH, zz_D dt, zJ0) Q := by
  unfold zz_xIst at h
  split at h
  · next v i k r =>
    split at h
    · next a h1 =>
      obtain ⟨h3, rfl⟩ := zz_gd_some h
      simp only [Bool.and_eq_true] at h3
      obtain ⟨tg, nn, rs⟩ := a
      have e1 : tg = 0 := Nat.eq_of_beq_eq_true h3.2.2.2
      subst e1
      rw [Nat.eq_of_beq_eq_true h3.1] at hd
      have kk2 : Ev sc d mc ms (zz_cm mi) (pc + 1) L r (SH, zz_D (zz_pD dt k i.toNatClampNeg v), zJ0) Q := kk
      rw [zz_pD_ok] at kk2
      exact Ev.z0 (Ev.iast0 (σ := (SH, zz_D dt, zJ0)) hd h1 (zz_vpin (zz_nlt h3.2.1) h3.2.2.1) kk2)
    · cases h
  · cases h
theorem zz_xGo_ok {off : Int} (hd : decode (zz_cm mi).2.1 pc = .ok (.goto off, n)) (h : zz_xGo off n pc L S SH dt = some t) (kk : Ev sc d mc ms (zz_cm mi) t.1 t.2.1 t.2.2.1 (t.2.2.2.1, zz_D t.2.2.2.2.1, zJ0) Q) : Ev sc d (t.2.2.2.2.2.1 + mc) (t.2.2.2.2.2.2 + ms) (zz_cm mi) pc L S (SH, zz_D dt, zJ0) Q := by
  unfold zz_xGo at h
  obtain ⟨h3, rfl⟩ := zz_gd_some h
  simp only [Bool.and_eq_true, decide_eq_true_eq] at h3
  rw [Nat.eq_of_beq_eq_true h3.1] at hd
  exact Ev.z0 (Ev.goto hd h3.2 kk)
theorem zz_xIge_ok {off : Int} (hd : decode (zz_cm mi).2.1 pc = .ok (.if_icmp .ge off, n)) (h : zz_xIge off n pc L S SH dt = some t) (kk : Ev sc d mc ms (zz_cm mi) t.1 t.2.1 t.2.2.1 (t.2.2.2.1, zz_D t.2.2.2.2.1, zJ0) Q) : Ev sc d (t.2.2.2.2.2.1 + mc) (t.2.2.2.2.2.2 + ms) (zz_cm mi) pc L S (SH, zz_D dt, zJ0) Q := by
  unfold zz_xIge at h
  split at h
  · next y x r =>
    obtain ⟨h3, rfl⟩ := zz_gd_some h
    simp only [Bool.and_eq_true, decide_eq_true_eq] at h3
    rw [Nat.eq_of_beq_eq_true h3.1] at hd
    by_cases hc : y ≤ x
    · rw [if_pos hc] at kk ⊢
      exact Ev.z0 (Ev.icmp_ge hd h3.2 (fun _ => kk) (fun h9 => absurd hc h9))
    · rw [if_neg hc] at kk ⊢
      exact Ev.z0 (Ev.icmp_ge hd h3.2 (fun h9 => absurd h9 hc) (fun _ => kk))
  · cases h
theorem zz_xFge_ok {off : Int} (hd : decode (zz_cm mi).2.1 pc = .ok (.ifCond .ge off, n)) (h : zz_xFge off n pc L S SH dt = some t) (kk : Ev sc d mc ms (zz_cm mi) t.1 t.2.1 t.2.2.1 (t.2.2.2.1, zz_D t.2.2.2.2.1, zJ0) Q) : Ev sc d (t.2.2.2.2.2.1 + mc) (t.2.2.2.2.2.2 + ms) (zz_cm mi) pc L S (SH, zz_D dt, zJ0) Q := by
  unfold zz_xFge at h
  split at h
  · next x r =>
    obtain ⟨h3, rfl⟩ := zz_gd_some h
    simp only [Bool.and_eq_true, decide_eq_true_eq] at h3
    rw [Nat.eq_of_beq_eq_true h3.1] at hd
    by_cases hc : 0 ≤ x
    · rw [if_pos hc] at kk ⊢
      exact Ev.z0 (Ev.if_ge hd h3.2 (fun _ => kk) (fun h9 => absurd hc h9))
    · rw [if_neg hc] at kk ⊢
      exact Ev.z0 (Ev.if_ge hd h3.2 (fun h9 => absurd h9 hc) (fun _ => kk))
  · cases h
theorem zz_xEls_ok {i : Instr} (hd : decode (zz_cm mi).2.1 pc = .ok (i, n)) (h : zz_xEls (zz_cm mi).2.2.2.2 i n pc L S SH dt = some t) (kk : Ev sc d mc ms (zz_cm mi) t.1 t.2.1 t.2.2.1 (t.2.2.2.1, zz_D t.2.2.2.2.1, zJ0) Q) : Ev sc d (t.2.2.2.2.2.1 + mc) (t.2.2.2.2.2.2 + ms) (zz_cm mi) pc L S (SH, zz_D dt, zJ0) Q := by
  unfold zz_xEls at h
  split at h
  · next pc' L' S' h1 =>
    cases h
    exact Ev.z0 (Ev.stepG (zz_cm_ok mi).2.2.2.2.2.2.2.1 hd h1 kk).1
  · cases h
theorem zz_cx_ok {i : Instr} (hd : decode (zz_cm mi).2.1 pc = .ok (i, n)) (h : zz_cx (zz_cm mi).2.2.2.2 i n pc L S SH dt = some t) (kk : Ev sc d mc ms (zz_cm mi) t.1 t.2.1 t.2.2.1 (t.2.2.2.1, zz_D t.2.2.2.2.1, zJ0) Q) : Ev sc d (t.2.2.2.2.2.1 + mc) (t.2.2.2.2.2.2 + ms) (zz_cm mi) pc L S (SH, zz_D dt, zJ0) Q := by
  unfold zz_cx at h
  split at h
  · exact zz_xNew_ok hd h kk
  · exact zz_xNewa_ok hd h kk
  · exact zz_xNewq_ok hd h kk
  · exact zz_xMan_ok hd h kk
  · exact zz_xPut_ok hd h kk
  · exact zz_xAst_ok hd h kk
  · exact zz_xIst_ok hd h kk
  · exact zz_xGo_ok hd h kk
  · exact zz_xIge_ok hd h kk
  · exact zz_xFge_ok hd h kk
  · exact zz_xEls_ok hd h kk
end ZZX
end
section
/-! ===== a constructor's run ===== -/
def zz_args (m : Nat) (S : List Value) : Option (List Value × Nat × List Value) := match m with
  | 1 => match S with
    | .int x :: .ref k :: r => some ([.int x], k, r)
    | _ => none
  | _ => match S with
    | .ref k :: r => some ([], k, r)
    | _ => none
theorem zz_args_ok {m : Nat} {S as r : List Value} {k : Nat} (h : zz_args m S = some (as, k, r)) : S = as.reverse ++ .ref k :: r ∧ as.length = zz_np m ∧ (as.all (fun v => v.category == 1)) = true := by
  unfold zz_args at h
  split at h
  · split at h
    · cases h; exact ⟨rfl, rfl, rfl⟩
    · cases h
  · next hm =>
    split at h
    · cases h; exact ⟨rfl, (if_neg hm).symm, rfl⟩
    · cases h
def zz_exe : Nat → Nat → Nat → Nat → List (Option Value) → List Value → List zz_SK → List (List Int32) → Nat → Nat → Option (List zz_SK × List (List Int32) × Nat × Nat)
  | 0, _, _, _, _, _, _, _, _, _ => none
  | f + 1, mi, d, pc, L, S, SH, dt, c, s => match decode (zz_cm mi).2.1 pc with
    | .ok (i, n) => match i with
      | .return_ => match S with
        | [] => zz_gd (Nat.beq n 1) (SH, dt, c, s)
        | _ => none
      | .invokespecial idx => match zz_tb zz_so2 (zz_cm mi).2.2.2.2 idx with
        | some 0 => match d, S with
          | d' + 1, .ref _ :: r => match Nat.beq n 3 && Nat.ble ((r.map fun v => v.category).sum) 8 with
            | true => zz_exe f mi (d' + 1) (pc + 3) L r SH dt c s
            | false => none
          | _, _ => none
        | some (m + 1) => match d, zz_args (m + 1) S with
          | d' + 1, some (as, k, r) => match Nat.beq n 3 && Nat.ble ((r.map fun v => v.category).sum) 8 with
            | true => match zz_exe f (m + 1) d' 0 ((Value.ref k :: as).map some ++ List.replicate ((zz_cm (m + 1)).2.2.1 - (Value.ref k :: as).length) none) [] SH dt c s with
              | some (SH1, dt1, c1, s1) => zz_exe f mi (d' + 1) (pc + 3) L r SH1 dt1 c1 s1
              | none => none
            | false => none
          | _, _ => none
        | none => none
      | i => match zz_cx (zz_cm mi).2.2.2.2 i n pc L S SH dt with
        | some t => zz_exe f mi d t.1 t.2.1 t.2.2.1 t.2.2.2.1 t.2.2.2.2.1 (c + t.2.2.2.2.2.1) (s + t.2.2.2.2.2.2)
        | none => none
    | .error _ => none
theorem zz_exe_ok : ∀ (f mi d pc : Nat) (L : List (Option Value)) (S : List Value) (SH : List zz_SK) (dt : List (List Int32)) (c s : Nat) (SH' : List zz_SK) (dt' : List (List Int32)) (c' s' : Nat), zz_exe f mi d pc L S SH dt c s = some (SH', dt', c', s') →
    ∃ mc ms, c' = c + mc ∧ s' = s + ms ∧ ∀ sc : Nat × (Nat → Int32), Ev sc d mc ms (zz_cm mi) pc L S (SH, zz_D dt, zJ0) (fun r σ => r = none ∧ σ = (SH', zz_D dt', zJ0)) := by
  intro f
  induction f with
  | zero => intro mi d pc L S SH dt c s SH' dt' c' s' h; cases h
  | succ f ih =>
    intro mi d pc L S SH dt c s SH' dt' c' s' h
    obtain ⟨q1, q2, q3, q4, q5, q6, q7, q8, q9, q10⟩ := zz_cm_ok mi
    simp only [zz_exe] at h
    split at h
    · next i n hd =>
      split at h
      · split at h
        · obtain ⟨h1, h2⟩ := zz_gd_some h
          cases h2
          rw [Nat.eq_of_beq_eq_true h1] at hd
          exact ⟨0, 0, rfl, rfl, fun sc => Ev.vret q1 hd ⟨rfl, rfl⟩⟩
        · cases h
      · next idx =>
        split at h
        · next h0 =>
          split at h
          · next d' k r =>
            split at h
            · next h1 =>
              rw [Bool.and_eq_true] at h1
              rw [Nat.eq_of_beq_eq_true h1.1] at hd
              obtain ⟨mc, ms, e1, e2, hE⟩ := ih _ _ _ _ _ _ _ _ _ _ _ _ _ h
              have hw : Cond.methodLink (zz_cm mi).1.cls idx Lib.objectInit ∈ zz_WG := by
                rw [q8]
                exact of_decide_eq_true (zz_so2_ok h0)
              exact ⟨mc, ms, e1, e2, fun sc => Ev.objInit hd hw (Nat.le_of_ble_eq_true h1.2) (hE sc)⟩
            · cases h
          · cases h
        · next m h0 =>
          split at h
          · next d' as k r ha =>
            split at h
            · next h1 =>
              rw [Bool.and_eq_true] at h1
              rw [Nat.eq_of_beq_eq_true h1.1] at hd
              split at h
              · next SH1 dt1 c1 s1 hc =>
                obtain ⟨mc1, ms1, a1, a2, hE1⟩ := ih _ _ _ _ _ _ _ _ _ _ _ _ _ hc
                obtain ⟨mc2, ms2, b1, b2, hE2⟩ := ih _ _ _ _ _ _ _ _ _ _ _ _ _ h
                obtain ⟨rfl, hn, hcat⟩ := zz_args_ok ha
                obtain ⟨p1, p2, p3, p4, p5, p6, p7, p8, p9, p10⟩ := zz_cm_ok (m + 1)
                refine ⟨mc1 + mc2, ms1 + ms2, by omega, by omega, fun sc => ?_⟩
                have hM : EvM sc d' mc1 ms1 (zz_cm (m + 1)) (.ref k :: as) (SH, zz_D dt, zJ0) (fun r σ => r = none ∧ σ = (SH1, zz_D dt1, zJ0)) := by
                  refine EvM.of p9 ?_ ?_ (hE1 sc)
                  · rw [List.all_cons, hcat]; rfl
                  · rw [List.length_cons, hn]
                    have h8 : zz_np (m + 1) ≤ 1 := by unfold zz_np; split <;> omega
                    omega
                have hw := zz_so2_ok h0
                have hw2 : (decide (Cond.methodLink (zz_cn (zz_cm mi).2.2.2.2) idx (zz_cm (m + 1)).1 ∈ zz_WG) || decide (Cond.methodLinkNest (zz_cn (zz_cm mi).2.2.2.2) idx (zz_cm (m + 1)).1 "SaidAlready" ∈ zz_nest)) = true := hw
                rw [Bool.or_eq_true, decide_eq_true_eq, decide_eq_true_eq, ← q8] at hw2
                rcases hw2 with hw2 | hw2
                · refine Ev.callI (zz_cm (m + 1)) as r _ p1 p2 p3 hw2 p4 p5 p6 p7 hd hn (Nat.le_of_ble_eq_true h1.2) hM ?_
                  rintro _ _ ⟨rfl, rfl⟩
                  exact hE2 sc
                · refine Ev.callIN (zz_cm (m + 1)) as r _ p1 p2 p3 hw2 p4 p5 p6 p7 hd hn (Nat.le_of_ble_eq_true h1.2) hM ?_
                  rintro _ _ ⟨rfl, rfl⟩
                  exact hE2 sc
              · cases h
            · cases h
          · cases h
        · cases h
      · split at h
        · next t ht =>
          obtain ⟨mc, ms, e1, e2, hE⟩ := ih _ _ _ _ _ _ _ _ _ _ _ _ _ h
          refine ⟨t.2.2.2.2.2.1 + mc, t.2.2.2.2.2.2 + ms, by omega, by omega, fun sc => zz_cx_ok hd ht (hE sc)⟩
        · cases h
    · cases h
set_option maxRecDepth 100000 in
theorem tst1 : (match zz_exe 40 1 3 0 [some (.ref 0), some (.int 12)] [] [.inl (4, zz_df 4)] [] 0 0 with
  | some (SH', dt', c', s') => decide (SH' = [.inl (4, [some (some 1), none]), .inr (0, 12, [])]) && decide (dt' = [[0, 0]]) && Nat.beq c' 1 && Nat.beq s' 12
  | none => false) = true := by decide +kernel
set_option maxRecDepth 100000 in
theorem tst2 : (match zz_exe 800 2 3 0 [some (.ref 0), none] [] [.inl (2, zz_df 2)] [] 0 0 with
  | some (SH', dt', c', s') => decide (SH'.length = 101)
  | none => false) = true := by decide +kernel
end
