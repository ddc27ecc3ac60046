section
-- ===== PART A: goes FIRST, ahead of the names: the tables' words, and 'selects' of the private methods out of them =====
/-- a private method of a class that the tables say can be made, by its rows of tables_1 -/
def lw_okq (q : MethodName × Nat) : Prop := (q.1.cls ≠ "java/lang/invoke/MethodHandle" ∧ q.1.cls ≠ "java/lang/invoke/VarHandle") ∧ Cond.instantiable q.1.cls q.2 ∈ tables_1 ∧ Cond.privateMethod q.1 ∈ tables_1 ∧ Cond.instanceMethod q.1 ∈ tables_1
theorem lw_p0 : lw_okq (⟨"SpelledTones", "found", "(I)I"⟩, 15) := ⟨⟨by decide +kernel, by decide +kernel⟩, List.mem_of_getElem? (i := 13) (by decide +kernel), List.mem_of_getElem? (i := 279) (by decide +kernel), List.mem_of_getElem? (i := 280) (by decide +kernel)⟩
theorem lw_p1 : lw_okq (⟨"SpelledTones", "fine", "(I)I"⟩, 15) := ⟨⟨by decide +kernel, by decide +kernel⟩, List.mem_of_getElem? (i := 13) (by decide +kernel), List.mem_of_getElem? (i := 288) (by decide +kernel), List.mem_of_getElem? (i := 289) (by decide +kernel)⟩
theorem lw_p2 : lw_okq (⟨"SpelledTones$Tape", "takeToken", "()V"⟩, 10) := ⟨⟨by decide +kernel, by decide +kernel⟩, List.mem_of_getElem? (i := 38) (by decide +kernel), List.mem_of_getElem? (i := 352) (by decide +kernel), List.mem_of_getElem? (i := 353) (by decide +kernel)⟩
theorem lw_p3 : lw_okq (⟨"SpelledTones$Tape", "isFigure", "(I)Z"⟩, 10) := ⟨⟨by decide +kernel, by decide +kernel⟩, List.mem_of_getElem? (i := 38) (by decide +kernel), List.mem_of_getElem? (i := 356) (by decide +kernel), List.mem_of_getElem? (i := 357) (by decide +kernel)⟩
theorem lw_p4 : lw_okq (⟨"SpelledTones$Tape", "takeNumber", "()V"⟩, 10) := ⟨⟨by decide +kernel, by decide +kernel⟩, List.mem_of_getElem? (i := 38) (by decide +kernel), List.mem_of_getElem? (i := 360) (by decide +kernel), List.mem_of_getElem? (i := 361) (by decide +kernel)⟩
theorem lw_p5 : lw_okq (⟨"SpelledTones$Tape", "step", "(LSpelledTones$Piece;)I"⟩, 10) := ⟨⟨by decide +kernel, by decide +kernel⟩, List.mem_of_getElem? (i := 38) (by decide +kernel), List.mem_of_getElem? (i := 364) (by decide +kernel), List.mem_of_getElem? (i := 365) (by decide +kernel)⟩
theorem lw_p6 : lw_okq (⟨"SpelledTones$Tape", "want", "(II)I"⟩, 10) := ⟨⟨by decide +kernel, by decide +kernel⟩, List.mem_of_getElem? (i := 38) (by decide +kernel), List.mem_of_getElem? (i := 368) (by decide +kernel), List.mem_of_getElem? (i := 369) (by decide +kernel)⟩
theorem lw_p7 : lw_okq (⟨"SpelledTones$Tape", "takeSignature", "(LSpelledTones$Piece;)I"⟩, 10) := ⟨⟨by decide +kernel, by decide +kernel⟩, List.mem_of_getElem? (i := 38) (by decide +kernel), List.mem_of_getElem? (i := 372) (by decide +kernel), List.mem_of_getElem? (i := 373) (by decide +kernel)⟩
theorem lw_p8 : lw_okq (⟨"SpelledTones$Tape", "takeKey", "(LSpelledTones$Piece;)I"⟩, 10) := ⟨⟨by decide +kernel, by decide +kernel⟩, List.mem_of_getElem? (i := 38) (by decide +kernel), List.mem_of_getElem? (i := 379) (by decide +kernel), List.mem_of_getElem? (i := 380) (by decide +kernel)⟩
theorem lw_p9 : lw_okq (⟨"SpelledTones$Tape", "endKey", "(LSpelledTones$Piece;)I"⟩, 10) := ⟨⟨by decide +kernel, by decide +kernel⟩, List.mem_of_getElem? (i := 38) (by decide +kernel), List.mem_of_getElem? (i := 390) (by decide +kernel), List.mem_of_getElem? (i := 391) (by decide +kernel)⟩
theorem lw_p10 : lw_okq (⟨"SpelledTones$Tape", "takeLetter", "(LSpelledTones$Piece;)I"⟩, 10) := ⟨⟨by decide +kernel, by decide +kernel⟩, List.mem_of_getElem? (i := 38) (by decide +kernel), List.mem_of_getElem? (i := 398) (by decide +kernel), List.mem_of_getElem? (i := 399) (by decide +kernel)⟩
theorem lw_p11 : lw_okq (⟨"SpelledTones$Tape", "takeSort", "(LSpelledTones$Piece;)I"⟩, 10) := ⟨⟨by decide +kernel, by decide +kernel⟩, List.mem_of_getElem? (i := 38) (by decide +kernel), List.mem_of_getElem? (i := 402) (by decide +kernel), List.mem_of_getElem? (i := 403) (by decide +kernel)⟩
theorem lw_p12 : lw_okq (⟨"SpelledTones", "changed", "()V"⟩, 15) := ⟨⟨by decide +kernel, by decide +kernel⟩, List.mem_of_getElem? (i := 13) (by decide +kernel), List.mem_of_getElem? (i := 423) (by decide +kernel), List.mem_of_getElem? (i := 424) (by decide +kernel)⟩
theorem lw_p13 : lw_okq (⟨"SpelledTones", "isNote", "(I)Z"⟩, 15) := ⟨⟨by decide +kernel, by decide +kernel⟩, List.mem_of_getElem? (i := 13) (by decide +kernel), List.mem_of_getElem? (i := 435) (by decide +kernel), List.mem_of_getElem? (i := 436) (by decide +kernel)⟩
theorem lw_p14 : lw_okq (⟨"SpelledTones", "acted", "(III)V"⟩, 15) := ⟨⟨by decide +kernel, by decide +kernel⟩, List.mem_of_getElem? (i := 13) (by decide +kernel), List.mem_of_getElem? (i := 441) (by decide +kernel), List.mem_of_getElem? (i := 442) (by decide +kernel)⟩
theorem lw_p15 : lw_okq (⟨"SpelledTones$Acts", "forgetOldest", "()V"⟩, 4) := ⟨⟨by decide +kernel, by decide +kernel⟩, List.mem_of_getElem? (i := 178) (by decide +kernel), List.mem_of_getElem? (i := 449) (by decide +kernel), List.mem_of_getElem? (i := 450) (by decide +kernel)⟩
def lw_privs_1 : List (MethodName × Nat) := [(⟨"SpelledTones", "found", "(I)I"⟩, 15), (⟨"SpelledTones", "fine", "(I)I"⟩, 15), (⟨"SpelledTones$Tape", "takeToken", "()V"⟩, 10), (⟨"SpelledTones$Tape", "isFigure", "(I)Z"⟩, 10), (⟨"SpelledTones$Tape", "takeNumber", "()V"⟩, 10), (⟨"SpelledTones$Tape", "step", "(LSpelledTones$Piece;)I"⟩, 10), (⟨"SpelledTones$Tape", "want", "(II)I"⟩, 10), (⟨"SpelledTones$Tape", "takeSignature", "(LSpelledTones$Piece;)I"⟩, 10), (⟨"SpelledTones$Tape", "takeKey", "(LSpelledTones$Piece;)I"⟩, 10), (⟨"SpelledTones$Tape", "endKey", "(LSpelledTones$Piece;)I"⟩, 10), (⟨"SpelledTones$Tape", "takeLetter", "(LSpelledTones$Piece;)I"⟩, 10), (⟨"SpelledTones$Tape", "takeSort", "(LSpelledTones$Piece;)I"⟩, 10), (⟨"SpelledTones", "changed", "()V"⟩, 15), (⟨"SpelledTones", "isNote", "(I)Z"⟩, 15), (⟨"SpelledTones", "acted", "(III)V"⟩, 15), (⟨"SpelledTones$Acts", "forgetOldest", "()V"⟩, 4)]
theorem lw_r1 : ∀ q ∈ lw_privs_1, lw_okq q := List.forall_mem_cons.mpr ⟨lw_p0, List.forall_mem_cons.mpr ⟨lw_p1, List.forall_mem_cons.mpr ⟨lw_p2, List.forall_mem_cons.mpr ⟨lw_p3, List.forall_mem_cons.mpr ⟨lw_p4, List.forall_mem_cons.mpr ⟨lw_p5, List.forall_mem_cons.mpr ⟨lw_p6, List.forall_mem_cons.mpr ⟨lw_p7, List.forall_mem_cons.mpr ⟨lw_p8, List.forall_mem_cons.mpr ⟨lw_p9, List.forall_mem_cons.mpr ⟨lw_p10, List.forall_mem_cons.mpr ⟨lw_p11, List.forall_mem_cons.mpr ⟨lw_p12, List.forall_mem_cons.mpr ⟨lw_p13, List.forall_mem_cons.mpr ⟨lw_p14, List.forall_mem_cons.mpr ⟨lw_p15, fun _ h => absurd h List.not_mem_nil⟩⟩⟩⟩⟩⟩⟩⟩⟩⟩⟩⟩⟩⟩⟩⟩
theorem lw_p16 : lw_okq (⟨"SpelledTones", "isChord", "(I)Z"⟩, 15) := ⟨⟨by decide +kernel, by decide +kernel⟩, List.mem_of_getElem? (i := 13) (by decide +kernel), List.mem_of_getElem? (i := 458) (by decide +kernel), List.mem_of_getElem? (i := 459) (by decide +kernel)⟩
theorem lw_p17 : lw_okq (⟨"SpelledTones", "isNoPiece", "()Z"⟩, 15) := ⟨⟨by decide +kernel, by decide +kernel⟩, List.mem_of_getElem? (i := 13) (by decide +kernel), List.mem_of_getElem? (i := 466) (by decide +kernel), List.mem_of_getElem? (i := 467) (by decide +kernel)⟩
theorem lw_p18 : lw_okq (⟨"SpelledTones", "settled", "()LSpelledTones$Best;"⟩, 15) := ⟨⟨by decide +kernel, by decide +kernel⟩, List.mem_of_getElem? (i := 13) (by decide +kernel), List.mem_of_getElem? (i := 529) (by decide +kernel), List.mem_of_getElem? (i := 530) (by decide +kernel)⟩
theorem lw_p19 : lw_okq (⟨"SpelledTones$Best", "goOn", "(LSpelledTones$Piece;II)V"⟩, 10) := ⟨⟨by decide +kernel, by decide +kernel⟩, List.mem_of_getElem? (i := 133) (by decide +kernel), List.mem_of_getElem? (i := 537) (by decide +kernel), List.mem_of_getElem? (i := 538) (by decide +kernel)⟩
theorem lw_p20 : lw_okq (⟨"SpelledTones$Best", "choose", "(IIZ)V"⟩, 10) := ⟨⟨by decide +kernel, by decide +kernel⟩, List.mem_of_getElem? (i := 133) (by decide +kernel), List.mem_of_getElem? (i := 545) (by decide +kernel), List.mem_of_getElem? (i := 546) (by decide +kernel)⟩
theorem lw_p21 : lw_okq (⟨"SpelledTones$Best", "pick", "(I)V"⟩, 10) := ⟨⟨by decide +kernel, by decide +kernel⟩, List.mem_of_getElem? (i := 133) (by decide +kernel), List.mem_of_getElem? (i := 564) (by decide +kernel), List.mem_of_getElem? (i := 565) (by decide +kernel)⟩
theorem lw_p22 : lw_okq (⟨"SpelledTones$Best", "beginBar", "(I)V"⟩, 10) := ⟨⟨by decide +kernel, by decide +kernel⟩, List.mem_of_getElem? (i := 133) (by decide +kernel), List.mem_of_getElem? (i := 576) (by decide +kernel), List.mem_of_getElem? (i := 577) (by decide +kernel)⟩
theorem lw_p23 : lw_okq (⟨"SpelledTones$Best", "print", "(I)V"⟩, 10) := ⟨⟨by decide +kernel, by decide +kernel⟩, List.mem_of_getElem? (i := 133) (by decide +kernel), List.mem_of_getElem? (i := 582) (by decide +kernel), List.mem_of_getElem? (i := 583) (by decide +kernel)⟩
theorem lw_p24 : lw_okq (⟨"SpelledTones", "signatureOfHeads", "()I"⟩, 15) := ⟨⟨by decide +kernel, by decide +kernel⟩, List.mem_of_getElem? (i := 13) (by decide +kernel), List.mem_of_getElem? (i := 599) (by decide +kernel), List.mem_of_getElem? (i := 600) (by decide +kernel)⟩
theorem lw_p25 : lw_okq (⟨"SpelledTones", "findHeads", "()V"⟩, 15) := ⟨⟨by decide +kernel, by decide +kernel⟩, List.mem_of_getElem? (i := 13) (by decide +kernel), List.mem_of_getElem? (i := 603) (by decide +kernel), List.mem_of_getElem? (i := 604) (by decide +kernel)⟩
theorem lw_p26 : lw_okq (⟨"SpelledTones", "costOfHeads", "()I"⟩, 15) := ⟨⟨by decide +kernel, by decide +kernel⟩, List.mem_of_getElem? (i := 13) (by decide +kernel), List.mem_of_getElem? (i := 608) (by decide +kernel), List.mem_of_getElem? (i := 609) (by decide +kernel)⟩
theorem lw_p27 : lw_okq (⟨"SpelledTones", "cheapestOne", "()I"⟩, 15) := ⟨⟨by decide +kernel, by decide +kernel⟩, List.mem_of_getElem? (i := 13) (by decide +kernel), List.mem_of_getElem? (i := 612) (by decide +kernel), List.mem_of_getElem? (i := 613) (by decide +kernel)⟩
theorem lw_p28 : lw_okq (⟨"SpelledTones", "costOfOne", "(I)I"⟩, 15) := ⟨⟨by decide +kernel, by decide +kernel⟩, List.mem_of_getElem? (i := 13) (by decide +kernel), List.mem_of_getElem? (i := 616) (by decide +kernel), List.mem_of_getElem? (i := 617) (by decide +kernel)⟩
theorem lw_p29 : lw_okq (⟨"SpelledTones", "costOfItems", "(II)I"⟩, 15) := ⟨⟨by decide +kernel, by decide +kernel⟩, List.mem_of_getElem? (i := 13) (by decide +kernel), List.mem_of_getElem? (i := 628) (by decide +kernel), List.mem_of_getElem? (i := 629) (by decide +kernel)⟩
theorem lw_p30 : lw_okq (⟨"SpelledTones", "fittingSignatures", "(II)I"⟩, 15) := ⟨⟨by decide +kernel, by decide +kernel⟩, List.mem_of_getElem? (i := 13) (by decide +kernel), List.mem_of_getElem? (i := 646) (by decide +kernel), List.mem_of_getElem? (i := 647) (by decide +kernel)⟩
theorem lw_p31 : lw_okq (⟨"SpelledTones", "bitIfLettersFit", "(III)I"⟩, 15) := ⟨⟨by decide +kernel, by decide +kernel⟩, List.mem_of_getElem? (i := 13) (by decide +kernel), List.mem_of_getElem? (i := 650) (by decide +kernel), List.mem_of_getElem? (i := 651) (by decide +kernel)⟩
def lw_privs_2 : List (MethodName × Nat) := [(⟨"SpelledTones", "isChord", "(I)Z"⟩, 15), (⟨"SpelledTones", "isNoPiece", "()Z"⟩, 15), (⟨"SpelledTones", "settled", "()LSpelledTones$Best;"⟩, 15), (⟨"SpelledTones$Best", "goOn", "(LSpelledTones$Piece;II)V"⟩, 10), (⟨"SpelledTones$Best", "choose", "(IIZ)V"⟩, 10), (⟨"SpelledTones$Best", "pick", "(I)V"⟩, 10), (⟨"SpelledTones$Best", "beginBar", "(I)V"⟩, 10), (⟨"SpelledTones$Best", "print", "(I)V"⟩, 10), (⟨"SpelledTones", "signatureOfHeads", "()I"⟩, 15), (⟨"SpelledTones", "findHeads", "()V"⟩, 15), (⟨"SpelledTones", "costOfHeads", "()I"⟩, 15), (⟨"SpelledTones", "cheapestOne", "()I"⟩, 15), (⟨"SpelledTones", "costOfOne", "(I)I"⟩, 15), (⟨"SpelledTones", "costOfItems", "(II)I"⟩, 15), (⟨"SpelledTones", "fittingSignatures", "(II)I"⟩, 15), (⟨"SpelledTones", "bitIfLettersFit", "(III)I"⟩, 15)]
theorem lw_r2 : ∀ q ∈ lw_privs_2, lw_okq q := List.forall_mem_cons.mpr ⟨lw_p16, List.forall_mem_cons.mpr ⟨lw_p17, List.forall_mem_cons.mpr ⟨lw_p18, List.forall_mem_cons.mpr ⟨lw_p19, List.forall_mem_cons.mpr ⟨lw_p20, List.forall_mem_cons.mpr ⟨lw_p21, List.forall_mem_cons.mpr ⟨lw_p22, List.forall_mem_cons.mpr ⟨lw_p23, List.forall_mem_cons.mpr ⟨lw_p24, List.forall_mem_cons.mpr ⟨lw_p25, List.forall_mem_cons.mpr ⟨lw_p26, List.forall_mem_cons.mpr ⟨lw_p27, List.forall_mem_cons.mpr ⟨lw_p28, List.forall_mem_cons.mpr ⟨lw_p29, List.forall_mem_cons.mpr ⟨lw_p30, List.forall_mem_cons.mpr ⟨lw_p31, fun _ h => absurd h List.not_mem_nil⟩⟩⟩⟩⟩⟩⟩⟩⟩⟩⟩⟩⟩⟩⟩⟩
theorem lw_p32 : lw_okq (⟨"SpelledTones", "fittingKinds", "(III)I"⟩, 15) := ⟨⟨by decide +kernel, by decide +kernel⟩, List.mem_of_getElem? (i := 13) (by decide +kernel), List.mem_of_getElem? (i := 654) (by decide +kernel), List.mem_of_getElem? (i := 655) (by decide +kernel)⟩
theorem lw_p33 : lw_okq (⟨"SpelledTones", "fittingKeys", "(III)I"⟩, 15) := ⟨⟨by decide +kernel, by decide +kernel⟩, List.mem_of_getElem? (i := 13) (by decide +kernel), List.mem_of_getElem? (i := 658) (by decide +kernel), List.mem_of_getElem? (i := 659) (by decide +kernel)⟩
theorem lw_p34 : lw_okq (⟨"SpelledTones", "drawOnTrial", "(II)I"⟩, 15) := ⟨⟨by decide +kernel, by decide +kernel⟩, List.mem_of_getElem? (i := 13) (by decide +kernel), List.mem_of_getElem? (i := 667) (by decide +kernel), List.mem_of_getElem? (i := 668) (by decide +kernel)⟩
theorem lw_p35 : lw_okq (⟨"SpelledTones$Asks", "run", "(II)I"⟩, 6) := ⟨⟨by decide +kernel, by decide +kernel⟩, List.mem_of_getElem? (i := 198) (by decide +kernel), List.mem_of_getElem? (i := 708) (by decide +kernel), List.mem_of_getElem? (i := 709) (by decide +kernel)⟩
theorem lw_p36 : lw_okq (⟨"SpelledTones$Asks", "leave", "(I)V"⟩, 6) := ⟨⟨by decide +kernel, by decide +kernel⟩, List.mem_of_getElem? (i := 198) (by decide +kernel), List.mem_of_getElem? (i := 712) (by decide +kernel), List.mem_of_getElem? (i := 713) (by decide +kernel)⟩
theorem lw_p37 : lw_okq (⟨"SpelledTonesModel", "found", "(I)I"⟩, 28) := ⟨⟨by decide +kernel, by decide +kernel⟩, List.mem_of_getElem? (i := 732) (by decide +kernel), List.mem_of_getElem? (i := 836) (by decide +kernel), List.mem_of_getElem? (i := 837) (by decide +kernel)⟩
theorem lw_p38 : lw_okq (⟨"SpelledTonesModel", "well", "(I)I"⟩, 28) := ⟨⟨by decide +kernel, by decide +kernel⟩, List.mem_of_getElem? (i := 732) (by decide +kernel), List.mem_of_getElem? (i := 841) (by decide +kernel), List.mem_of_getElem? (i := 842) (by decide +kernel)⟩
theorem lw_p39 : lw_okq (⟨"SpelledTonesModel", "isMissing", "(I)Z"⟩, 28) := ⟨⟨by decide +kernel, by decide +kernel⟩, List.mem_of_getElem? (i := 732) (by decide +kernel), List.mem_of_getElem? (i := 849) (by decide +kernel), List.mem_of_getElem? (i := 850) (by decide +kernel)⟩
theorem lw_p40 : lw_okq (⟨"SpelledTonesModel", "isPart", "(III)Z"⟩, 28) := ⟨⟨by decide +kernel, by decide +kernel⟩, List.mem_of_getElem? (i := 732) (by decide +kernel), List.mem_of_getElem? (i := 860) (by decide +kernel), List.mem_of_getElem? (i := 861) (by decide +kernel)⟩
theorem lw_p41 : lw_okq (⟨"SpelledTonesModel", "advances", "()V"⟩, 28) := ⟨⟨by decide +kernel, by decide +kernel⟩, List.mem_of_getElem? (i := 732) (by decide +kernel), List.mem_of_getElem? (i := 877) (by decide +kernel), List.mem_of_getElem? (i := 878) (by decide +kernel)⟩
theorem lw_p42 : lw_okq (⟨"SpelledTonesModel", "byteAt", "(I)I"⟩, 28) := ⟨⟨by decide +kernel, by decide +kernel⟩, List.mem_of_getElem? (i := 732) (by decide +kernel), List.mem_of_getElem? (i := 881) (by decide +kernel), List.mem_of_getElem? (i := 882) (by decide +kernel)⟩
theorem lw_p43 : lw_okq (⟨"SpelledTonesModel", "takes", "(ZI)I"⟩, 28) := ⟨⟨by decide +kernel, by decide +kernel⟩, List.mem_of_getElem? (i := 732) (by decide +kernel), List.mem_of_getElem? (i := 885) (by decide +kernel), List.mem_of_getElem? (i := 886) (by decide +kernel)⟩
theorem lw_p44 : lw_okq (⟨"SpelledTonesModel", "isWell", "()Z"⟩, 28) := ⟨⟨by decide +kernel, by decide +kernel⟩, List.mem_of_getElem? (i := 732) (by decide +kernel), List.mem_of_getElem? (i := 889) (by decide +kernel), List.mem_of_getElem? (i := 890) (by decide +kernel)⟩
theorem lw_p45 : lw_okq (⟨"SpelledTonesModel", "figure", "(II)I"⟩, 28) := ⟨⟨by decide +kernel, by decide +kernel⟩, List.mem_of_getElem? (i := 732) (by decide +kernel), List.mem_of_getElem? (i := 893) (by decide +kernel), List.mem_of_getElem? (i := 894) (by decide +kernel)⟩
theorem lw_p46 : lw_okq (⟨"SpelledTonesModel", "readsChord", "(ZZ)V"⟩, 28) := ⟨⟨by decide +kernel, by decide +kernel⟩, List.mem_of_getElem? (i := 732) (by decide +kernel), List.mem_of_getElem? (i := 897) (by decide +kernel), List.mem_of_getElem? (i := 898) (by decide +kernel)⟩
theorem lw_p47 : lw_okq (⟨"SpelledTonesModel", "marks", "(I)Z"⟩, 28) := ⟨⟨by decide +kernel, by decide +kernel⟩, List.mem_of_getElem? (i := 732) (by decide +kernel), List.mem_of_getElem? (i := 904) (by decide +kernel), List.mem_of_getElem? (i := 905) (by decide +kernel)⟩
def lw_privs_3 : List (MethodName × Nat) := [(⟨"SpelledTones", "fittingKinds", "(III)I"⟩, 15), (⟨"SpelledTones", "fittingKeys", "(III)I"⟩, 15), (⟨"SpelledTones", "drawOnTrial", "(II)I"⟩, 15), (⟨"SpelledTones$Asks", "run", "(II)I"⟩, 6), (⟨"SpelledTones$Asks", "leave", "(I)V"⟩, 6), (⟨"SpelledTonesModel", "found", "(I)I"⟩, 28), (⟨"SpelledTonesModel", "well", "(I)I"⟩, 28), (⟨"SpelledTonesModel", "isMissing", "(I)Z"⟩, 28), (⟨"SpelledTonesModel", "isPart", "(III)Z"⟩, 28), (⟨"SpelledTonesModel", "advances", "()V"⟩, 28), (⟨"SpelledTonesModel", "byteAt", "(I)I"⟩, 28), (⟨"SpelledTonesModel", "takes", "(ZI)I"⟩, 28), (⟨"SpelledTonesModel", "isWell", "()Z"⟩, 28), (⟨"SpelledTonesModel", "figure", "(II)I"⟩, 28), (⟨"SpelledTonesModel", "readsChord", "(ZZ)V"⟩, 28), (⟨"SpelledTonesModel", "marks", "(I)Z"⟩, 28)]
theorem lw_r3 : ∀ q ∈ lw_privs_3, lw_okq q := List.forall_mem_cons.mpr ⟨lw_p32, List.forall_mem_cons.mpr ⟨lw_p33, List.forall_mem_cons.mpr ⟨lw_p34, List.forall_mem_cons.mpr ⟨lw_p35, List.forall_mem_cons.mpr ⟨lw_p36, List.forall_mem_cons.mpr ⟨lw_p37, List.forall_mem_cons.mpr ⟨lw_p38, List.forall_mem_cons.mpr ⟨lw_p39, List.forall_mem_cons.mpr ⟨lw_p40, List.forall_mem_cons.mpr ⟨lw_p41, List.forall_mem_cons.mpr ⟨lw_p42, List.forall_mem_cons.mpr ⟨lw_p43, List.forall_mem_cons.mpr ⟨lw_p44, List.forall_mem_cons.mpr ⟨lw_p45, List.forall_mem_cons.mpr ⟨lw_p46, List.forall_mem_cons.mpr ⟨lw_p47, fun _ h => absurd h List.not_mem_nil⟩⟩⟩⟩⟩⟩⟩⟩⟩⟩⟩⟩⟩⟩⟩⟩
theorem lw_p48 : lw_okq (⟨"SpelledTonesModel", "isLetter", "(I)Z"⟩, 28) := ⟨⟨by decide +kernel, by decide +kernel⟩, List.mem_of_getElem? (i := 732) (by decide +kernel), List.mem_of_getElem? (i := 908) (by decide +kernel), List.mem_of_getElem? (i := 909) (by decide +kernel)⟩
theorem lw_p49 : lw_okq (⟨"SpelledTonesModel", "isNote", "(I)Z"⟩, 28) := ⟨⟨by decide +kernel, by decide +kernel⟩, List.mem_of_getElem? (i := 732) (by decide +kernel), List.mem_of_getElem? (i := 924) (by decide +kernel), List.mem_of_getElem? (i := 925) (by decide +kernel)⟩
theorem lw_p50 : lw_okq (⟨"SpelledTonesModel", "notes", "()V"⟩, 28) := ⟨⟨by decide +kernel, by decide +kernel⟩, List.mem_of_getElem? (i := 732) (by decide +kernel), List.mem_of_getElem? (i := 929) (by decide +kernel), List.mem_of_getElem? (i := 930) (by decide +kernel)⟩
theorem lw_p51 : lw_okq (⟨"SpelledTonesModel", "isChord", "(I)Z"⟩, 28) := ⟨⟨by decide +kernel, by decide +kernel⟩, List.mem_of_getElem? (i := 732) (by decide +kernel), List.mem_of_getElem? (i := 937) (by decide +kernel), List.mem_of_getElem? (i := 938) (by decide +kernel)⟩
theorem lw_p52 : lw_okq (⟨"SpelledTonesModel", "isPiece", "()Z"⟩, 28) := ⟨⟨by decide +kernel, by decide +kernel⟩, List.mem_of_getElem? (i := 732) (by decide +kernel), List.mem_of_getElem? (i := 945) (by decide +kernel), List.mem_of_getElem? (i := 946) (by decide +kernel)⟩
theorem lw_p53 : lw_okq (⟨"SpelledTonesModel", "chordOf", "(I)I"⟩, 28) := ⟨⟨by decide +kernel, by decide +kernel⟩, List.mem_of_getElem? (i := 732) (by decide +kernel), List.mem_of_getElem? (i := 994) (by decide +kernel), List.mem_of_getElem? (i := 995) (by decide +kernel)⟩
theorem lw_p54 : lw_okq (⟨"SpelledTonesModel", "prints", "([I)I"⟩, 28) := ⟨⟨by decide +kernel, by decide +kernel⟩, List.mem_of_getElem? (i := 732) (by decide +kernel), List.mem_of_getElem? (i := 998) (by decide +kernel), List.mem_of_getElem? (i := 999) (by decide +kernel)⟩
theorem lw_p55 : lw_okq (⟨"SpelledTonesModel", "finds", "([I)V"⟩, 28) := ⟨⟨by decide +kernel, by decide +kernel⟩, List.mem_of_getElem? (i := 732) (by decide +kernel), List.mem_of_getElem? (i := 1002) (by decide +kernel), List.mem_of_getElem? (i := 1003) (by decide +kernel)⟩
theorem lw_p56 : lw_okq (⟨"SpelledTonesModel", "reckons", "([I)V"⟩, 28) := ⟨⟨by decide +kernel, by decide +kernel⟩, List.mem_of_getElem? (i := 732) (by decide +kernel), List.mem_of_getElem? (i := 1006) (by decide +kernel), List.mem_of_getElem? (i := 1007) (by decide +kernel)⟩
theorem lw_p57 : lw_okq (⟨"SpelledTonesModel", "windowOf", "(I)I"⟩, 28) := ⟨⟨by decide +kernel, by decide +kernel⟩, List.mem_of_getElem? (i := 732) (by decide +kernel), List.mem_of_getElem? (i := 1033) (by decide +kernel), List.mem_of_getElem? (i := 1034) (by decide +kernel)⟩
theorem lw_p58 : lw_okq (⟨"SpelledTonesModel", "allWays", "()I"⟩, 28) := ⟨⟨by decide +kernel, by decide +kernel⟩, List.mem_of_getElem? (i := 732) (by decide +kernel), List.mem_of_getElem? (i := 1041) (by decide +kernel), List.mem_of_getElem? (i := 1042) (by decide +kernel)⟩
theorem lw_p59 : lw_okq (⟨"SpelledTonesModel", "bestHeads", "()I"⟩, 28) := ⟨⟨by decide +kernel, by decide +kernel⟩, List.mem_of_getElem? (i := 732) (by decide +kernel), List.mem_of_getElem? (i := 1045) (by decide +kernel), List.mem_of_getElem? (i := 1046) (by decide +kernel)⟩
theorem lw_p60 : lw_okq (⟨"SpelledTonesModel", "costBy", "(I)I"⟩, 28) := ⟨⟨by decide +kernel, by decide +kernel⟩, List.mem_of_getElem? (i := 732) (by decide +kernel), List.mem_of_getElem? (i := 1049) (by decide +kernel), List.mem_of_getElem? (i := 1050) (by decide +kernel)⟩
theorem lw_p61 : lw_okq (⟨"SpelledTonesModel", "plainWindow", "()I"⟩, 28) := ⟨⟨by decide +kernel, by decide +kernel⟩, List.mem_of_getElem? (i := 732) (by decide +kernel), List.mem_of_getElem? (i := 1053) (by decide +kernel), List.mem_of_getElem? (i := 1054) (by decide +kernel)⟩
theorem lw_p62 : lw_okq (⟨"SpelledTonesModel", "plainCost", "(I)I"⟩, 28) := ⟨⟨by decide +kernel, by decide +kernel⟩, List.mem_of_getElem? (i := 732) (by decide +kernel), List.mem_of_getElem? (i := 1057) (by decide +kernel), List.mem_of_getElem? (i := 1058) (by decide +kernel)⟩
theorem lw_p63 : lw_okq (⟨"SpelledTonesModel", "isRead", "(IIII)Z"⟩, 28) := ⟨⟨by decide +kernel, by decide +kernel⟩, List.mem_of_getElem? (i := 732) (by decide +kernel), List.mem_of_getElem? (i := 1073) (by decide +kernel), List.mem_of_getElem? (i := 1074) (by decide +kernel)⟩
def lw_privs_4 : List (MethodName × Nat) := [(⟨"SpelledTonesModel", "isLetter", "(I)Z"⟩, 28), (⟨"SpelledTonesModel", "isNote", "(I)Z"⟩, 28), (⟨"SpelledTonesModel", "notes", "()V"⟩, 28), (⟨"SpelledTonesModel", "isChord", "(I)Z"⟩, 28), (⟨"SpelledTonesModel", "isPiece", "()Z"⟩, 28), (⟨"SpelledTonesModel", "chordOf", "(I)I"⟩, 28), (⟨"SpelledTonesModel", "prints", "([I)I"⟩, 28), (⟨"SpelledTonesModel", "finds", "([I)V"⟩, 28), (⟨"SpelledTonesModel", "reckons", "([I)V"⟩, 28), (⟨"SpelledTonesModel", "windowOf", "(I)I"⟩, 28), (⟨"SpelledTonesModel", "allWays", "()I"⟩, 28), (⟨"SpelledTonesModel", "bestHeads", "()I"⟩, 28), (⟨"SpelledTonesModel", "costBy", "(I)I"⟩, 28), (⟨"SpelledTonesModel", "plainWindow", "()I"⟩, 28), (⟨"SpelledTonesModel", "plainCost", "(I)I"⟩, 28), (⟨"SpelledTonesModel", "isRead", "(IIII)Z"⟩, 28)]
theorem lw_r4 : ∀ q ∈ lw_privs_4, lw_okq q := List.forall_mem_cons.mpr ⟨lw_p48, List.forall_mem_cons.mpr ⟨lw_p49, List.forall_mem_cons.mpr ⟨lw_p50, List.forall_mem_cons.mpr ⟨lw_p51, List.forall_mem_cons.mpr ⟨lw_p52, List.forall_mem_cons.mpr ⟨lw_p53, List.forall_mem_cons.mpr ⟨lw_p54, List.forall_mem_cons.mpr ⟨lw_p55, List.forall_mem_cons.mpr ⟨lw_p56, List.forall_mem_cons.mpr ⟨lw_p57, List.forall_mem_cons.mpr ⟨lw_p58, List.forall_mem_cons.mpr ⟨lw_p59, List.forall_mem_cons.mpr ⟨lw_p60, List.forall_mem_cons.mpr ⟨lw_p61, List.forall_mem_cons.mpr ⟨lw_p62, List.forall_mem_cons.mpr ⟨lw_p63, fun _ h => absurd h List.not_mem_nil⟩⟩⟩⟩⟩⟩⟩⟩⟩⟩⟩⟩⟩⟩⟩⟩
theorem lw_p64 : lw_okq (⟨"SpelledTonesModel", "kindIn", "(I)I"⟩, 28) := ⟨⟨by decide +kernel, by decide +kernel⟩, List.mem_of_getElem? (i := 732) (by decide +kernel), List.mem_of_getElem? (i := 1098) (by decide +kernel), List.mem_of_getElem? (i := 1099) (by decide +kernel)⟩
theorem lw_p65 : lw_okq (⟨"SpelledTonesModel", "heldSize", "(I)I"⟩, 28) := ⟨⟨by decide +kernel, by decide +kernel⟩, List.mem_of_getElem? (i := 732) (by decide +kernel), List.mem_of_getElem? (i := 1110) (by decide +kernel), List.mem_of_getElem? (i := 1111) (by decide +kernel)⟩
theorem lw_p66 : lw_okq (⟨"SpelledTonesModel", "begins", "(I)V"⟩, 28) := ⟨⟨by decide +kernel, by decide +kernel⟩, List.mem_of_getElem? (i := 732) (by decide +kernel), List.mem_of_getElem? (i := 1114) (by decide +kernel), List.mem_of_getElem? (i := 1115) (by decide +kernel)⟩
theorem lw_p67 : lw_okq (⟨"SpelledTonesModel", "plainSize", "(I)I"⟩, 28) := ⟨⟨by decide +kernel, by decide +kernel⟩, List.mem_of_getElem? (i := 732) (by decide +kernel), List.mem_of_getElem? (i := 1118) (by decide +kernel), List.mem_of_getElem? (i := 1119) (by decide +kernel)⟩
theorem lw_p68 : lw_okq (⟨"SpelledTonesModel", "plainMark", "(I)I"⟩, 28) := ⟨⟨by decide +kernel, by decide +kernel⟩, List.mem_of_getElem? (i := 732) (by decide +kernel), List.mem_of_getElem? (i := 1122) (by decide +kernel), List.mem_of_getElem? (i := 1123) (by decide +kernel)⟩
theorem lw_p69 : lw_okq (⟨"SpelledTonesModel", "heldMark", "(I)I"⟩, 28) := ⟨⟨by decide +kernel, by decide +kernel⟩, List.mem_of_getElem? (i := 732) (by decide +kernel), List.mem_of_getElem? (i := 1126) (by decide +kernel), List.mem_of_getElem? (i := 1127) (by decide +kernel)⟩
def lw_privs_5 : List (MethodName × Nat) := [(⟨"SpelledTonesModel", "kindIn", "(I)I"⟩, 28), (⟨"SpelledTonesModel", "heldSize", "(I)I"⟩, 28), (⟨"SpelledTonesModel", "begins", "(I)V"⟩, 28), (⟨"SpelledTonesModel", "plainSize", "(I)I"⟩, 28), (⟨"SpelledTonesModel", "plainMark", "(I)I"⟩, 28), (⟨"SpelledTonesModel", "heldMark", "(I)I"⟩, 28)]
theorem lw_r5 : ∀ q ∈ lw_privs_5, lw_okq q := List.forall_mem_cons.mpr ⟨lw_p64, List.forall_mem_cons.mpr ⟨lw_p65, List.forall_mem_cons.mpr ⟨lw_p66, List.forall_mem_cons.mpr ⟨lw_p67, List.forall_mem_cons.mpr ⟨lw_p68, List.forall_mem_cons.mpr ⟨lw_p69, fun _ h => absurd h List.not_mem_nil⟩⟩⟩⟩⟩⟩
def lw_privs : List (MethodName × Nat) := lw_privs_1 ++ (lw_privs_2 ++ (lw_privs_3 ++ (lw_privs_4 ++ (lw_privs_5))))
def lw_tbl : List Cond := k2_sels lw_privs ++ tables_1
theorem lw_privs_ok : ∀ q ∈ lw_privs, lw_okq q := by
  show ∀ q ∈ lw_privs_1 ++ (lw_privs_2 ++ (lw_privs_3 ++ (lw_privs_4 ++ (lw_privs_5)))), lw_okq q
  exact List.forall_mem_append.mpr ⟨lw_r1, List.forall_mem_append.mpr ⟨lw_r2, List.forall_mem_append.mpr ⟨lw_r3, List.forall_mem_append.mpr ⟨lw_r4, lw_r5⟩⟩⟩⟩
end
section
/-! ===== BEGIN words of one list among another's, by their places ===== -/
theorem goodIn_r {big : List Cond} (ws : List Cond) (ps : List Nat) (hp : ws = ps.filterMap (fun i => big[i]?)) (h : ws.all goodWord = true) : GoodIn big ws := by
  intro w hw
  have h1 := List.all_eq_true.mp h w hw
  rw [hp] at hw
  obtain ⟨i, -, hi⟩ := List.mem_filterMap.mp hw
  have hm : w ∈ big := by first | exact List.mem_of_getElem? hi | exact List.getElem?_mem hi
  exact ⟨hm, good_of_word h1⟩
theorem goodIn_app {big a b : List Cond} (ha : GoodIn big a) (hb : GoodIn big b) : GoodIn big (a ++ b) := fun w h => (List.mem_append.mp h).elim (ha w) (hb w)
theorem goodIn_ca {big a b : List Cond} {c : Cond} (ha : GoodIn big (c :: a)) (hb : GoodIn big b) : GoodIn big (c :: (a ++ b)) := fun w h => (List.mem_cons.mp h).elim (fun e => ha w (List.mem_cons.mpr (Or.inl e))) (fun h => (List.mem_append.mp h).elim (fun h => ha w (List.mem_cons.mpr (Or.inr h))) (hb w))
theorem goodIn_sub {big ws : List Cond} (hm : ∀ w ∈ ws, w ∈ big) (h : ws.all goodWord = true) : GoodIn big ws := fun w hw => ⟨hm w hw, good_of_word (List.all_eq_true.mp h w hw)⟩
/-! ===== END ===== -/

/-! ===== BEGIN printed: names, fields, word lists, decode rows ===== -/
def RX0 : String := "SpelledTones$Acts"
def TX0 : u_T := fun k => match k with
  | 0 => ("SpelledTones$Acts", "size", "I", false)
  | 1 => ("SpelledTones$Acts", "sorts", "[I", true)
  | 2 => ("SpelledTones$Acts", "wheres", "[I", true)
  | _ => ("SpelledTones$Acts", "befores", "[I", true)
def tyX0 : Nat → FieldType := fun k => match k with
  | 0 => .int
  | 1 => .array .int
  | 2 => .array .int
  | _ => .array .int
abbrev wsX00 : List Cond := u_ws RX0 TX0 4
theorem nmX0 : ∀ a, a < 4 → ∀ b, b < 4 → a ≠ b → (TX0 a).2.1 ≠ (TX0 b).2.1 := by decide +kernel
theorem tyX0_ok : ∀ k, k < 4 → parseFieldDescriptor (TX0 k).2.2.1 = some (tyX0 k) := by decide +kernel
abbrev cX0_init : ByteArray := prog_2_method_1_code
def yX0_init : MethodName := ⟨RX0, "<init>", "()V"⟩
abbrev cX0_forgetAll : ByteArray := prog_2_method_2_code
def yX0_forgetAll : MethodName := ⟨RX0, "forgetAll", "()V"⟩
abbrev cX0_keep : ByteArray := prog_2_method_3_code
def yX0_keep : MethodName := ⟨RX0, "keep", "(III)V"⟩
abbrev cX0_forgetOldest : ByteArray := prog_2_method_4_code
def yX0_forgetOldest : MethodName := ⟨RX0, "forgetOldest", "()V"⟩
abbrev cX0_takeBack : ByteArray := prog_2_method_5_code
def yX0_takeBack : MethodName := ⟨RX0, "takeBack", "(LSpelledTones$Piece;)V"⟩
def RX1 : String := "SpelledTones$Asks"
def TX1 : u_T := fun k => match k with
  | 0 => ("SpelledTones$Asks", "traced", "I", false)
  | 1 => ("SpelledTones$Asks", "bodies", "[I", true)
  | 2 => ("SpelledTones$Asks", "kind", "I", false)
  | 3 => ("SpelledTones$Asks", "number", "I", false)
  | 4 => ("SpelledTones$Asks", "notes", "I", false)
  | _ => ("SpelledTones$Asks", "window", "I", false)
def tyX1 : Nat → FieldType := fun k => match k with
  | 0 => .int
  | 1 => .array .int
  | 2 => .int
  | 3 => .int
  | 4 => .int
  | _ => .int
abbrev wsX10 : List Cond := u_ws RX1 TX1 6
theorem nmX1 : ∀ a, a < 6 → ∀ b, b < 6 → a ≠ b → (TX1 a).2.1 ≠ (TX1 b).2.1 := by decide +kernel
theorem tyX1_ok : ∀ k, k < 6 → parseFieldDescriptor (TX1 k).2.2.1 = some (tyX1 k) := by decide +kernel
abbrev cX1_init : ByteArray := prog_3_method_1_code
def yX1_init : MethodName := ⟨RX1, "<init>", "()V"⟩
abbrev cX1_isOne : ByteArray := prog_3_method_2_code
def yX1_isOne : MethodName := ⟨RX1, "isOne", "(II)Z"⟩
abbrev cX1_begin : ByteArray := prog_3_method_3_code
def yX1_begin : MethodName := ⟨RX1, "begin", "(IIIII)I"⟩
abbrev cX1_run : ByteArray := prog_3_method_4_code
def yX1_run : MethodName := ⟨RX1, "run", "(II)I"⟩
abbrev cX1_leave : ByteArray := prog_3_method_5_code
def yX1_leave : MethodName := ⟨RX1, "leave", "(I)V"⟩
def RX2 : String := "SpelledTones$Best"
def TX2 : u_T := fun k => match k with
  | 0 => ("SpelledTones$Best", "cost", "I", false)
  | 1 => ("SpelledTones$Best", "ways", "I", false)
  | 2 => ("SpelledTones$Best", "signs", "I", false)
  | 3 => ("SpelledTones$Best", "windows", "[I", true)
  | 4 => ("SpelledTones$Best", "names", "[I", true)
  | 5 => ("SpelledTones$Best", "printed", "[I", true)
  | 6 => ("SpelledTones$Best", "costs", "[I", true)
  | 7 => ("SpelledTones$Best", "counts", "[J", true)
  | 8 => ("SpelledTones$Best", "nexts", "[I", true)
  | _ => ("SpelledTones$Best", "inForce", "[I", true)
def tyX2 : Nat → FieldType := fun k => match k with
  | 0 => .int
  | 1 => .int
  | 2 => .int
  | 3 => .array .int
  | 4 => .array .int
  | 5 => .array .int
  | 6 => .array .int
  | 7 => .array .long
  | 8 => .array .int
  | _ => .array .int
abbrev wsX20 : List Cond := u_ws RX2 TX2 10
theorem nmX2 : ∀ a, a < 10 → ∀ b, b < 10 → a ≠ b → (TX2 a).2.1 ≠ (TX2 b).2.1 := by decide +kernel
theorem tyX2_ok : ∀ k, k < 10 → parseFieldDescriptor (TX2 k).2.2.1 = some (tyX2 k) := by decide +kernel
abbrev cX2_init : ByteArray := prog_4_method_1_code
def yX2_init : MethodName := ⟨RX2, "<init>", "()V"⟩
abbrev cX2_solve : ByteArray := prog_4_method_2_code
def yX2_solve : MethodName := ⟨RX2, "solve", "(LSpelledTones$Piece;)V"⟩
abbrev cX2_goOn : ByteArray := prog_4_method_3_code
def yX2_goOn : MethodName := ⟨RX2, "goOn", "(LSpelledTones$Piece;II)V"⟩
abbrev cX2_choose : ByteArray := prog_4_method_4_code
def yX2_choose : MethodName := ⟨RX2, "choose", "(IIZ)V"⟩
abbrev cX2_pick : ByteArray := prog_4_method_5_code
def yX2_pick : MethodName := ⟨RX2, "pick", "(I)V"⟩
abbrev cX2_spell : ByteArray := prog_4_method_6_code
def yX2_spell : MethodName := ⟨RX2, "spell", "(LSpelledTones$Piece;)V"⟩
abbrev cX2_beginBar : ByteArray := prog_4_method_7_code
def yX2_beginBar : MethodName := ⟨RX2, "beginBar", "(I)V"⟩
abbrev cX2_print : ByteArray := prog_4_method_8_code
def yX2_print : MethodName := ⟨RX2, "print", "(I)V"⟩
def RX3 : String := "SpelledTones$Line"
def TX3 : u_T := fun k => match k with
  | _ => ("", "", "", false)
def tyX3 : Nat → FieldType := fun k => match k with
  | _ => .int
abbrev wsX30 : List Cond := u_ws RX3 TX3 0
theorem nmX3 : ∀ a, a < 0 → ∀ b, b < 0 → a ≠ b → (TX3 a).2.1 ≠ (TX3 b).2.1 := by decide +kernel
theorem tyX3_ok : ∀ k, k < 0 → parseFieldDescriptor (TX3 k).2.2.1 = some (tyX3 k) := by decide +kernel
abbrev cX3_letterOf : ByteArray := prog_5_method_2_code
def yX3_letterOf : MethodName := ⟨RX3, "letterOf", "(I)I"⟩
abbrev cX3_alterOf : ByteArray := prog_5_method_3_code
def yX3_alterOf : MethodName := ⟨RX3, "alterOf", "(I)I"⟩
abbrev cX3_keyOf : ByteArray := prog_5_method_4_code
def yX3_keyOf : MethodName := ⟨RX3, "keyOf", "(I)I"⟩
abbrev cX3_placeIn : ByteArray := prog_5_method_5_code
def yX3_placeIn : MethodName := ⟨RX3, "placeIn", "(II)I"⟩
abbrev cX3_headOf : ByteArray := prog_5_method_6_code
def yX3_headOf : MethodName := ⟨RX3, "headOf", "(II)I"⟩
def RX4 : String := "SpelledTones$Piece"
def TX4 : u_T := fun k => match k with
  | 0 => ("SpelledTones$Piece", "signature", "I", false)
  | 1 => ("SpelledTones$Piece", "chords", "I", false)
  | 2 => ("SpelledTones$Piece", "notes", "I", false)
  | 3 => ("SpelledTones$Piece", "kinds", "[I", true)
  | 4 => ("SpelledTones$Piece", "bars", "[I", true)
  | 5 => ("SpelledTones$Piece", "phrases", "[I", true)
  | 6 => ("SpelledTones$Piece", "firsts", "[I", true)
  | 7 => ("SpelledTones$Piece", "keys", "[I", true)
  | _ => ("SpelledTones$Piece", "chordOf", "[I", true)
def tyX4 : Nat → FieldType := fun k => match k with
  | 0 => .int
  | 1 => .int
  | 2 => .int
  | 3 => .array .int
  | 4 => .array .int
  | 5 => .array .int
  | 6 => .array .int
  | 7 => .array .int
  | _ => .array .int
abbrev wsX40 : List Cond := u_ws RX4 TX4 9
theorem nmX4 : ∀ a, a < 9 → ∀ b, b < 9 → a ≠ b → (TX4 a).2.1 ≠ (TX4 b).2.1 := by decide +kernel
theorem tyX4_ok : ∀ k, k < 9 → parseFieldDescriptor (TX4 k).2.2.1 = some (tyX4 k) := by decide +kernel
abbrev cX4_init : ByteArray := prog_6_method_1_code
def yX4_init : MethodName := ⟨RX4, "<init>", "()V"⟩
abbrev cX4_clear : ByteArray := prog_6_method_2_code
def yX4_clear : MethodName := ⟨RX4, "clear", "()V"⟩
abbrev cX4_becomeLike : ByteArray := prog_6_method_3_code
def yX4_becomeLike : MethodName := ⟨RX4, "becomeLike", "(LSpelledTones$Piece;)V"⟩
abbrev cX4_addChord : ByteArray := prog_6_method_4_code
def yX4_addChord : MethodName := ⟨RX4, "addChord", "(IZZ)V"⟩
abbrev cX4_addKey : ByteArray := prog_6_method_5_code
def yX4_addKey : MethodName := ⟨RX4, "addKey", "(I)V"⟩
abbrev cX4_sizeOf : ByteArray := prog_6_method_6_code
def yX4_sizeOf : MethodName := ⟨RX4, "sizeOf", "(I)I"⟩
abbrev cX4_moveBy : ByteArray := prog_6_method_7_code
def yX4_moveBy : MethodName := ⟨RX4, "moveBy", "(I)V"⟩
abbrev cX4_staysWithin : ByteArray := prog_6_method_8_code
def yX4_staysWithin : MethodName := ⟨RX4, "staysWithin", "(I)Z"⟩
abbrev cX4_priceBy : ByteArray := prog_6_method_9_code
def yX4_priceBy : MethodName := ⟨RX4, "priceBy", "(II)I"⟩
abbrev cX4_priceOfName : ByteArray := prog_6_method_10_code
def yX4_priceOfName : MethodName := ⟨RX4, "priceOfName", "(III)I"⟩
abbrev cX4_priceOfStep : ByteArray := prog_6_method_11_code
def yX4_priceOfStep : MethodName := ⟨RX4, "priceOfStep", "(III)I"⟩
def RX5 : String := "SpelledTones$Rows"
def TX5 : u_T := fun k => match k with
  | 0 => ("SpelledTones$Rows", "items", "[I", true)
  | 1 => ("SpelledTones$Rows", "lanes", "[I", true)
  | _ => ("SpelledTones$Rows", "sizes", "[I", true)
def tyX5 : Nat → FieldType := fun k => match k with
  | 0 => .array .int
  | 1 => .array .int
  | _ => .array .int
abbrev wsX50 : List Cond := u_ws RX5 TX5 3
theorem nmX5 : ∀ a, a < 3 → ∀ b, b < 3 → a ≠ b → (TX5 a).2.1 ≠ (TX5 b).2.1 := by decide +kernel
theorem tyX5_ok : ∀ k, k < 3 → parseFieldDescriptor (TX5 k).2.2.1 = some (tyX5 k) := by decide +kernel
abbrev cX5_init : ByteArray := prog_7_method_1_code
def yX5_init : MethodName := ⟨RX5, "<init>", "()V"⟩
abbrev cX5_isRow : ByteArray := prog_7_method_2_code
def yX5_isRow : MethodName := ⟨RX5, "isRow", "(I)Z"⟩
abbrev cX5_isMissing : ByteArray := prog_7_method_3_code
def yX5_isMissing : MethodName := ⟨RX5, "isMissing", "(I)Z"⟩
abbrev cX5_ofOneLane : ByteArray := prog_7_method_4_code
def yX5_ofOneLane : MethodName := ⟨RX5, "ofOneLane", "(II)Z"⟩
abbrev cX5_holds : ByteArray := prog_7_method_5_code
def yX5_holds : MethodName := ⟨RX5, "holds", "(III)Z"⟩
abbrev cX5_make : ByteArray := prog_7_method_6_code
def yX5_make : MethodName := ⟨RX5, "make", "(III)V"⟩
abbrev cX5_put : ByteArray := prog_7_method_7_code
def yX5_put : MethodName := ⟨RX5, "put", "(III)I"⟩
abbrev cX5_itemOf : ByteArray := prog_7_method_8_code
def yX5_itemOf : MethodName := ⟨RX5, "itemOf", "(II)I"⟩
abbrev cX5_carry : ByteArray := prog_7_method_9_code
def yX5_carry : MethodName := ⟨RX5, "carry", "(IIIII)V"⟩
abbrev cX5_lose : ByteArray := prog_7_method_10_code
def yX5_lose : MethodName := ⟨RX5, "lose", "(I)I"⟩
abbrev cX5_howMany : ByteArray := prog_7_method_11_code
def yX5_howMany : MethodName := ⟨RX5, "howMany", "()I"⟩
def RX6 : String := "SpelledTones$Tape"
def TX6 : u_T := fun k => match k with
  | 0 => ("SpelledTones$Tape", "bytes", "[I", true)
  | 1 => ("SpelledTones$Tape", "length", "I", false)
  | 2 => ("SpelledTones$Tape", "at", "I", false)
  | 3 => ("SpelledTones$Tape", "token", "I", false)
  | 4 => ("SpelledTones$Tape", "width", "I", false)
  | 5 => ("SpelledTones$Tape", "value", "I", false)
  | 6 => ("SpelledTones$Tape", "wanted", "I", false)
  | 7 => ("SpelledTones$Tape", "lastKey", "I", false)
  | 8 => ("SpelledTones$Tape", "bar", "Z", false)
  | _ => ("SpelledTones$Tape", "phrase", "Z", false)
def tyX6 : Nat → FieldType := fun k => match k with
  | 0 => .array .int
  | 1 => .int
  | 2 => .int
  | 3 => .int
  | 4 => .int
  | 5 => .int
  | 6 => .int
  | 7 => .int
  | 8 => .boolean
  | _ => .boolean
abbrev wsX60 : List Cond := u_ws RX6 TX6 10
theorem nmX6 : ∀ a, a < 10 → ∀ b, b < 10 → a ≠ b → (TX6 a).2.1 ≠ (TX6 b).2.1 := by decide +kernel
theorem tyX6_ok : ∀ k, k < 10 → parseFieldDescriptor (TX6 k).2.2.1 = some (tyX6 k) := by decide +kernel
abbrev cX6_init : ByteArray := prog_8_method_1_code
def yX6_init : MethodName := ⟨RX6, "<init>", "()V"⟩
abbrev cX6_put : ByteArray := prog_8_method_2_code
def yX6_put : MethodName := ⟨RX6, "put", "(I)V"⟩
abbrev cX6_readInto : ByteArray := prog_8_method_3_code
def yX6_readInto : MethodName := ⟨RX6, "readInto", "(LSpelledTones$Piece;)I"⟩
abbrev cX6_takeToken : ByteArray := prog_8_method_4_code
def yX6_takeToken : MethodName := ⟨RX6, "takeToken", "()V"⟩
abbrev cX6_takeNumber : ByteArray := prog_8_method_5_code
def yX6_takeNumber : MethodName := ⟨RX6, "takeNumber", "()V"⟩
abbrev cX6_isFigure : ByteArray := prog_8_method_6_code
def yX6_isFigure : MethodName := ⟨RX6, "isFigure", "(I)Z"⟩
abbrev cX6_step : ByteArray := prog_8_method_7_code
def yX6_step : MethodName := ⟨RX6, "step", "(LSpelledTones$Piece;)I"⟩
abbrev cX6_want : ByteArray := prog_8_method_8_code
def yX6_want : MethodName := ⟨RX6, "want", "(II)I"⟩
abbrev cX6_takeSignature : ByteArray := prog_8_method_9_code
def yX6_takeSignature : MethodName := ⟨RX6, "takeSignature", "(LSpelledTones$Piece;)I"⟩
abbrev cX6_takeLetter : ByteArray := prog_8_method_10_code
def yX6_takeLetter : MethodName := ⟨RX6, "takeLetter", "(LSpelledTones$Piece;)I"⟩
abbrev cX6_takeSort : ByteArray := prog_8_method_11_code
def yX6_takeSort : MethodName := ⟨RX6, "takeSort", "(LSpelledTones$Piece;)I"⟩
abbrev cX6_kindOfSort : ByteArray := prog_8_method_12_code
def yX6_kindOfSort : MethodName := ⟨RX6, "kindOfSort", "(I)I"⟩
abbrev cX6_takeKey : ByteArray := prog_8_method_13_code
def yX6_takeKey : MethodName := ⟨RX6, "takeKey", "(LSpelledTones$Piece;)I"⟩
abbrev cX6_endKey : ByteArray := prog_8_method_14_code
def yX6_endKey : MethodName := ⟨RX6, "endKey", "(LSpelledTones$Piece;)I"⟩
def RX7 : String := "SpelledTones"
def TX7 : u_T := fun k => match k with
  | 0 => ("SpelledTones", "rows", "LSpelledTones$Rows;", true)
  | 1 => ("SpelledTones", "tape", "LSpelledTones$Tape;", true)
  | 2 => ("SpelledTones", "now", "LSpelledTones$Piece;", true)
  | 3 => ("SpelledTones", "best", "LSpelledTones$Best;", true)
  | 4 => ("SpelledTones", "trial", "LSpelledTones$Piece;", true)
  | 5 => ("SpelledTones", "trialBest", "LSpelledTones$Best;", true)
  | 6 => ("SpelledTones", "images", "[LSpelledTones$Piece;", true)
  | 7 => ("SpelledTones", "acts", "LSpelledTones$Acts;", true)
  | 8 => ("SpelledTones", "asks", "LSpelledTones$Asks;", true)
  | 9 => ("SpelledTones", "bestStale", "Z", false)
  | 10 => ("SpelledTones", "headsStale", "Z", false)
  | 11 => ("SpelledTones", "headSignature", "I", false)
  | 12 => ("SpelledTones", "headCost", "I", false)
  | 13 => ("SpelledTones", "latestFault", "I", false)
  | _ => ("SpelledTones", "latestFinding", "I", false)
def tyX7 : Nat → FieldType := fun k => match k with
  | 0 => .object "SpelledTones$Rows"
  | 1 => .object "SpelledTones$Tape"
  | 2 => .object "SpelledTones$Piece"
  | 3 => .object "SpelledTones$Best"
  | 4 => .object "SpelledTones$Piece"
  | 5 => .object "SpelledTones$Best"
  | 6 => .array (.object "SpelledTones$Piece")
  | 7 => .object "SpelledTones$Acts"
  | 8 => .object "SpelledTones$Asks"
  | 9 => .boolean
  | 10 => .boolean
  | 11 => .int
  | 12 => .int
  | 13 => .int
  | _ => .int
abbrev wsX70 : List Cond := u_ws RX7 TX7 15
theorem nmX7 : ∀ a, a < 15 → ∀ b, b < 15 → a ≠ b → (TX7 a).2.1 ≠ (TX7 b).2.1 := by decide +kernel
theorem tyX7_ok : ∀ k, k < 15 → parseFieldDescriptor (TX7 k).2.2.1 = some (tyX7 k) := by decide +kernel
abbrev cX7_init : ByteArray := prog_1_method_1_code
def yX7_init : MethodName := ⟨RX7, "<init>", "()V"⟩
abbrev cX7_row : ByteArray := prog_1_method_2_code
def yX7_row : MethodName := ⟨RX7, "row", "(III)I"⟩
abbrev cX7_set : ByteArray := prog_1_method_3_code
def yX7_set : MethodName := ⟨RX7, "set", "(III)I"⟩
abbrev cX7_copy : ByteArray := prog_1_method_4_code
def yX7_copy : MethodName := ⟨RX7, "copy", "(IIIII)I"⟩
abbrev cX7_drop : ByteArray := prog_1_method_5_code
def yX7_drop : MethodName := ⟨RX7, "drop", "(I)I"⟩
abbrev cX7_feed : ByteArray := prog_1_method_6_code
def yX7_feed : MethodName := ⟨RX7, "feed", "(I)I"⟩
abbrev cX7_piece : ByteArray := prog_1_method_7_code
def yX7_piece : MethodName := ⟨RX7, "piece", "()I"⟩
abbrev cX7_fault : ByteArray := prog_1_method_8_code
def yX7_fault : MethodName := ⟨RX7, "fault", "()I"⟩
abbrev cX7_key : ByteArray := prog_1_method_9_code
def yX7_key : MethodName := ⟨RX7, "key", "(II)I"⟩
abbrev cX7_become : ByteArray := prog_1_method_10_code
def yX7_become : MethodName := ⟨RX7, "become", "(II)I"⟩
abbrev cX7_sign : ByteArray := prog_1_method_11_code
def yX7_sign : MethodName := ⟨RX7, "sign", "(I)I"⟩
abbrev cX7_shift : ByteArray := prog_1_method_12_code
def yX7_shift : MethodName := ⟨RX7, "shift", "(I)I"⟩
abbrev cX7_undo : ByteArray := prog_1_method_13_code
def yX7_undo : MethodName := ⟨RX7, "undo", "()I"⟩
abbrev cX7_place : ByteArray := prog_1_method_14_code
def yX7_place : MethodName := ⟨RX7, "place", "(II)I"⟩
abbrev cX7_inWindow : ByteArray := prog_1_method_15_code
def yX7_inWindow : MethodName := ⟨RX7, "inWindow", "(II)I"⟩
abbrev cX7_head : ByteArray := prog_1_method_16_code
def yX7_head : MethodName := ⟨RX7, "head", "(I)I"⟩
abbrev cX7_note : ByteArray := prog_1_method_17_code
def yX7_note : MethodName := ⟨RX7, "note", "(II)I"⟩
abbrev cX7_chord : ByteArray := prog_1_method_18_code
def yX7_chord : MethodName := ⟨RX7, "chord", "(II)I"⟩
abbrev cX7_whole : ByteArray := prog_1_method_19_code
def yX7_whole : MethodName := ⟨RX7, "whole", "(I)I"⟩
abbrev cX7_price : ByteArray := prog_1_method_20_code
def yX7_price : MethodName := ⟨RX7, "price", "(II)I"⟩
abbrev cX7_cost : ByteArray := prog_1_method_21_code
def yX7_cost : MethodName := ⟨RX7, "cost", "(II)I"⟩
abbrev cX7_fits : ByteArray := prog_1_method_22_code
def yX7_fits : MethodName := ⟨RX7, "fits", "(IIII)I"⟩
abbrev cX7_drawn : ByteArray := prog_1_method_23_code
def yX7_drawn : MethodName := ⟨RX7, "drawn", "(III)I"⟩
abbrev cX7_image : ByteArray := prog_1_method_24_code
def yX7_image : MethodName := ⟨RX7, "image", "(I)I"⟩
abbrev cX7_restore : ByteArray := prog_1_method_25_code
def yX7_restore : MethodName := ⟨RX7, "restore", "(I)I"⟩
abbrev cX7_kind : ByteArray := prog_1_method_26_code
def yX7_kind : MethodName := ⟨RX7, "kind", "(I)I"⟩
abbrev cX7_as : ByteArray := prog_1_method_27_code
def yX7_as : MethodName := ⟨RX7, "as", "(II)I"⟩
abbrev cX7_ask : ByteArray := prog_1_method_28_code
def yX7_ask : MethodName := ⟨RX7, "ask", "(II)I"⟩
abbrev cX7_trace : ByteArray := prog_1_method_29_code
def yX7_trace : MethodName := ⟨RX7, "trace", "(I)I"⟩
abbrev cX7_count : ByteArray := prog_1_method_30_code
def yX7_count : MethodName := ⟨RX7, "count", "(I)I"⟩
abbrev cX7_status : ByteArray := prog_1_method_31_code
def yX7_status : MethodName := ⟨RX7, "status", "()I"⟩
abbrev cX7_found : ByteArray := prog_1_method_32_code
def yX7_found : MethodName := ⟨RX7, "found", "(I)I"⟩
abbrev cX7_fine : ByteArray := prog_1_method_33_code
def yX7_fine : MethodName := ⟨RX7, "fine", "(I)I"⟩
abbrev cX7_acted : ByteArray := prog_1_method_34_code
def yX7_acted : MethodName := ⟨RX7, "acted", "(III)V"⟩
abbrev cX7_changed : ByteArray := prog_1_method_35_code
def yX7_changed : MethodName := ⟨RX7, "changed", "()V"⟩
abbrev cX7_isNoPiece : ByteArray := prog_1_method_36_code
def yX7_isNoPiece : MethodName := ⟨RX7, "isNoPiece", "()Z"⟩
abbrev cX7_isChord : ByteArray := prog_1_method_37_code
def yX7_isChord : MethodName := ⟨RX7, "isChord", "(I)Z"⟩
abbrev cX7_isNote : ByteArray := prog_1_method_38_code
def yX7_isNote : MethodName := ⟨RX7, "isNote", "(I)Z"⟩
abbrev cX7_isKey : ByteArray := prog_1_method_39_code
def yX7_isKey : MethodName := ⟨RX7, "isKey", "(I)Z"⟩
abbrev cX7_isSignature : ByteArray := prog_1_method_40_code
def yX7_isSignature : MethodName := ⟨RX7, "isSignature", "(I)Z"⟩
abbrev cX7_isWindow : ByteArray := prog_1_method_41_code
def yX7_isWindow : MethodName := ⟨RX7, "isWindow", "(I)Z"⟩
abbrev cX7_settled : ByteArray := prog_1_method_42_code
def yX7_settled : MethodName := ⟨RX7, "settled", "()LSpelledTones$Best;"⟩
abbrev cX7_findHeads : ByteArray := prog_1_method_43_code
def yX7_findHeads : MethodName := ⟨RX7, "findHeads", "()V"⟩
abbrev cX7_signatureOfHeads : ByteArray := prog_1_method_44_code
def yX7_signatureOfHeads : MethodName := ⟨RX7, "signatureOfHeads", "()I"⟩
abbrev cX7_costOfHeads : ByteArray := prog_1_method_45_code
def yX7_costOfHeads : MethodName := ⟨RX7, "costOfHeads", "()I"⟩
abbrev cX7_costOfOne : ByteArray := prog_1_method_46_code
def yX7_costOfOne : MethodName := ⟨RX7, "costOfOne", "(I)I"⟩
abbrev cX7_cheapestOne : ByteArray := prog_1_method_47_code
def yX7_cheapestOne : MethodName := ⟨RX7, "cheapestOne", "()I"⟩
abbrev cX7_costOfItems : ByteArray := prog_1_method_48_code
def yX7_costOfItems : MethodName := ⟨RX7, "costOfItems", "(II)I"⟩
abbrev cX7_fittingSignatures : ByteArray := prog_1_method_49_code
def yX7_fittingSignatures : MethodName := ⟨RX7, "fittingSignatures", "(II)I"⟩
abbrev cX7_fittingKinds : ByteArray := prog_1_method_50_code
def yX7_fittingKinds : MethodName := ⟨RX7, "fittingKinds", "(III)I"⟩
abbrev cX7_fittingKeys : ByteArray := prog_1_method_51_code
def yX7_fittingKeys : MethodName := ⟨RX7, "fittingKeys", "(III)I"⟩
abbrev cX7_bitIfLettersFit : ByteArray := prog_1_method_52_code
def yX7_bitIfLettersFit : MethodName := ⟨RX7, "bitIfLettersFit", "(III)I"⟩
abbrev cX7_drawOnTrial : ByteArray := prog_1_method_53_code
def yX7_drawOnTrial : MethodName := ⟨RX7, "drawOnTrial", "(II)I"⟩
def RX8 : String := "SpelledTonesModel"
def TX8 : u_T := fun k => match k with
  | 0 => ("SpelledTonesModel", "lane", "[I", true)
  | 1 => ("SpelledTonesModel", "many", "[I", true)
  | 2 => ("SpelledTonesModel", "items", "[I", true)
  | 3 => ("SpelledTonesModel", "spare", "[I", true)
  | 4 => ("SpelledTonesModel", "status", "I", false)
  | 5 => ("SpelledTonesModel", "tape", "[I", true)
  | 6 => ("SpelledTonesModel", "taped", "I", false)
  | 7 => ("SpelledTonesModel", "faultKind", "I", false)
  | 8 => ("SpelledTonesModel", "faultPlace", "I", false)
  | 9 => ("SpelledTonesModel", "at", "I", false)
  | 10 => ("SpelledTonesModel", "start", "I", false)
  | 11 => ("SpelledTonesModel", "token", "I", false)
  | 12 => ("SpelledTonesModel", "value", "I", false)
  | 13 => ("SpelledTonesModel", "now", "[I", true)
  | 14 => ("SpelledTonesModel", "draft", "[I", true)
  | 15 => ("SpelledTonesModel", "tried", "[I", true)
  | 16 => ("SpelledTonesModel", "past", "[I", true)
  | 17 => ("SpelledTonesModel", "acts", "I", false)
  | 18 => ("SpelledTonesModel", "images", "[I", true)
  | 19 => ("SpelledTonesModel", "kept", "[Z", true)
  | 20 => ("SpelledTonesModel", "costs", "[I", true)
  | 21 => ("SpelledTonesModel", "ways", "[I", true)
  | 22 => ("SpelledTonesModel", "windows", "[I", true)
  | 23 => ("SpelledTonesModel", "best", "I", false)
  | 24 => ("SpelledTonesModel", "force", "[I", true)
  | 25 => ("SpelledTonesModel", "printed", "[I", true)
  | 26 => ("SpelledTonesModel", "trace", "[I", true)
  | _ => ("SpelledTonesModel", "traced", "I", false)
def tyX8 : Nat → FieldType := fun k => match k with
  | 0 => .array .int
  | 1 => .array .int
  | 2 => .array .int
  | 3 => .array .int
  | 4 => .int
  | 5 => .array .int
  | 6 => .int
  | 7 => .int
  | 8 => .int
  | 9 => .int
  | 10 => .int
  | 11 => .int
  | 12 => .int
  | 13 => .array .int
  | 14 => .array .int
  | 15 => .array .int
  | 16 => .array .int
  | 17 => .int
  | 18 => .array .int
  | 19 => .array .boolean
  | 20 => .array .int
  | 21 => .array .int
  | 22 => .array .int
  | 23 => .int
  | 24 => .array .int
  | 25 => .array .int
  | 26 => .array .int
  | _ => .int
abbrev wsX80 : List Cond := u_ws RX8 TX8 28
theorem nmX8 : ∀ a, a < 28 → ∀ b, b < 28 → a ≠ b → (TX8 a).2.1 ≠ (TX8 b).2.1 := by decide +kernel
theorem tyX8_ok : ∀ k, k < 28 → parseFieldDescriptor (TX8 k).2.2.1 = some (tyX8 k) := by decide +kernel
abbrev cX8_init : ByteArray := prog_10_method_1_code
def yX8_init : MethodName := ⟨RX8, "<init>", "()V"⟩
abbrev cX8_in : ByteArray := prog_10_method_3_code
def yX8_in : MethodName := ⟨RX8, "in", "(III)Z"⟩
abbrev cX8_size : ByteArray := prog_10_method_4_code
def yX8_size : MethodName := ⟨RX8, "size", "(I)I"⟩
abbrev cX8_found : ByteArray := prog_10_method_5_code
def yX8_found : MethodName := ⟨RX8, "found", "(I)I"⟩
abbrev cX8_well : ByteArray := prog_10_method_6_code
def yX8_well : MethodName := ⟨RX8, "well", "(I)I"⟩
abbrev cX8_copies : ByteArray := prog_10_method_7_code
def yX8_copies : MethodName := ⟨RX8, "copies", "([II[II)V"⟩
abbrev cX8_isRow : ByteArray := prog_10_method_8_code
def yX8_isRow : MethodName := ⟨RX8, "isRow", "(I)Z"⟩
abbrev cX8_isMissing : ByteArray := prog_10_method_9_code
def yX8_isMissing : MethodName := ⟨RX8, "isMissing", "(I)Z"⟩
abbrev cX8_lowest : ByteArray := prog_10_method_10_code
def yX8_lowest : MethodName := ⟨RX8, "lowest", "(II)I"⟩
abbrev cX8_row : ByteArray := prog_10_method_11_code
def yX8_row : MethodName := ⟨RX8, "row", "(III)I"⟩
abbrev cX8_set : ByteArray := prog_10_method_12_code
def yX8_set : MethodName := ⟨RX8, "set", "(III)I"⟩
abbrev cX8_isPart : ByteArray := prog_10_method_13_code
def yX8_isPart : MethodName := ⟨RX8, "isPart", "(III)Z"⟩
abbrev cX8_copy : ByteArray := prog_10_method_14_code
def yX8_copy : MethodName := ⟨RX8, "copy", "(IIIII)I"⟩
abbrev cX8_drop : ByteArray := prog_10_method_15_code
def yX8_drop : MethodName := ⟨RX8, "drop", "(I)I"⟩
abbrev cX8_feed : ByteArray := prog_10_method_16_code
def yX8_feed : MethodName := ⟨RX8, "feed", "(I)I"⟩
abbrev cX8_byteAt : ByteArray := prog_10_method_17_code
def yX8_byteAt : MethodName := ⟨RX8, "byteAt", "(I)I"⟩
abbrev cX8_advances : ByteArray := prog_10_method_18_code
def yX8_advances : MethodName := ⟨RX8, "advances", "()V"⟩
abbrev cX8_isWell : ByteArray := prog_10_method_19_code
def yX8_isWell : MethodName := ⟨RX8, "isWell", "()Z"⟩
abbrev cX8_takes : ByteArray := prog_10_method_20_code
def yX8_takes : MethodName := ⟨RX8, "takes", "(ZI)I"⟩
abbrev cX8_figure : ByteArray := prog_10_method_21_code
def yX8_figure : MethodName := ⟨RX8, "figure", "(II)I"⟩
abbrev cX8_kindOf : ByteArray := prog_10_method_22_code
def yX8_kindOf : MethodName := ⟨RX8, "kindOf", "(I)I"⟩
abbrev cX8_isLetter : ByteArray := prog_10_method_24_code
def yX8_isLetter : MethodName := ⟨RX8, "isLetter", "(I)Z"⟩
abbrev cX8_readsChord : ByteArray := prog_10_method_25_code
def yX8_readsChord : MethodName := ⟨RX8, "readsChord", "(ZZ)V"⟩
abbrev cX8_marks : ByteArray := prog_10_method_26_code
def yX8_marks : MethodName := ⟨RX8, "marks", "(I)Z"⟩
abbrev cX8_piece : ByteArray := prog_10_method_27_code
def yX8_piece : MethodName := ⟨RX8, "piece", "()I"⟩
abbrev cX8_fault : ByteArray := prog_10_method_28_code
def yX8_fault : MethodName := ⟨RX8, "fault", "()I"⟩
abbrev cX8_isPiece : ByteArray := prog_10_method_29_code
def yX8_isPiece : MethodName := ⟨RX8, "isPiece", "()Z"⟩
abbrev cX8_isChord : ByteArray := prog_10_method_30_code
def yX8_isChord : MethodName := ⟨RX8, "isChord", "(I)Z"⟩
abbrev cX8_isNote : ByteArray := prog_10_method_31_code
def yX8_isNote : MethodName := ⟨RX8, "isNote", "(I)Z"⟩
abbrev cX8_over : ByteArray := prog_10_method_32_code
def yX8_over : MethodName := ⟨RX8, "over", "(II)I"⟩
abbrev cX8_letterOf : ByteArray := prog_10_method_33_code
def yX8_letterOf : MethodName := ⟨RX8, "letterOf", "(I)I"⟩
abbrev cX8_alterOf : ByteArray := prog_10_method_34_code
def yX8_alterOf : MethodName := ⟨RX8, "alterOf", "(I)I"⟩
abbrev cX8_keyOf : ByteArray := prog_10_method_35_code
def yX8_keyOf : MethodName := ⟨RX8, "keyOf", "(I)I"⟩
abbrev cX8_nameOf : ByteArray := prog_10_method_36_code
def yX8_nameOf : MethodName := ⟨RX8, "nameOf", "(II)I"⟩
abbrev cX8_headOf : ByteArray := prog_10_method_37_code
def yX8_headOf : MethodName := ⟨RX8, "headOf", "([II)I"⟩
abbrev cX8_isHeld : ByteArray := prog_10_method_38_code
def yX8_isHeld : MethodName := ⟨RX8, "isHeld", "([II)Z"⟩
abbrev cX8_nameIn : ByteArray := prog_10_method_39_code
def yX8_nameIn : MethodName := ⟨RX8, "nameIn", "([IIII)I"⟩
abbrev cX8_priceOfName : ByteArray := prog_10_method_40_code
def yX8_priceOfName : MethodName := ⟨RX8, "priceOfName", "([III)I"⟩
abbrev cX8_priceOf : ByteArray := prog_10_method_41_code
def yX8_priceOf : MethodName := ⟨RX8, "priceOf", "([III)I"⟩
abbrev cX8_moveTo : ByteArray := prog_10_method_42_code
def yX8_moveTo : MethodName := ⟨RX8, "moveTo", "([IIII)I"⟩
abbrev cX8_reckons : ByteArray := prog_10_method_43_code
def yX8_reckons : MethodName := ⟨RX8, "reckons", "([I)V"⟩
abbrev cX8_finds : ByteArray := prog_10_method_44_code
def yX8_finds : MethodName := ⟨RX8, "finds", "([I)V"⟩
abbrev cX8_allWays : ByteArray := prog_10_method_45_code
def yX8_allWays : MethodName := ⟨RX8, "allWays", "()I"⟩
abbrev cX8_windowOf : ByteArray := prog_10_method_46_code
def yX8_windowOf : MethodName := ⟨RX8, "windowOf", "(I)I"⟩
abbrev cX8_prints : ByteArray := prog_10_method_47_code
def yX8_prints : MethodName := ⟨RX8, "prints", "([I)I"⟩
abbrev cX8_notes : ByteArray := prog_10_method_48_code
def yX8_notes : MethodName := ⟨RX8, "notes", "()V"⟩
abbrev cX8_key : ByteArray := prog_10_method_49_code
def yX8_key : MethodName := ⟨RX8, "key", "(II)I"⟩
abbrev cX8_become : ByteArray := prog_10_method_50_code
def yX8_become : MethodName := ⟨RX8, "become", "(II)I"⟩
abbrev cX8_sign : ByteArray := prog_10_method_51_code
def yX8_sign : MethodName := ⟨RX8, "sign", "(I)I"⟩
abbrev cX8_shift : ByteArray := prog_10_method_52_code
def yX8_shift : MethodName := ⟨RX8, "shift", "(I)I"⟩
abbrev cX8_undo : ByteArray := prog_10_method_53_code
def yX8_undo : MethodName := ⟨RX8, "undo", "()I"⟩
abbrev cX8_place : ByteArray := prog_10_method_54_code
def yX8_place : MethodName := ⟨RX8, "place", "(II)I"⟩
abbrev cX8_isWindow : ByteArray := prog_10_method_55_code
def yX8_isWindow : MethodName := ⟨RX8, "isWindow", "(I)Z"⟩
abbrev cX8_inWindow : ByteArray := prog_10_method_56_code
def yX8_inWindow : MethodName := ⟨RX8, "inWindow", "(II)I"⟩
abbrev cX8_head : ByteArray := prog_10_method_57_code
def yX8_head : MethodName := ⟨RX8, "head", "(I)I"⟩
abbrev cX8_chordOf : ByteArray := prog_10_method_58_code
def yX8_chordOf : MethodName := ⟨RX8, "chordOf", "(I)I"⟩
abbrev cX8_note : ByteArray := prog_10_method_59_code
def yX8_note : MethodName := ⟨RX8, "note", "(II)I"⟩
abbrev cX8_chord : ByteArray := prog_10_method_60_code
def yX8_chord : MethodName := ⟨RX8, "chord", "(II)I"⟩
abbrev cX8_costBy : ByteArray := prog_10_method_61_code
def yX8_costBy : MethodName := ⟨RX8, "costBy", "(I)I"⟩
abbrev cX8_bestHeads : ByteArray := prog_10_method_62_code
def yX8_bestHeads : MethodName := ⟨RX8, "bestHeads", "()I"⟩
abbrev cX8_plainCost : ByteArray := prog_10_method_63_code
def yX8_plainCost : MethodName := ⟨RX8, "plainCost", "(I)I"⟩
abbrev cX8_plainWindow : ByteArray := prog_10_method_64_code
def yX8_plainWindow : MethodName := ⟨RX8, "plainWindow", "()I"⟩
abbrev cX8_whole : ByteArray := prog_10_method_65_code
def yX8_whole : MethodName := ⟨RX8, "whole", "(I)I"⟩
abbrev cX8_price : ByteArray := prog_10_method_66_code
def yX8_price : MethodName := ⟨RX8, "price", "(II)I"⟩
abbrev cX8_cost : ByteArray := prog_10_method_67_code
def yX8_cost : MethodName := ⟨RX8, "cost", "(II)I"⟩
abbrev cX8_isRead : ByteArray := prog_10_method_68_code
def yX8_isRead : MethodName := ⟨RX8, "isRead", "(IIII)Z"⟩
abbrev cX8_fits : ByteArray := prog_10_method_69_code
def yX8_fits : MethodName := ⟨RX8, "fits", "(IIII)I"⟩
abbrev cX8_drawn : ByteArray := prog_10_method_70_code
def yX8_drawn : MethodName := ⟨RX8, "drawn", "(III)I"⟩
abbrev cX8_image : ByteArray := prog_10_method_71_code
def yX8_image : MethodName := ⟨RX8, "image", "(I)I"⟩
abbrev cX8_restore : ByteArray := prog_10_method_72_code
def yX8_restore : MethodName := ⟨RX8, "restore", "(I)I"⟩
abbrev cX8_kindIn : ByteArray := prog_10_method_73_code
def yX8_kindIn : MethodName := ⟨RX8, "kindIn", "(I)I"⟩
abbrev cX8_kind : ByteArray := prog_10_method_74_code
def yX8_kind : MethodName := ⟨RX8, "kind", "(I)I"⟩
abbrev cX8_as : ByteArray := prog_10_method_75_code
def yX8_as : MethodName := ⟨RX8, "as", "(II)I"⟩
abbrev cX8_begins : ByteArray := prog_10_method_76_code
def yX8_begins : MethodName := ⟨RX8, "begins", "(I)V"⟩
abbrev cX8_plainMark : ByteArray := prog_10_method_77_code
def yX8_plainMark : MethodName := ⟨RX8, "plainMark", "(I)I"⟩
abbrev cX8_heldSize : ByteArray := prog_10_method_78_code
def yX8_heldSize : MethodName := ⟨RX8, "heldSize", "(I)I"⟩
abbrev cX8_plainSize : ByteArray := prog_10_method_79_code
def yX8_plainSize : MethodName := ⟨RX8, "plainSize", "(I)I"⟩
abbrev cX8_heldMark : ByteArray := prog_10_method_80_code
def yX8_heldMark : MethodName := ⟨RX8, "heldMark", "(I)I"⟩
abbrev cX8_ask : ByteArray := prog_10_method_81_code
def yX8_ask : MethodName := ⟨RX8, "ask", "(II)I"⟩
abbrev cX8_trace : ByteArray := prog_10_method_82_code
def yX8_trace : MethodName := ⟨RX8, "trace", "(I)I"⟩
abbrev cX8_count : ByteArray := prog_10_method_83_code
def yX8_count : MethodName := ⟨RX8, "count", "(I)I"⟩
abbrev cX8_status : ByteArray := prog_10_method_84_code
def yX8_status : MethodName := ⟨RX8, "status", "()I"⟩
def RJ9 : String := "java/lang/Math"
def TJ9 : u_T := fun k => match k with
  | _ => ("", "", "", false)
def tyJ9 : Nat → FieldType := fun k => match k with
  | _ => .int
abbrev wsJ90 : List Cond := u_ws RJ9 TJ9 0
theorem nmJ9 : ∀ a, a < 0 → ∀ b, b < 0 → a ≠ b → (TJ9 a).2.1 ≠ (TJ9 b).2.1 := by decide +kernel
theorem tyJ9_ok : ∀ k, k < 0 → parseFieldDescriptor (TJ9 k).2.2.1 = some (tyJ9 k) := by decide +kernel
abbrev cJ9_floorDiv_7cf53 : ByteArray := prog_11_method_47_code
def yJ9_floorDiv_7cf53 : MethodName := ⟨RJ9, "floorDiv", "(II)I"⟩
abbrev cJ9_floorMod_7cf53 : ByteArray := prog_11_method_50_code
def yJ9_floorMod_7cf53 : MethodName := ⟨RJ9, "floorMod", "(II)I"⟩
abbrev cJ9_abs_0f7a4 : ByteArray := prog_11_method_59_code
def yJ9_abs_0f7a4 : MethodName := ⟨RJ9, "abs", "(I)I"⟩
abbrev cJ9_min_f86c9 : ByteArray := prog_11_method_70_code
def yJ9_min_f86c9 : MethodName := ⟨RJ9, "min", "(JJ)J"⟩
def RJ10 : String := "java/lang/System"
def TJ10 : u_T := fun k => match k with
  | _ => ("", "", "", false)
def tyJ10 : Nat → FieldType := fun k => match k with
  | _ => .int
abbrev wsJ100 : List Cond := u_ws RJ10 TJ10 0
theorem nmJ10 : ∀ a, a < 0 → ∀ b, b < 0 → a ≠ b → (TJ10 a).2.1 ≠ (TJ10 b).2.1 := by decide +kernel
theorem tyJ10_ok : ∀ k, k < 0 → parseFieldDescriptor (TJ10 k).2.2.1 = some (tyJ10 k) := by decide +kernel
def RL : String := "SpelledTonesLaw"
abbrev cL_law : ByteArray := code
def yL_law : MethodName := ⟨RL, "law", "([I)Z"⟩
abbrev vwCl : List vw_C := [(RX0, TX0, 4), (RX1, TX1, 6), (RX2, TX2, 10), (RX4, TX4, 9), (RX5, TX5, 3), (RX6, TX6, 10), (RX7, TX7, 15), (RX8, TX8, 28)]
end
section
/-! ===== abstract values, the fixed shape of the two objects, the world of a table of numbers ===== -/
def iI (z : Int) : Int32 := Int32.ofInt z
def iL (z : Int) : Int64 := Int64.ofInt z
def R32 (z : Int) : Prop := -2147483648 ≤ z ∧ z < 2147483648
def R64 (z : Int) : Prop := -9223372036854775808 ≤ z ∧ z < 9223372036854775808
theorem iI_toInt {z : Int} (h : R32 z) : (iI z).toInt = z := by
  obtain ⟨h1, h2⟩ := h
  exact Int32.toInt_ofInt_of_le (by omega) (by omega)
theorem iL_toInt {z : Int} (h : R64 z) : (iL z).toInt = z := by
  obtain ⟨h1, h2⟩ := h
  exact Int64.toInt_ofInt_of_le (by omega) (by omega)
theorem iI_of (x : Int32) : iI x.toInt = x := Int32.ofInt_toInt x
theorem R32_of (x : Int32) : R32 x.toInt := by
  have h1 := Int32.le_toInt x
  have h2 := Int32.toInt_lt x
  exact ⟨by omega, by omega⟩
theorem iI_add (a b : Int) : iI (a + b) = iI a + iI b := Int32.ofInt_add a b
theorem iI_sub (a b : Int) : iI (a - b) = iI a - iI b := Int32.ofInt_sub a b
theorem iI_mul (a b : Int) : iI (a * b) = iI a * iI b := Int32.ofInt_mul a b
theorem iI_neg (a : Int) : iI (-a) = -iI a := Int32.ofInt_neg a
theorem iL_add (a b : Int) : iL (a + b) = iL a + iL b := Int64.ofInt_add a b
theorem iL_mul (a b : Int) : iL (a * b) = iL a * iL b := Int64.ofInt_mul a b
theorem iI_lt {a b : Int} (ha : R32 a) (hb : R32 b) : iI a < iI b ↔ a < b := by rw [Int32.lt_iff_toInt_lt, iI_toInt ha, iI_toInt hb]
theorem iI_le {a b : Int} (ha : R32 a) (hb : R32 b) : iI a ≤ iI b ↔ a ≤ b := by rw [Int32.le_iff_toInt_le, iI_toInt ha, iI_toInt hb]
theorem iI_eq {a b : Int} (ha : R32 a) (hb : R32 b) : iI a = iI b ↔ a = b := by rw [← Int32.toInt_inj, iI_toInt ha, iI_toInt hb]
theorem iL_lt {a b : Int} (ha : R64 a) (hb : R64 b) : iL a < iL b ↔ a < b := by rw [Int64.lt_iff_toInt_lt, iL_toInt ha, iL_toInt hb]
theorem iL_eq {a b : Int} (ha : R64 a) (hb : R64 b) : iL a = iL b ↔ a = b := by rw [← Int64.toInt_inj, iL_toInt ha, iL_toInt hb]
theorem iI_0 : iI 0 = 0 := by decide +kernel
theorem R32_0 : R32 0 := ⟨by decide, by decide⟩
theorem iI_div {a b : Int} (ha : R32 a) (hb : R32 b) : iI a / iI b = iI (a.tdiv b) := by
  obtain ⟨h1, h2⟩ := ha
  obtain ⟨h3, h4⟩ := hb
  have e1 : Int32.minValue.toInt = -2147483648 := by decide +kernel
  have e2 : Int32.maxValue.toInt = 2147483647 := by decide +kernel
  exact (Int32.ofInt_tdiv (by omega) (by omega) (by omega) (by omega)).symm
theorem iL_div {a b : Int} (ha : R64 a) (hb : R64 b) : iL a / iL b = iL (a.tdiv b) := by
  obtain ⟨h1, h2⟩ := ha
  obtain ⟨h3, h4⟩ := hb
  have e1 : Int64.minValue.toInt = -9223372036854775808 := by decide +kernel
  have e2 : Int64.maxValue.toInt = 9223372036854775807 := by decide +kernel
  exact (Int64.ofInt_tdiv (by omega) (by omega) (by omega) (by omega)).symm
theorem iI_rem {a b : Int} (ha : R32 a) (hb : R32 b) : iI a - iI a / iI b * iI b = iI (a.tmod b) := by
  rw [iI_div ha hb, ← iI_mul, ← iI_sub, Int.tmod_def, Int.mul_comm]
theorem iL_rem {a b : Int} (ha : R64 a) (hb : R64 b) : iL a - iL a / iL b * iL b = iL (a.tmod b) := by
  rw [iL_div ha hb, ← iL_mul, show ∀ x y : Int, iL x - iL y = iL (x - y) from fun x y => (Int64.ofInt_sub x y).symm, Int.tmod_def, Int.mul_comm]
theorem iI_ne0 {b : Int} (hb : R32 b) (h : b ≠ 0) : ¬ iI b = 0 := fun q => h ((iI_eq hb R32_0).mp (q.trans iI_0.symm))
theorem iL_ne0 {b : Int} (hb : R64 b) (h : b ≠ 0) : ¬ iL b = 0 := fun q => h ((iL_eq hb ⟨by decide, by decide⟩).mp (q.trans (by decide +kernel)))
theorem iI_long {a : Int} (ha : R32 a) : (iI a).toInt64 = iL a := by
  obtain ⟨h1, h2⟩ := ha
  have e1 : Int32.minValue.toInt = -2147483648 := by decide +kernel
  have e2 : Int32.maxValue.toInt = 2147483647 := by decide +kernel
  exact Int32.toInt64_ofInt (by omega) (by omega)
theorem iL_int (a : Int) : (iL a).toInt32 = iI a := Int64.toInt32_ofInt
theorem iI_in {i : Int} {n : Nat} (h0 : 0 ≤ i) (h1 : i < n) (hn : n < 2147483648) : vp_in (iI i) n ∧ (iI i).toNatClampNeg = i.toNat := by
  have hi : (iI i).toInt = i := iI_toInt ⟨by omega, by omega⟩
  refine ⟨vp_in_iff.mpr ⟨by rw [hi]; exact h0, by rw [hi]; exact h1⟩, ?_⟩
  show (iI i).toInt.toNat = i.toNat
  rw [hi]
theorem iI_bi {n : Int} (h : -128 ≤ n ∧ n < 128) : (Int8.ofInt n).toInt32 = iI n := by
  apply Int32.toInt_inj.mp
  rw [iI_toInt ⟨by omega, by omega⟩, Int8.toInt_toInt32, Int8.toInt_ofInt_of_le (by omega) (by omega)]
theorem iI_si {n : Int} (h : -32768 ≤ n ∧ n < 32768) : (Int16.ofInt n).toInt32 = iI n := by
  apply Int32.toInt_inj.mp
  rw [iI_toInt ⟨by omega, by omega⟩, Int16.toInt_toInt32, Int16.toInt_ofInt_of_le (by omega) (by omega)]
/-- an int, a cell (by its place), a long -/
abbrev AV : Type := Int ⊕ Nat ⊕ Int
abbrev HP : Type := Nat → Nat → Int
abbrev GT : Type := (Nat → Nat) × (Nat → ClassId) × va_G
def cv (ad : Nat → Nat) (v : AV) : Value := match v with
  | .inl z => .int (iI z)
  | .inr (.inl k) => .ref (ad k)
  | .inr (.inr z) => .long (iL z)
/-- the cells: 0 ints, 1 longs, 2 booleans, 3 cells, 4 an object (class, its fields: a cell's place or a number) -/
def SH (p : Nat) : Nat × Nat × List (Option Nat) := match p with
  | 0 => (4, 6, [some 1, some 5, some 7, some 14, some 22, some 29, some 37, some 38, some 42, none, none, none, none, none, none])
  | 1 => (4, 4, [some 2, some 3, some 4])
  | 2 => (0, 320, [])
  | 3 => (0, 8, [])
  | 4 => (0, 8, [])
  | 5 => (4, 5, [some 6, none, none, none, none, none, none, none, none, none])
  | 6 => (0, 130, [])
  | 7 => (4, 3, [none, none, none, some 8, some 9, some 10, some 11, some 12, some 13])
  | 8 => (0, 10, [])
  | 9 => (0, 10, [])
  | 10 => (0, 10, [])
  | 11 => (0, 11, [])
  | 12 => (0, 40, [])
  | 13 => (0, 40, [])
  | 14 => (4, 2, [none, none, none, some 15, some 16, some 17, some 18, some 19, some 20, some 21])
  | 15 => (0, 10, [])
  | 16 => (0, 40, [])
  | 17 => (0, 40, [])
  | 18 => (0, 240, [])
  | 19 => (1, 240, [])
  | 20 => (0, 240, [])
  | 21 => (0, 7, [])
  | 22 => (4, 3, [none, none, none, some 23, some 24, some 25, some 26, some 27, some 28])
  | 23 => (0, 10, [])
  | 24 => (0, 10, [])
  | 25 => (0, 10, [])
  | 26 => (0, 11, [])
  | 27 => (0, 40, [])
  | 28 => (0, 40, [])
  | 29 => (4, 2, [none, none, none, some 30, some 31, some 32, some 33, some 34, some 35, some 36])
  | 30 => (0, 10, [])
  | 31 => (0, 40, [])
  | 32 => (0, 40, [])
  | 33 => (0, 240, [])
  | 34 => (1, 240, [])
  | 35 => (0, 240, [])
  | 36 => (0, 7, [])
  | 37 => (3, 2, [some 44, some 51])
  | 38 => (4, 0, [none, some 39, some 40, some 41])
  | 39 => (0, 16, [])
  | 40 => (0, 16, [])
  | 41 => (0, 16, [])
  | 42 => (4, 1, [none, some 43, none, none, none, none])
  | 43 => (0, 16, [])
  | 44 => (4, 3, [none, none, none, some 45, some 46, some 47, some 48, some 49, some 50])
  | 45 => (0, 10, [])
  | 46 => (0, 10, [])
  | 47 => (0, 10, [])
  | 48 => (0, 11, [])
  | 49 => (0, 40, [])
  | 50 => (0, 40, [])
  | 51 => (4, 3, [none, none, none, some 52, some 53, some 54, some 55, some 56, some 57])
  | 52 => (0, 10, [])
  | 53 => (0, 10, [])
  | 54 => (0, 10, [])
  | 55 => (0, 11, [])
  | 56 => (0, 40, [])
  | 57 => (0, 40, [])
  | 58 => (4, 7, [some 59, some 60, some 61, some 62, none, some 63, none, none, none, none, none, none, none, some 64, some 65, some 66, some 67, none, some 68, some 69, some 70, some 71, some 72, none, some 73, some 74, some 75, none])
  | 59 => (0, 8, [])
  | 60 => (0, 8, [])
  | 61 => (0, 320, [])
  | 62 => (0, 40, [])
  | 63 => (0, 130, [])
  | 64 => (0, 93, [])
  | 65 => (0, 93, [])
  | 66 => (0, 93, [])
  | 67 => (0, 1488, [])
  | 68 => (0, 186, [])
  | 69 => (2, 2, [])
  | 70 => (0, 240, [])
  | 71 => (0, 240, [])
  | 72 => (0, 10, [])
  | 73 => (0, 7, [])
  | 74 => (0, 40, [])
  | 75 => (0, 16, [])
  | _ => (9, 0, [])
theorem SH_small (p : Nat) : (SH p).2.1 < 2147483648 := by
  unfold SH
  split <;> decide
def ceV (ad : Nat → Nat) (f : Nat → Int) : Nat → List (Option Nat) → List Value
  | _, [] => []
  | k, none :: r => Value.int (iI (f k)) :: ceV ad f (k + 1) r
  | k, some q :: r => Value.ref (ad q) :: ceV ad f (k + 1) r
def ce (G : GT) (sh : Nat × Nat × List (Option Nat)) (f : Nat → Int) : va_E :=
  match sh with
  | (0, n, _) => .inl (G.2.1 0, n, .inl (fun j => iI (f j)))
  | (1, n, _) => .inl (G.2.1 1, n, .inr (.inl (fun j => iL (f j))))
  | (2, n, _) => .inl (G.2.1 2, n, .inl (fun j => iI (f j)))
  | (3, n, rs) => .inl (G.2.1 3, n, .inr (.inr (.inr (.inr (fun j => (rs.getD j none).map G.1)))))
  | (_, ci, rs) => .inr (ci, ceV G.1 f 0 rs)
def gw (G : GT) (σ : HP) : va_W := (List.range 76).map (fun p => (G.1 p, ce G (SH p) (σ p)))
theorem gw_get {G : GT} {σ : HP} {p : Nat} (hp : p < 76) : (gw G σ)[p]? = some (G.1 p, ce G (SH p) (σ p)) := by
  simp [gw, hp]
theorem gw_inv {G : GT} {σ : HP} {p : Nat} {q : Nat × va_E} (h : (gw G σ)[p]? = some q) : p < 76 ∧ q = (G.1 p, ce G (SH p) (σ p)) := by
  by_cases hp : p < 76
  · rw [gw_get hp] at h
    exact ⟨hp, (Option.some.inj h).symm⟩
  · have : (gw G σ)[p]? = none := by simp [gw]; omega
    rw [this] at h
    cases h
def hset (σ : HP) (p k : Nat) (v : Int) : HP := fun q j => if q = p ∧ j = k then v else σ q j
theorem hset_ne {σ : HP} {p k q : Nat} {v : Int} (h : q ≠ p) : hset σ p k v q = σ q := by
  funext j
  simp [hset, h]
theorem hset_eq {σ : HP} {p k : Nat} {v : Int} : hset σ p k v p = fun j => if j = k then v else σ p j := by
  funext j
  simp [hset]
theorem gw_set {G : GT} {σ σ' : HP} {p : Nat} {E : va_E} (hp : p < 76) (hq : ∀ q, q ≠ p → σ' q = σ q) (hE : ce G (SH p) (σ' p) = E) : (gw G σ).set p (G.1 p, E) = gw G σ' := by
  subst hE
  apply List.ext_getElem?
  intro i
  by_cases hi : i < 76
  · rw [List.getElem?_set, gw_get hi, gw_get hi]
    by_cases e : p = i
    · subst e
      simp [gw, hi]
    · rw [if_neg e, hq i (fun z => e z.symm)]
  · have l1 : ∀ τ : HP, (gw G τ).length = 76 := fun τ => by simp [gw]
    rw [List.getElem?_eq_none (by rw [List.length_set, l1]; omega), List.getElem?_eq_none (by rw [l1]; omega)]
def gInj (G : GT) : Prop := ∀ i j, i < 76 → j < 76 → G.1 i = G.1 j → i = j
theorem gw_D {G : GT} {σ : HP} {A : Nat → Prop} (hi : gInj G) (hA : ∀ k, k < 76 → A (G.1 k)) : va_D A (gw G σ) := by
  refine ⟨fun i j p q h1 h2 e => ?_, fun k q h => ?_⟩
  · obtain ⟨a1, rfl⟩ := gw_inv h1
    obtain ⟨a2, rfl⟩ := gw_inv h2
    exact hi i j a1 a2 e
  · obtain ⟨a1, rfl⟩ := gw_inv h
    exact hA k a1
/-- the words that stay true -/
def gtb : List Cond := lw_tbl.filter goodWord
theorem gtm {w : Cond} (i : Nat) (h : tables_1[i]? = some w) (g : goodWord w = true) : w ∈ gtb := List.mem_filter.mpr ⟨List.mem_append_right _ (List.mem_of_getElem? h), g⟩
theorem gts {w : Cond} (i : Nat) (h : (k2_sels lw_privs)[i]? = some w) (g : goodWord w = true) : w ∈ gtb := List.mem_filter.mpr ⟨List.mem_append_left _ (List.mem_of_getElem? h), g⟩
theorem gtb_good {w : Cond} (h : w ∈ gtb) : goodWord w = true := (List.mem_filter.mp h).2
end
section
/-! ===== a machine over abstract values: what an instruction asks, and what comes behind it ===== -/
abbrev MSpec : Type := List AV → HP → (Option AV → HP → Prop) → Prop
abbrev LSt : Type := List (Option AV)
abbrev KT : Type := Nat → LSt → List AV → HP → Prop
def lnth : LSt → Nat → Option AV
  | [], _ => none
  | o :: _, 0 => o
  | _ :: r, i + 1 => lnth r i
def nolong (o : Option AV) : Option AV := match o with
  | some (.inr (.inr _)) => none
  | o => o
def st1 : LSt → Nat → AV → LSt
  | [], _, _ => []
  | _ :: r, 0, v => some v :: r
  | o :: r, i + 1, v => (if i = 0 then nolong o else o) :: st1 r i v
def nohead : LSt → LSt
  | [] => []
  | _ :: r => none :: r
def st2 : LSt → Nat → AV → LSt
  | [], _, _ => []
  | _ :: r, 0, v => some v :: nohead r
  | o :: r, i + 1, v => (if i = 0 then nolong o else o) :: st2 r i v
def rnth : List (Option Nat) → Nat → Option (Option Nat)
  | [], _ => none
  | o :: _, 0 => some o
  | _ :: r, i + 1 => rnth r i
/-- a constant pool's entry: 0 a field (class, number, boolean), 1 an int, 2 a long, 3 a static array's place, 4 System.arraycopy -/
abbrev CE : Type := Nat × Int × Nat × Bool
def gfV (sh : Nat × Nat × List (Option Nat)) (σ : HP) (p ci k : Nat) : Option AV := match sh with
  | (4, cj, rs) => if cj = ci then (match rnth rs k with
    | some (some q) => some (.inr (.inl q))
    | some none => some (.inl (σ p k))
    | none => none) else none
  | _ => none
def pfV (sh : Nat × Nat × List (Option Nat)) (ci k : Nat) : Bool := match sh with
  | (4, cj, rs) => if cj = ci then (match rnth rs k with
    | some none => true
    | _ => false) else false
  | _ => false
def cpF (e : Option CE) : Option (Nat × Nat) := match e with
  | some (0, ci, f, _) => some (ci.toNat, f)
  | some (5, ci, f, _) => some (ci.toNat, f)
  | _ => none
def cpP (e : Option CE) : Option (Nat × Nat × Bool) := match e with
  | some (5, ci, f, b) => some (ci.toNat, f, b)
  | _ => none
def gfX (e : Option (Nat × Nat)) (st : List AV) (σ : HP) (k : List AV → Prop) : Prop := match e with
  | some (ci, f) => (match st with
    | .inr (.inl p) :: r => p < 76 ∧ (match gfV (SH p) σ p ci f with | some v => k (v :: r) | none => False)
    | _ => False)
  | none => False
def pfX (e : Option (Nat × Nat × Bool)) (st : List AV) (σ : HP) (k : List AV → HP → Prop) : Prop := match e with
  | some (ci, f, b) => (match st with
    | .inl v :: .inr (.inl p) :: r => p < 76 ∧ pfV (SH p) ci f = true ∧ (b = true → v = 0 ∨ v = 1) ∧ k r (hset σ p f v)
    | _ => False)
  | none => False
def cndZ (c : Jvm.ClassFile.Cond) (x y : Int) : Prop := match c with
  | .eq => x = y
  | .ne => ¬ x = y
  | .lt => x < y
  | .ge => y ≤ x
  | .gt => y < x
  | .le => x ≤ y
def tgo (pc : Nat) (off : Int) (k : Nat → Prop) : Prop := 0 ≤ (pc : Int) + off ∧ k ((pc : Int) + off).toNat
def tsw (pc : Nat) (x : Int) (k : Nat → Prop) : Int → List Int → Prop
  | _, [] => True
  | lo, o :: r => (x = lo → tgo pc o k) ∧ tsw pc x k (lo + 1) r
def lsw (pc : Nat) (x : Int) (d : Int) (k : Nat → Prop) : List (Int × Int) → Prop
  | [] => tgo pc d k
  | (a, o) :: r => (x = a → tgo pc o k) ∧ (¬ x = a → lsw pc x d k r)
def ldI (ls : LSt) (j : Nat) (st : List AV) (k : List AV → Prop) : Prop := match lnth ls j with
  | some (.inl z) => k (.inl z :: st)
  | _ => False
def ldA (ls : LSt) (j : Nat) (st : List AV) (k : List AV → Prop) : Prop := match lnth ls j with
  | some (.inr (.inl z)) => k (.inr (.inl z) :: st)
  | _ => False
def ldL (ls : LSt) (j : Nat) (st : List AV) (k : List AV → Prop) : Prop := match lnth ls j with
  | some (.inr (.inr z)) => k (.inr (.inr z) :: st)
  | _ => False
def stI (ls : LSt) (j : Nat) (st : List AV) (k : LSt → List AV → Prop) : Prop := match st with
  | .inl z :: r => j < ls.length ∧ k (st1 ls j (.inl z)) r
  | _ => False
def stA (ls : LSt) (j : Nat) (st : List AV) (k : LSt → List AV → Prop) : Prop := match st with
  | .inr (.inl z) :: r => j < ls.length ∧ k (st1 ls j (.inr (.inl z))) r
  | _ => False
def stL (ls : LSt) (j : Nat) (st : List AV) (k : LSt → List AV → Prop) : Prop := match st with
  | .inr (.inr z) :: r => j + 1 < ls.length ∧ k (st2 ls j (.inr (.inr z))) r
  | _ => False
def bin (f : Int → Int → Int) (st : List AV) (k : List AV → Prop) : Prop := match st with
  | .inl y :: .inl x :: r => k (.inl (f x y) :: r)
  | _ => False
def binD (f : Int → Int → Int) (st : List AV) (k : List AV → Prop) : Prop := match st with
  | .inl y :: .inl x :: r => R32 x ∧ R32 y ∧ y ≠ 0 ∧ k (.inl (f x y) :: r)
  | _ => False
def binL (f : Int → Int → Int) (st : List AV) (k : List AV → Prop) : Prop := match st with
  | .inr (.inr y) :: .inr (.inr x) :: r => k (.inr (.inr (f x y)) :: r)
  | _ => False
def binDL (f : Int → Int → Int) (st : List AV) (k : List AV → Prop) : Prop := match st with
  | .inr (.inr y) :: .inr (.inr x) :: r => R64 x ∧ R64 y ∧ y ≠ 0 ∧ k (.inr (.inr (f x y)) :: r)
  | _ => False
def una (f : Int → Int) (st : List AV) (k : List AV → Prop) : Prop := match st with
  | .inl x :: r => k (.inl (f x) :: r)
  | _ => False
def lcmpZ (x y : Int) : Int := if y < x then 1 else if x = y then 0 else -1
def zshl (x y : Int) : Int := (iI x <<< (iI y &&& 31)).toInt
def zshr (x y : Int) : Int := (iI x >>> (iI y &&& 31)).toInt
def zand (x y : Int) : Int := (iI x &&& iI y).toInt
def zor (x y : Int) : Int := (iI x ||| iI y).toInt
def zxor (x y : Int) : Int := (iI x ^^^ iI y).toInt
def zi2b (x : Int) : Int := (iI x).toInt8.toInt32.toInt
def zi2s (x : Int) : Int := (iI x).toInt16.toInt32.toInt
def acV (sh : Nat × Nat × List (Option Nat)) (ro : Nat → Option (Nat × (Nat → Int))) (σ : HP) (p : Nat) (i : Int) (k : Int → Prop) : Prop := match sh with
  | (0, n, _) => 0 ≤ i ∧ i < (n : Int) ∧ k (σ p i.toNat)
  | (9, _, _) => (match ro p with
    | some (n, f) => 0 ≤ i ∧ i < (n : Int) ∧ k (f i.toNat)
    | none => False)
  | _ => False
def acK (kd : Nat) (sh : Nat × Nat × List (Option Nat)) (i : Int) (k : Prop) : Prop := sh.1 = kd ∧ 0 ≤ i ∧ i < (sh.2.1 : Int) ∧ k
/-- what comes to be by System.arraycopy -/
def hcpy (σ : HP) (a : Nat) (sp : Int) (b : Nat) (dp n : Int) : HP := fun q j => if q = b ∧ dp.toNat ≤ j ∧ j < dp.toNat + n.toNat then σ a (sp.toNat + (j - dp.toNat)) else σ q j
def acpy (st : List AV) (σ : HP) (k : List AV → HP → Prop) : Prop := match st with
  | .inl n :: .inl dp :: .inr (.inl b) :: .inl sp :: .inr (.inl a) :: r => a < 76 ∧ b < 76 ∧ (SH a).1 = 0 ∧ (SH b).1 = 0 ∧ r.length ≤ 2 ∧ 0 ≤ sp ∧ 0 ≤ dp ∧ 0 ≤ n ∧ sp + n ≤ ((SH a).2.1 : Int) ∧ dp + n ≤ ((SH b).2.1 : Int) ∧ k r (hcpy σ a sp b dp n)
  | _ => False
def inv (mT : Nat → Option (Nat × Bool × MSpec)) (i : Nat) (is : Bool) (st : List AV) (σ : HP) (k : List AV → HP → Prop) : Prop := match mT i with
  | some (n, b, S) => b = is ∧ n ≤ st.length ∧ (st.drop n).length ≤ 4 ∧ S (st.take n).reverse σ (fun r σ' => k (r.toList ++ st.drop n) σ')
  | none => False
def stp (cp : Nat → Option CE) (mT : Nat → Option (Nat × Bool × MSpec)) (ro : Nat → Option (Nat × (Nat → Int))) (rk : Nat) (RT : Option AV → HP → Prop) (i : Instr) (len pc : Nat) (ls : LSt) (st : List AV) (σ : HP) (k : KT) : Prop := match i with
  | .iconst n => k (pc + len) ls (.inl n :: st) σ
  | .bipush n => (-128 ≤ n ∧ n < 128) ∧ k (pc + len) ls (.inl n :: st) σ
  | .sipush n => (-32768 ≤ n ∧ n < 32768) ∧ k (pc + len) ls (.inl n :: st) σ
  | .lconst n => k (pc + len) ls (.inr (.inr (n.val : Int)) :: st) σ
  | .ldc j => (match cp j with | some (1, z, _) => k (pc + len) ls (.inl z :: st) σ | _ => False)
  | .ldc_w j => (match cp j with | some (1, z, _) => k (pc + len) ls (.inl z :: st) σ | _ => False)
  | .ldc2_w j => (match cp j with | some (2, z, _) => k (pc + len) ls (.inr (.inr z) :: st) σ | _ => False)
  | .iload_n j => ldI ls j.val st (fun st => k (pc + len) ls st σ)
  | .iload j => ldI ls j st (fun st => k (pc + len) ls st σ)
  | .aload_n j => ldA ls j.val st (fun st => k (pc + len) ls st σ)
  | .aload j => ldA ls j st (fun st => k (pc + len) ls st σ)
  | .lload_n j => ldL ls j.val st (fun st => k (pc + len) ls st σ)
  | .lload j => ldL ls j st (fun st => k (pc + len) ls st σ)
  | .istore_n j => stI ls j.val st (fun ls st => k (pc + len) ls st σ)
  | .istore j => stI ls j st (fun ls st => k (pc + len) ls st σ)
  | .astore_n j => stA ls j.val st (fun ls st => k (pc + len) ls st σ)
  | .astore j => stA ls j st (fun ls st => k (pc + len) ls st σ)
  | .lstore_n j => stL ls j.val st (fun ls st => k (pc + len) ls st σ)
  | .lstore j => stL ls j st (fun ls st => k (pc + len) ls st σ)
  | .iinc j n => ldI ls j st (fun s2 => match s2 with | .inl z :: _ => j < ls.length ∧ k (pc + len) (st1 ls j (.inl (z + n))) st σ | _ => False)
  | .iadd => bin (fun x y => x + y) st (fun st => k (pc + len) ls st σ)
  | .isub => bin (fun x y => x - y) st (fun st => k (pc + len) ls st σ)
  | .imul => bin (fun x y => x * y) st (fun st => k (pc + len) ls st σ)
  | .ishl => bin zshl st (fun st => k (pc + len) ls st σ)
  | .ishr => bin zshr st (fun st => k (pc + len) ls st σ)
  | .iand => bin zand st (fun st => k (pc + len) ls st σ)
  | .ior => bin zor st (fun st => k (pc + len) ls st σ)
  | .ixor => bin zxor st (fun st => k (pc + len) ls st σ)
  | .idiv => binD Int.tdiv st (fun st => k (pc + len) ls st σ)
  | .irem => binD Int.tmod st (fun st => k (pc + len) ls st σ)
  | .ineg => una (fun x => -x) st (fun st => k (pc + len) ls st σ)
  | .i2b => una zi2b st (fun st => k (pc + len) ls st σ)
  | .i2s => una zi2s st (fun st => k (pc + len) ls st σ)
  | .i2l => (match st with | .inl x :: r => R32 x ∧ k (pc + len) ls (.inr (.inr x) :: r) σ | _ => False)
  | .l2i => (match st with | .inr (.inr x) :: r => k (pc + len) ls (.inl x :: r) σ | _ => False)
  | .ladd => binL (fun x y => x + y) st (fun st => k (pc + len) ls st σ)
  | .lmul => binL (fun x y => x * y) st (fun st => k (pc + len) ls st σ)
  | .ldiv => binDL Int.tdiv st (fun st => k (pc + len) ls st σ)
  | .lrem => binDL Int.tmod st (fun st => k (pc + len) ls st σ)
  | .lcmp => (match st with | .inr (.inr y) :: .inr (.inr x) :: r => R64 x ∧ R64 y ∧ k (pc + len) ls (.inl (lcmpZ x y) :: r) σ | _ => False)
  | .dup => (match st with
    | .inl x :: r => k (pc + len) ls (.inl x :: .inl x :: r) σ
    | .inr (.inl x) :: r => k (pc + len) ls (.inr (.inl x) :: .inr (.inl x) :: r) σ
    | _ => False)
  | .pop => (match st with
    | .inl _ :: r => k (pc + len) ls r σ
    | .inr (.inl _) :: r => k (pc + len) ls r σ
    | _ => False)
  | .dup2 => (match st with
    | .inl y :: .inr (.inl x) :: r => k (pc + len) ls (.inl y :: .inr (.inl x) :: .inl y :: .inr (.inl x) :: r) σ
    | _ => False)
  | .goto o => tgo pc o (fun q => k q ls st σ)
  | .ifCond c o => (match st with
    | .inl x :: r => R32 x ∧ 0 ≤ (pc : Int) + o ∧ (cndZ c x 0 → k ((pc : Int) + o).toNat ls r σ) ∧ (¬ cndZ c x 0 → k (pc + len) ls r σ)
    | _ => False)
  | .if_icmp c o => (match st with
    | .inl y :: .inl x :: r => R32 x ∧ R32 y ∧ 0 ≤ (pc : Int) + o ∧ (cndZ c x y → k ((pc : Int) + o).toNat ls r σ) ∧ (¬ cndZ c x y → k (pc + len) ls r σ)
    | _ => False)
  | .tableswitch d lo hi os => (match st with
    | .inl x :: r => R32 x ∧ hi + 1 = lo + (os.size : Int) ∧ (x < lo ∨ hi < x → tgo pc d (fun q => k q ls r σ)) ∧ tsw pc x (fun q => k q ls r σ) lo os.toList
    | _ => False)
  | .lookupswitch d ps => (match st with
    | .inl x :: r => R32 x ∧ (ps.toList.zip (ps.toList.drop 1)).all (fun (a, next) => a.1 < next.1) = true ∧ lsw pc x d (fun q => k q ls r σ) ps.toList
    | _ => False)
  | .getfield j => gfX (cpF (cp j)) st σ (fun st => k (pc + len) ls st σ)
  | .putfield j => pfX (cpP (cp j)) st σ (fun st σ => k (pc + len) ls st σ)
  | .getstatic j => (match cp j with
    | some (3, _, p, _) => k (pc + len) ls (.inr (.inl p) :: st) σ
    | _ => False)
  | .iaload => (match st with
    | .inl i :: .inr (.inl p) :: r => acV (SH p) ro σ p i (fun v => k (pc + len) ls (.inl v :: r) σ)
    | _ => False)
  | .laload => (match st with
    | .inl i :: .inr (.inl p) :: r => p < 76 ∧ acK 1 (SH p) i (k (pc + len) ls (.inr (.inr (σ p i.toNat)) :: r) σ)
    | _ => False)
  | .baload => (match st with
    | .inl i :: .inr (.inl p) :: r => p < 76 ∧ acK 2 (SH p) i (k (pc + len) ls (.inl (σ p i.toNat) :: r) σ)
    | _ => False)
  | .aaload => (match st with
    | .inl i :: .inr (.inl p) :: r => p < 76 ∧ acK 3 (SH p) i (match rnth (SH p).2.2 i.toNat with | some (some q) => k (pc + len) ls (.inr (.inl q) :: r) σ | _ => False)
    | _ => False)
  | .iastore => (match st with
    | .inl v :: .inl i :: .inr (.inl p) :: r => p < 76 ∧ acK 0 (SH p) i (k (pc + len) ls r (hset σ p i.toNat v))
    | _ => False)
  | .lastore => (match st with
    | .inr (.inr v) :: .inl i :: .inr (.inl p) :: r => p < 76 ∧ acK 1 (SH p) i (k (pc + len) ls r (hset σ p i.toNat v))
    | _ => False)
  | .bastore => (match st with
    | .inl v :: .inl i :: .inr (.inl p) :: r => p < 76 ∧ (v = 0 ∨ v = 1) ∧ acK 2 (SH p) i (k (pc + len) ls r (hset σ p i.toNat v))
    | _ => False)
  | .arraylength => (match st with
    | .inr (.inl p) :: r => (match ro p with | some (n, _) => k (pc + len) ls (.inl (n : Int) :: r) σ | none => False)
    | _ => False)
  | .invokestatic j => (match cp j with
    | some (4, _) => acpy st σ (fun st σ => k (pc + len) ls st σ)
    | _ => inv mT j false st σ (fun st σ => k (pc + len) ls st σ))
  | .invokevirtual j => inv mT j true st σ (fun st σ => k (pc + len) ls st σ)
  | .ireturn => (match st with
    | [.inl v] => (rk = 1 ∨ (rk = 2 ∧ (v = 0 ∨ v = 1))) ∧ RT (some (.inl v)) σ
    | _ => False)
  | .lreturn => (match st with
    | [.inr (.inr v)] => rk = 3 ∧ RT (some (.inr (.inr v))) σ
    | _ => False)
  | .areturn => (match st with
    | [.inr (.inl v)] => rk = 4 ∧ RT (some (.inr (.inl v))) σ
    | _ => False)
  | .return_ => (match st with
    | [] => rk = 0 ∧ RT none σ
    | _ => False)
  | _ => False
def ilen (i : Instr) : Nat := match i with
  | .bipush _ => 2
  | .sipush _ => 3
  | .ldc _ => 2
  | .ldc_w _ => 3
  | .ldc2_w _ => 3
  | .iload _ => 2
  | .aload _ => 2
  | .lload _ => 2
  | .istore _ => 2
  | .astore _ => 2
  | .lstore _ => 2
  | .iinc _ _ => 3
  | .goto _ => 3
  | .ifCond _ _ => 3
  | .if_icmp _ _ => 3
  | .tableswitch _ _ _ _ => 0
  | .lookupswitch _ _ => 0
  | .getfield _ => 3
  | .putfield _ => 3
  | .getstatic _ => 3
  | .invokestatic _ => 3
  | .invokevirtual _ => 3
  | _ => 1
def wp (cc : ByteArray) (cp : Nat → Option CE) (mT : Nat → Option (Nat × Bool × MSpec)) (ro : Nat → Option (Nat × (Nat → Int))) (rk : Nat) (RT : Option AV → HP → Prop) (K : KT) (stop : Nat → Bool) : Nat → KT
  | 0, pc, ls, st, σ => K pc ls st σ
  | n + 1, pc, ls, st, σ => match decode cc pc with
    | .ok (i, len) => (ilen i = 0 ∨ ilen i = len) ∧ stp cp mT ro rk RT i len pc ls st σ (fun pc' ls' st' σ' => if stop pc' = true then K pc' ls' st' σ' else wp cc cp mT ro rk RT K stop n pc' ls' st' σ')
    | .error _ => False
end
section
/-! ===== the abstract machine is the machine ===== -/
def isL (v : AV) : Bool := match v with
  | .inr (.inr _) => true
  | _ => false
theorem cv_cat (ad : Nat → Nat) (v : AV) : (cv ad v).category = if isL v = true then 2 else 1 := by
  rcases v with z | k | z <;> rfl
def lvp (ad : Nat → Nat) : Nat → LSt → List (Nat × Value)
  | _, [] => []
  | k, none :: r => lvp ad (k + 1) r
  | k, some v :: r => (k, cv ad v) :: lvp ad (k + 1) r
theorem lvp_mem {ad : Nat → Nat} : ∀ (ls : LSt) (k i : Nat) (v : AV), lnth ls i = some v → (k + i, cv ad v) ∈ lvp ad k ls
  | [], k, i, v, h => by simp [lnth] at h
  | none :: r, k, 0, v, h => by simp [lnth] at h
  | some w :: r, k, 0, v, h => by
    simp only [lnth, Option.some.injEq] at h
    subst h
    exact List.mem_cons_self
  | none :: r, k, i + 1, v, h => by
    have := lvp_mem (ad := ad) r (k + 1) i v h
    rw [show k + (i + 1) = k + 1 + i by omega]
    exact this
  | some w :: r, k, i + 1, v, h => by
    have := lvp_mem (ad := ad) r (k + 1) i v h
    rw [show k + (i + 1) = k + 1 + i by omega]
    exact List.mem_cons_of_mem _ this
theorem lvp_inv {ad : Nat → Nat} : ∀ (ls : LSt) (k : Nat) (q : Nat × Value), q ∈ lvp ad k ls → ∃ (i : Nat) (v : AV), lnth ls i = some v ∧ q = (k + i, cv ad v)
  | [], k, q, h => by simp [lvp] at h
  | none :: r, k, q, h => by
    obtain ⟨i, v, h1, h2⟩ := lvp_inv r (k + 1) q h
    exact ⟨i + 1, v, h1, by rw [h2, show k + 1 + i = k + (i + 1) by omega]⟩
  | some w :: r, k, q, h => by
    rcases List.mem_cons.mp h with h | h
    · exact ⟨0, w, rfl, h⟩
    · obtain ⟨i, v, h1, h2⟩ := lvp_inv r (k + 1) q h
      exact ⟨i + 1, v, h1, by rw [h2, show k + 1 + i = k + (i + 1) by omega]⟩
theorem nolong_some {o : Option AV} {w : AV} (h : nolong o = some w) : o = some w ∧ isL w = false := by
  rcases o with _ | z | k | z
  · simp [nolong] at h
  · simp [nolong] at h; subst h; exact ⟨rfl, rfl⟩
  · simp [nolong] at h; subst h; exact ⟨rfl, rfl⟩
  · simp [nolong] at h
theorem st1_nth : ∀ (ls : LSt) (i j : Nat) (v w : AV), lnth (st1 ls i v) j = some w → (j = i ∧ w = v) ∨ (j ≠ i ∧ lnth ls j = some w ∧ ¬ (j + 1 = i ∧ isL w = true))
  | [], i, j, v, w, h => by simp [st1, lnth] at h
  | o :: r, 0, 0, v, w, h => by
    simp only [st1, lnth, Option.some.injEq] at h
    exact Or.inl ⟨rfl, h.symm⟩
  | o :: r, 0, j + 1, v, w, h => Or.inr ⟨by omega, h, fun q => by omega⟩
  | o :: r, i + 1, 0, v, w, h => by
    simp only [st1, lnth] at h
    by_cases hi : i = 0
    · rw [if_pos hi] at h
      obtain ⟨h1, h2⟩ := nolong_some h
      exact Or.inr ⟨by omega, h1, fun q => by rw [h2] at q; exact absurd q.2 (by decide)⟩
    · rw [if_neg hi] at h
      exact Or.inr ⟨by omega, h, fun q => by omega⟩
  | o :: r, i + 1, j + 1, v, w, h => by
    rcases st1_nth r i j v w h with ⟨h1, h2⟩ | ⟨h1, h2, h3⟩
    · exact Or.inl ⟨by omega, h2⟩
    · exact Or.inr ⟨by omega, h2, fun q => h3 ⟨by omega, q.2⟩⟩
theorem st2_nth : ∀ (ls : LSt) (i j : Nat) (v w : AV), lnth (st2 ls i v) j = some w → (j = i ∧ w = v) ∨ (j ≠ i ∧ j ≠ i + 1 ∧ lnth ls j = some w ∧ ¬ (j + 1 = i ∧ isL w = true))
  | [], i, j, v, w, h => by simp [st2, lnth] at h
  | o :: r, 0, 0, v, w, h => by
    simp only [st2, lnth, Option.some.injEq] at h
    exact Or.inl ⟨rfl, h.symm⟩
  | o :: [], 0, j + 1, v, w, h => by simp [st2, nohead, lnth] at h
  | o :: o2 :: r, 0, 1, v, w, h => by simp [st2, nohead, lnth] at h
  | o :: o2 :: r, 0, j + 2, v, w, h => Or.inr ⟨by omega, by omega, h, fun q => by omega⟩
  | o :: r, i + 1, 0, v, w, h => by
    simp only [st2, lnth] at h
    by_cases hi : i = 0
    · rw [if_pos hi] at h
      obtain ⟨h1, h2⟩ := nolong_some h
      exact Or.inr ⟨by omega, by omega, h1, fun q => by rw [h2] at q; exact absurd q.2 (by decide)⟩
    · rw [if_neg hi] at h
      exact Or.inr ⟨by omega, by omega, h, fun q => by omega⟩
  | o :: r, i + 1, j + 1, v, w, h => by
    rcases st2_nth r i j v w h with ⟨h1, h2⟩ | ⟨h1, h2, h3, h4⟩
    · exact Or.inl ⟨by omega, h2⟩
    · exact Or.inr ⟨by omega, by omega, h3, fun q => h4 ⟨by omega, q.2⟩⟩
theorem st1_len : ∀ (ls : LSt) (i : Nat) (v : AV), (st1 ls i v).length = ls.length
  | [], _, _ => rfl
  | _ :: _, 0, _ => rfl
  | _ :: r, i + 1, v => congrArg Nat.succ (st1_len r i v)
theorem nohead_len : ∀ (ls : LSt), (nohead ls).length = ls.length
  | [] => rfl
  | _ :: _ => rfl
theorem st2_len : ∀ (ls : LSt) (i : Nat) (v : AV), (st2 ls i v).length = ls.length
  | [], _, _ => rfl
  | _ :: r, 0, _ => congrArg Nat.succ (nohead_len r)
  | _ :: r, i + 1, v => congrArg Nat.succ (st2_len r i v)
def LV (ad : Nat → Nat) (lsA : Array Slot) (nL : Nat) (ls : LSt) : Prop := ls.length = nL ∧ lv_has lsA nL (lvp ad 0 ls)
theorem LV.at {ad : Nat → Nat} {lsA : Array Slot} {nL : Nat} {ls : LSt} (h : LV ad lsA nL ls) {i : Nat} {v : AV} (hv : lnth ls i = some v) : lsA[i]? = some (.val (cv ad v)) := by
  have := h.2.2.2 _ (lvp_mem (ad := ad) ls 0 i v hv)
  rw [Nat.zero_add] at this
  exact this
theorem LV.put1 {ad : Nat → Nat} {lsA lsB : Array Slot} {nL : Nat} {ls : LSt} {i : Nat} {v : AV} (h : LV ad lsA nL ls) (hb : lv_has lsB nL ((i, cv ad v) :: (lvp ad 0 ls).filter (fun q => !(q.1 == i) && !(q.1 + 1 == i && q.2.category == 2)))) : LV ad lsB nL (st1 ls i v) := by
  refine ⟨by rw [st1_len]; exact h.1, hb.1, hb.2.1, fun q hq => hb.2.2 q ?_⟩
  obtain ⟨j, w, h1, rfl⟩ := lvp_inv _ _ _ hq
  rw [Nat.zero_add]
  rcases st1_nth ls i j v w h1 with ⟨rfl, rfl⟩ | ⟨h2, h3, h4⟩
  · exact List.mem_cons_self
  · refine List.mem_cons_of_mem _ (List.mem_filter.mpr ⟨by have := lvp_mem (ad := ad) ls 0 j w h3; rw [Nat.zero_add] at this; exact this, ?_⟩)
    have e1 : (j == i) = false := by simpa using h2
    show (!(j == i) && !(j + 1 == i && (cv ad w).category == 2)) = true
    rw [e1, cv_cat]
    by_cases hw : isL w = true
    · have e2 : (j + 1 == i) = false := by
        have : j + 1 ≠ i := fun z => h4 ⟨z, hw⟩
        simpa using this
      rw [e2]; rfl
    · rw [if_neg hw]
      simp
theorem LV.put2 {ad : Nat → Nat} {lsA lsB : Array Slot} {nL : Nat} {ls : LSt} {i : Nat} {v : AV} (h : LV ad lsA nL ls) (hb : lv_has lsB nL ((i, cv ad v) :: (lvp ad 0 ls).filter (fun q => !(q.1 == i) && (!(q.1 == i + 1) && !(q.1 + 1 == i && q.2.category == 2))))) : LV ad lsB nL (st2 ls i v) := by
  refine ⟨by rw [st2_len]; exact h.1, hb.1, hb.2.1, fun q hq => hb.2.2 q ?_⟩
  obtain ⟨j, w, h1, rfl⟩ := lvp_inv _ _ _ hq
  rw [Nat.zero_add]
  rcases st2_nth ls i j v w h1 with ⟨rfl, rfl⟩ | ⟨h2, h2', h3, h4⟩
  · exact List.mem_cons_self
  · refine List.mem_cons_of_mem _ (List.mem_filter.mpr ⟨by have := lvp_mem (ad := ad) ls 0 j w h3; rw [Nat.zero_add] at this; exact this, ?_⟩)
    have e1 : (j == i) = false := by simpa using h2
    have e3 : (j == i + 1) = false := by simpa using h2'
    show (!(j == i) && (!(j == i + 1) && !(j + 1 == i && (cv ad w).category == 2))) = true
    rw [e1, e3, cv_cat]
    by_cases hw : isL w = true
    · have e2 : (j + 1 == i) = false := by
        have : j + 1 ≠ i := fun z => h4 ⟨z, hw⟩
        simpa using this
      rw [e2]; rfl
    · rw [if_neg hw]
      simp
/-- what a state must know of the classes, of the static arrays, of the nest mates' links -/
def tys0 (G : GT) : List (ClassId × FieldType) := [(G.2.1 0, .int), (G.2.1 1, .long), (G.2.1 2, .boolean), (G.2.1 3, .object RX4)]
abbrev RO : Type := Nat → Option (Nat × (Nat → Int))
def KNs (G : GT) (A : Nat → Prop) (ro : RO) (U : State) (H : Heap) : Prop :=
  va_K G.2.2 vwCl (tys0 G) U ∧ gInj G ∧ (va_Z RX1 "NEAREST" "[I" (.ref (G.1 76)) A U H ∧ va_Z RX1 "SIZE_BODIES" "[I" (.ref (G.1 77)) A U H ∧ va_Z RX1 "MARK_BODIES" "[I" (.ref (G.1 78)) A U H) ∧
  (∀ (k N : Nat) (f : Nat → Int), ro k = some (N, f) → va_T .int (G.1 k) N (fun j => .int (iI (f j))) A U H ∧ N < 2147483648) ∧
  va_Nw (.methodLinkNest RX6 76 yX7_isSignature RX7) U ∧ va_Nw (.methodLinkNest RX6 99 yX7_isKey RX7) U
def Aof (G : GT) : Nat → Prop := fun q => ∃ k, k < 76 ∧ q = G.1 k
theorem KNs.blind {G : GT} {A : Nat → Prop} {ro : RO} {U : State} {H : Heap} (h : KNs G A ro U H) {V : State} (hv : V.vm = U.vm) : KNs G A ro V H := by
  obtain ⟨h1, h2, ⟨z1, z2, z3⟩, h4, h5, h6⟩ := h
  have al : U.vm.Alike V.vm := by rw [hv]; exact Vm.Alike.refl U.vm
  exact ⟨va_K.moved al h1, h2, ⟨z1.moved al, z2.moved al, z3.moved al⟩, fun k N f hk => ⟨(h4 k N f hk).1.moved al, (h4 k N f hk).2⟩, va_Nw.same rfl hv.symm h5, va_Nw.same rfl hv.symm h6⟩
theorem KNs.move {G : GT} {A B : Nat → Prop} {ro ro' : RO} {s U : State} {H0 H : Heap} (h : KNs G A ro s H0) (hW : s.WarmedH U.vm) (hs : H0.size ≤ H.size) (hq : ∀ q : Nat, q < H0.size → ¬ A q → H[q]? = H0[q]?) (hB : ∀ q, B q → A q) (hro : ∀ k N f, ro' k = some (N, f) → ro k = some (N, f)) : KNs G B ro' U H := by
  obtain ⟨h1, h2, ⟨z1, z2, z3⟩, h4, h5, h6⟩ := h
  have al : s.vm.Alike U.vm := hW.alike
  refine ⟨va_K.moved al h1, h2, ⟨((z1.kept hq).narrow hB).moved al, ((z2.kept hq).narrow hB).moved al, ((z3.kept hq).narrow hB).moved al⟩, fun k N f hk => ?_, va_Nw.warmM hW h5, va_Nw.warmM hW h6⟩
  obtain ⟨g1, g4⟩ := h4 k N f (hro k N f hk)
  exact ⟨((g1.kept hq).narrow hB).moved al, g4⟩
def roS : RO := fun k => match k with
  | 76 => some (6, fun j => [0, 0, 1, 1, 0, 4].getD j 0)
  | 77 => some (6, fun j => [10, 11, 12, 11, 13, 14].getD j 0)
  | 78 => some (6, fun j => [20, 21, 24, 22, 23, 23].getD j 0)
  | _ => none
/-- a method's contract: from the world of σ, with the arguments a, it returns, and Q holds of the answer and of the new world -/
def rmOf (n : Nat) : Room := { frames := n + 1, cells := 0, slots := 0, locals := 60 * (n + 1) }
def Pc0 (G : GT) (a : List AV) (σ : HP) : Array Value → State → Prop := fun v U => v = (a.map (cv G.1)).toArray ∧ va_P G.2.2 vwCl (gw G σ) U.heap ∧ KNs G (Aof G) roS U U.heap
def Qc0 (G : GT) (Q : Option AV → HP → Prop) : Array Value → State → Outcome → State → Prop := fun _ st oc t => ∃ (r : Option AV) (σ : HP), oc = .returned (r.map (cv G.1)) ∧ Q r σ ∧ va_P G.2.2 vwCl (gw G σ) t.heap ∧ va_F (Aof G) st t
def AM (l : Launch) (n : Nat) (y : MethodName) (cc : ByteArray) (mL : Nat) (rt : Option FieldType) (a : List AV) (σ : HP) (Q : Option AV → HP → Prop) : Prop := ∀ G : GT, Met l y (Cond.code y cc mL rt :: gtb) (rmOf n) (Pc0 G a σ) (Qc0 G Q) 0 0 (Aof G)
theorem Pc0.blind {G : GT} {a : List AV} {σ : HP} : FrameBlind (Pc0 G a σ) := fun v U g mk h => ⟨h.1, h.2.1, h.2.2.blind rfl⟩
def cpV (own : String) (i : Nat) (e : CE) : Prop := match e with
  | (0, ci, k, _) => ∃ (C : String) (T : u_T) (N : Nat), vwCl[ci.toNat]? = some (C, T, N) ∧ k < N ∧ (∀ w ∈ u_ws C T N, w ∈ gtb) ∧ Cond.fieldLink own i (T k).1 (T k).2.1 (T k).2.2.1 ∈ gtb
  | (5, ci, k, b) => ∃ (C : String) (T : u_T) (N : Nat) (ty : Nat → FieldType), vwCl[ci.toNat]? = some (C, T, N) ∧ k < N ∧ (∀ w ∈ u_ws C T N, w ∈ gtb) ∧ Cond.fieldLink own i (T k).1 (T k).2.1 (T k).2.2.1 ∈ gtb ∧ (∀ k, k < N → parseFieldDescriptor (T k).2.2.1 = some (ty k)) ∧ (∀ a, a < N → ∀ b, b < N → a ≠ b → (T a).2.1 ≠ (T b).2.1) ∧ (T k).2.2.2 = false ∧ parseFieldDescriptor (T k).2.2.1 = some (if b = true then .boolean else .int)
  | (1, z, _) => Cond.constant own i (iI z) ∈ gtb
  | (2, z, _) => Cond.constantLong own i (iL z) ∈ gtb
  | (3, _, p, _) => (p = 76 ∧ Cond.fieldLink own i RX1 "NEAREST" "[I" ∈ gtb) ∨ (p = 77 ∧ Cond.fieldLink own i RX1 "SIZE_BODIES" "[I" ∈ gtb) ∨ (p = 78 ∧ Cond.fieldLink own i RX1 "MARK_BODIES" "[I" ∈ gtb)
  | (4, _) => Cond.methodLink own i arraycopyName ∈ gtb ∧ Cond.native arraycopyName ∈ gtb ∧ Cond.static arraycopyName ∈ gtb ∧ Cond.initialized "java/lang/System" ∈ gtb
  | _ => True
def mV (l : Launch) (R : Room) (own : String) (i : Nat) (e : Nat × Bool × MSpec) : Prop := ∃ (n : Nat) (y : MethodName) (bc : ByteArray) (mL : Nat) (rt : Option FieldType), (rmOf n).frames + 1 ≤ R.frames ∧ 8 + (mL + 11) + (rmOf n).locals ≤ R.locals ∧ Cond.code y bc mL rt ∈ gtb ∧ Cond.initialized y.cls ∈ gtb ∧ (y.cls ≠ "java/lang/invoke/MethodHandle" ∧ y.cls ≠ "java/lang/invoke/VarHandle") ∧
  ((e.2.1 = true ∧ (parseMethodDescriptor y.desc).map (fun d => d.parameters.length + 1) = some e.1 ∧ Cond.methodLink own i y ∈ gtb ∧ Cond.instanceMethod y ∈ gtb ∧ Cond.selects y.cls y y ∈ gtb ∧ ∃ (ci : Nat) (T : u_T) (N : Nat), vwCl[ci]? = some (y.cls, T, N) ∧ ∀ (a : List AV) (σ : HP) (Q : Option AV → HP → Prop), e.2.2 a σ Q → (∃ (p : Nat) (r : List AV), a = .inr (.inl p) :: r ∧ p < 76 ∧ (SH p).1 = 4 ∧ (SH p).2.1 = ci) ∧ AM l n y bc mL rt a σ Q) ∨
   (e.2.1 = false ∧ (parseMethodDescriptor y.desc).map (fun d => d.parameters.length) = some e.1 ∧ Cond.static y ∈ gtb ∧ (Cond.methodLink own i y ∈ gtb ∨ (own = RX6 ∧ ((i = 76 ∧ y = yX7_isSignature) ∨ (i = 99 ∧ y = yX7_isKey)))) ∧ ∀ (a : List AV) (σ : HP) (Q : Option AV → HP → Prop), e.2.2 a σ Q → AM l n y bc mL rt a σ Q))
section SND
variable {p : Program} {l : Launch} {e : Env} {R : Room} {s : State} {m : MethodId} {args : Array Value} {below : List Frame} {meth : Method} {c : Code} {cells slots : Nat}
def AW (p : Program) (l : Launch) (e : Env) (R : Room) (s : State) (m : MethodId) (args : Array Value) (below : List Frame) (meth : Method) (c : Code) (cells slots : Nat) (A : Nat → Prop) (Qf : State → Prop) (nL : Nat) (G : GT) : KT := fun pc ls st σ =>
  ∀ (H : Heap) (locs : List Loc) (lsA : Array Slot), va_P G.2.2 vwCl (gw G σ) H → va_S A s.heap H locs → LV G.1 lsA nL ls → W p l e R s m args below meth c H locs cells slots Qf (F0 m pc lsA (st.map (cv G.1)))
def CX (p : Program) (l : Launch) (R : Room) (s : State) (m : MethodId) (args : Array Value) (c : Code) (cells slots : Nat) (A : Nat → Prop) (cc : ByteArray) (own : String) (nL : Nat) (G : GT) (cp : Nat → Option CE) (mT : Nat → Option (Nat × Bool × MSpec)) (ro : RO) : Prop :=
  p.tables.exec = Jvm.exec ∧ c.code = cc ∧ c.maxLocals = nL ∧ s.vm.findClass own = some m.cls ∧ (∀ w ∈ gtb, w.before args s = true) ∧ (1 ≤ R.frames ∧ 60 ≤ R.locals ∧ cells ≤ R.cells ∧ slots ≤ R.slots) ∧ KNs G A ro s s.heap ∧ (∀ k, k < 76 → A (G.1 k)) ∧ (∀ k N f, roS k = some (N, f) → ro k = some (N, f)) ∧ (∀ i e, cp i = some e → cpV own i e) ∧ ∀ i e, mT i = some e → mV l R own i e
variable {A : Nat → Prop} {Qf : State → Prop} {nL : Nat} {G : GT} {cc : ByteArray} {own : String} {cp : Nat → Option CE} {mT : Nat → Option (Nat × Bool × MSpec)} {ro : RO}
theorem aw_run {pc : Nat} {lsA : Array Slot} {st0 rest : List Value} {H : Heap} {locs : List Loc} {Q : Option AV → HP → Prop} {a : Array Value} (hr : va_Run p l e R s m args below meth c H locs cells slots 0 0 (F0 m pc lsA st0) rest (Qc0 G Q a) (Aof G)) (hS : va_S A s.heap H locs) (hA : ∀ q, Aof G q → A q)
    (kk : ∀ (r : Option AV) (σ : HP) (H1 : Heap) (locs1 : List Loc), Q r σ → va_P G.2.2 vwCl (gw G σ) H1 → va_S A s.heap H1 locs1 → W p l e R s m args below meth c H1 locs1 cells slots Qf (F0 m (pc + 3) lsA ((r.map (cv G.1)).toList ++ rest))) : W p l e R s m args below meth c H locs cells slots Qf (F0 m pc lsA st0) := by
  intro T hT X
  obtain ⟨v, st₀, t, T', L, h0, X', hL, e1, e2, ⟨r, σ, hv, hq, hP, hz, hk⟩, stp⟩ := hr T hT X
  have hv' : v = r.map (cv G.1) := Outcome.returned.inj hv
  subst hv'
  rw [h0] at hz hk
  obtain ⟨t2, a1, b1⟩ := kk r σ T'.heap (locs ++ L) hq (by rw [e1]; exact hP) ⟨Nat.le_trans hS.1 (by rw [e1]; exact hz), fun q h1 h2 => by rw [e1, hk q (Nat.lt_of_lt_of_le h1 hS.1) (fun z => h2 (hA q z))]; exact hS.2.1 q h1 h2, fun q hq => by
      rcases List.mem_append.mp hq with h | h
      · exact hS.2.2 q h
      · exact hA _ (hL q h)⟩ T' rfl X'
  exact ⟨t2, stp t2 a1, b1⟩
end SND
end
section
/-! ===== each instruction of the abstract machine is the machine's ===== -/
theorem ldI_inv {ls : LSt} {j : Nat} {st : List AV} {k : List AV → Prop} (h : ldI ls j st k) : ∃ z, lnth ls j = some (.inl z) ∧ k (.inl z :: st) := by
  unfold ldI at h
  split at h
  · exact ⟨_, ‹_›, h⟩
  · exact h.elim
theorem ldA_inv {ls : LSt} {j : Nat} {st : List AV} {k : List AV → Prop} (h : ldA ls j st k) : ∃ z, lnth ls j = some (.inr (.inl z)) ∧ k (.inr (.inl z) :: st) := by
  unfold ldA at h
  split at h
  · exact ⟨_, ‹_›, h⟩
  · exact h.elim
theorem ldL_inv {ls : LSt} {j : Nat} {st : List AV} {k : List AV → Prop} (h : ldL ls j st k) : ∃ z, lnth ls j = some (.inr (.inr z)) ∧ k (.inr (.inr z) :: st) := by
  unfold ldL at h
  split at h
  · exact ⟨_, ‹_›, h⟩
  · exact h.elim
theorem stI_inv {ls : LSt} {j : Nat} {st : List AV} {k : LSt → List AV → Prop} (h : stI ls j st k) : ∃ z r, st = .inl z :: r ∧ j < ls.length ∧ k (st1 ls j (.inl z)) r := by
  unfold stI at h
  split at h
  · exact ⟨_, _, rfl, h⟩
  · exact h.elim
theorem stA_inv {ls : LSt} {j : Nat} {st : List AV} {k : LSt → List AV → Prop} (h : stA ls j st k) : ∃ z r, st = .inr (.inl z) :: r ∧ j < ls.length ∧ k (st1 ls j (.inr (.inl z))) r := by
  unfold stA at h
  split at h
  · exact ⟨_, _, rfl, h⟩
  · exact h.elim
theorem stL_inv {ls : LSt} {j : Nat} {st : List AV} {k : LSt → List AV → Prop} (h : stL ls j st k) : ∃ z r, st = .inr (.inr z) :: r ∧ j + 1 < ls.length ∧ k (st2 ls j (.inr (.inr z))) r := by
  unfold stL at h
  split at h
  · exact ⟨_, _, rfl, h⟩
  · exact h.elim
theorem bin_inv {f : Int → Int → Int} {st : List AV} {k : List AV → Prop} (h : bin f st k) : ∃ x y r, st = .inl y :: .inl x :: r ∧ k (.inl (f x y) :: r) := by
  unfold bin at h
  split at h
  · exact ⟨_, _, _, rfl, h⟩
  · exact h.elim
theorem binD_inv {f : Int → Int → Int} {st : List AV} {k : List AV → Prop} (h : binD f st k) : ∃ x y r, st = .inl y :: .inl x :: r ∧ R32 x ∧ R32 y ∧ y ≠ 0 ∧ k (.inl (f x y) :: r) := by
  unfold binD at h
  split at h
  · exact ⟨_, _, _, rfl, h⟩
  · exact h.elim
theorem binL_inv {f : Int → Int → Int} {st : List AV} {k : List AV → Prop} (h : binL f st k) : ∃ x y r, st = .inr (.inr y) :: .inr (.inr x) :: r ∧ k (.inr (.inr (f x y)) :: r) := by
  unfold binL at h
  split at h
  · exact ⟨_, _, _, rfl, h⟩
  · exact h.elim
theorem binDL_inv {f : Int → Int → Int} {st : List AV} {k : List AV → Prop} (h : binDL f st k) : ∃ x y r, st = .inr (.inr y) :: .inr (.inr x) :: r ∧ R64 x ∧ R64 y ∧ y ≠ 0 ∧ k (.inr (.inr (f x y)) :: r) := by
  unfold binDL at h
  split at h
  · exact ⟨_, _, _, rfl, h⟩
  · exact h.elim
theorem una_inv {f : Int → Int} {st : List AV} {k : List AV → Prop} (h : una f st k) : ∃ x r, st = .inl x :: r ∧ k (.inl (f x) :: r) := by
  unfold una at h
  split at h
  · exact ⟨_, _, rfl, h⟩
  · exact h.elim
theorem gfX_inv {e : Option (Nat × Nat)} {st : List AV} {σ : HP} {k : List AV → Prop} (h : gfX e st σ k) : ∃ ci f p r v, e = some (ci, f) ∧ st = .inr (.inl p) :: r ∧ p < 76 ∧ gfV (SH p) σ p ci f = some v ∧ k (v :: r) := by
  unfold gfX at h
  split at h
  · split at h
    · obtain ⟨h1, h2⟩ := h
      split at h2
      · exact ⟨_, _, _, _, _, rfl, rfl, h1, ‹_›, h2⟩
      · exact h2.elim
    · exact h.elim
  · exact h.elim
theorem pfX_inv {e : Option (Nat × Nat × Bool)} {st : List AV} {σ : HP} {k : List AV → HP → Prop} (h : pfX e st σ k) : ∃ ci f b v p r, e = some (ci, f, b) ∧ st = .inl v :: .inr (.inl p) :: r ∧ p < 76 ∧ pfV (SH p) ci f = true ∧ (b = true → v = 0 ∨ v = 1) ∧ k r (hset σ p f v) := by
  unfold pfX at h
  split at h
  · split at h
    · exact ⟨_, _, _, _, _, _, rfl, rfl, h⟩
    · exact h.elim
  · exact h.elim
theorem cpF_inv {e : Option CE} {ci f : Nat} (h : cpF e = some (ci, f)) : ∃ z b, (e = some (0, z, f, b) ∨ e = some (5, z, f, b)) ∧ ci = z.toNat := by
  unfold cpF at h
  split at h
  · cases h; exact ⟨_, _, Or.inl rfl, rfl⟩
  · cases h; exact ⟨_, _, Or.inr rfl, rfl⟩
  · cases h
theorem cpP_inv {e : Option CE} {ci f : Nat} {b : Bool} (h : cpP e = some (ci, f, b)) : ∃ z, e = some (5, z, f, b) ∧ ci = z.toNat := by
  unfold cpP at h
  split at h
  · cases h; exact ⟨_, rfl, rfl⟩
  · cases h
theorem ceV_get (ad : Nat → Nat) (f : Nat → Int) : ∀ (rs : List (Option Nat)) (k j : Nat), (ceV ad f k rs)[j]? = (rnth rs j).map (fun o => match o with | some q => Value.ref (ad q) | none => Value.int (iI (f (k + j))))
  | [], k, j => by simp [ceV, rnth]
  | none :: r, k, 0 => by simp [ceV, rnth]
  | some q :: r, k, 0 => by simp [ceV, rnth]
  | none :: r, k, j + 1 => by
    have := ceV_get ad f r (k + 1) j
    simp only [ceV, rnth, List.getElem?_cons_succ]
    rw [this, show k + 1 + j = k + (j + 1) by omega]
  | some q :: r, k, j + 1 => by
    have := ceV_get ad f r (k + 1) j
    simp only [ceV, rnth, List.getElem?_cons_succ]
    rw [this, show k + 1 + j = k + (j + 1) by omega]
theorem ceV_len (ad : Nat → Nat) (f : Nat → Int) : ∀ (rs : List (Option Nat)) (k : Nat), (ceV ad f k rs).length = rs.length
  | [], k => rfl
  | none :: r, k => congrArg Nat.succ (ceV_len ad f r (k + 1))
  | some q :: r, k => congrArg Nat.succ (ceV_len ad f r (k + 1))
theorem rnth_lt : ∀ (rs : List (Option Nat)) (j : Nat) (o : Option Nat), rnth rs j = some o → j < rs.length
  | [], j, o, h => by simp [rnth] at h
  | _ :: r, 0, o, h => by simp
  | _ :: r, j + 1, o, h => by simpa using rnth_lt r j o h
theorem rnth_getD : ∀ (rs : List (Option Nat)) (j : Nat) (o : Option Nat), rnth rs j = some o → rs.getD j none = o
  | [], j, o, h => by simp [rnth] at h
  | _ :: r, 0, o, h => by simpa [rnth] using h
  | _ :: r, j + 1, o, h => by
    have := rnth_getD r j o h
    simpa using this
/-- one number of an object is another -/
theorem ceV_set (ad : Nat → Nat) (f : Nat → Int) (v : Int) : ∀ (rs : List (Option Nat)) (k j : Nat), rnth rs j = some none → ceV ad (fun q => if q = k + j then v else f q) k rs = (ceV ad f k rs).set j (.int (iI v))
  | [], k, j, h => by simp [rnth] at h
  | none :: r, k, 0, h => by
    simp only [ceV, List.set_cons_zero, Nat.add_zero, if_true]
    congr 1
    have : ∀ (r : List (Option Nat)) (a : Nat), k < a → ceV ad (fun q => if q = k then v else f q) a r = ceV ad f a r := by
      intro r
      induction r with
      | nil => intro a _; rfl
      | cons o r ih =>
        intro a ha
        rcases o with _ | q
        · simp only [ceV]
          rw [ih (a + 1) (by omega), if_neg (by omega)]
        · simp only [ceV]
          rw [ih (a + 1) (by omega)]
    exact this r (k + 1) (by omega)
  | some q :: r, k, 0, h => by simp [rnth] at h
  | none :: r, k, j + 1, h => by
    have := ceV_set ad f v r (k + 1) j h
    simp only [ceV, List.set_cons_succ]
    rw [show k + (j + 1) = k + 1 + j by omega, this, if_neg (by omega)]
  | some q :: r, k, j + 1, h => by
    have := ceV_set ad f v r (k + 1) j h
    simp only [ceV, List.set_cons_succ]
    rw [show k + (j + 1) = k + 1 + j by omega, this]
theorem ce_obj {G : GT} {sh : Nat × Nat × List (Option Nat)} {f : Nat → Int} (h : sh.1 = 4) : ce G sh f = .inr (sh.2.1, ceV G.1 f 0 sh.2.2) := by
  obtain ⟨a, b, c⟩ := sh
  simp only at h
  subst h
  rfl
theorem ce_int {G : GT} {sh : Nat × Nat × List (Option Nat)} {f : Nat → Int} (h : sh.1 = 0) : ce G sh f = .inl (G.2.1 0, sh.2.1, .inl (fun j => iI (f j))) := by
  obtain ⟨a, b, c⟩ := sh
  simp only at h
  subst h
  rfl
theorem ce_long {G : GT} {sh : Nat × Nat × List (Option Nat)} {f : Nat → Int} (h : sh.1 = 1) : ce G sh f = .inl (G.2.1 1, sh.2.1, .inr (.inl (fun j => iL (f j)))) := by
  obtain ⟨a, b, c⟩ := sh
  simp only at h
  subst h
  rfl
theorem ce_bool {G : GT} {sh : Nat × Nat × List (Option Nat)} {f : Nat → Int} (h : sh.1 = 2) : ce G sh f = .inl (G.2.1 2, sh.2.1, .inl (fun j => iI (f j))) := by
  obtain ⟨a, b, c⟩ := sh
  simp only at h
  subst h
  rfl
theorem ce_refs {G : GT} {sh : Nat × Nat × List (Option Nat)} {f : Nat → Int} (h : sh.1 = 3) : ce G sh f = .inl (G.2.1 3, sh.2.1, .inr (.inr (.inr (.inr (fun j => (sh.2.2.getD j none).map G.1))))) := by
  obtain ⟨a, b, c⟩ := sh
  simp only at h
  subst h
  rfl
theorem gfV_inv {sh : Nat × Nat × List (Option Nat)} {σ : HP} {p ci k : Nat} {v : AV} (h : gfV sh σ p ci k = some v) : sh.1 = 4 ∧ sh.2.1 = ci ∧ ∃ o, rnth sh.2.2 k = some o ∧ v = (match o with | some q => .inr (.inl q) | none => .inl (σ p k)) := by
  obtain ⟨a, b, c⟩ := sh
  unfold gfV at h
  split at h
  · rename_i cj rs heq
    cases heq
    split at h
    · rename_i hc
      split at h
      · rename_i q hq
        cases h
        exact ⟨rfl, hc, _, hq, rfl⟩
      · rename_i hq
        cases h
        exact ⟨rfl, hc, _, hq, rfl⟩
      · cases h
    · cases h
  · cases h
theorem pfV_inv {sh : Nat × Nat × List (Option Nat)} {ci k : Nat} (h : pfV sh ci k = true) : sh.1 = 4 ∧ sh.2.1 = ci ∧ rnth sh.2.2 k = some none := by
  obtain ⟨a, b, c⟩ := sh
  unfold pfV at h
  split at h
  · rename_i cj rs heq
    cases heq
    split at h
    · rename_i hc
      split at h
      · exact ⟨rfl, hc, ‹_›⟩
      · cases h
    · cases h
  · cases h
theorem acV_inv {sh : Nat × Nat × List (Option Nat)} {ro : RO} {σ : HP} {p : Nat} {i : Int} {k : Int → Prop} (h : acV sh ro σ p i k) : (sh.1 = 0 ∧ 0 ≤ i ∧ i < (sh.2.1 : Int) ∧ k (σ p i.toNat)) ∨ (sh.1 = 9 ∧ ∃ n f, ro p = some (n, f) ∧ 0 ≤ i ∧ i < (n : Int) ∧ k (f i.toNat)) := by
  obtain ⟨a, b, c⟩ := sh
  unfold acV at h
  split at h
  · rename_i n x heq
    cases heq
    exact Or.inl ⟨rfl, h⟩
  · rename_i n x heq
    cases heq
    split at h
    · exact Or.inr ⟨rfl, _, _, ‹_›, h⟩
    · exact h.elim
  · exact h.elim
theorem SH_lt {p : Nat} (h : (SH p).1 ≠ 9) : p < 76 := by
  rcases Nat.lt_or_ge p 76 with q | q
  · exact q
  · exfalso
    apply h
    unfold SH
    split <;> first | omega | rfl
theorem acpy_inv {st : List AV} {σ : HP} {k : List AV → HP → Prop} (h : acpy st σ k) : ∃ n dp b sp a r, st = .inl n :: .inl dp :: .inr (.inl b) :: .inl sp :: .inr (.inl a) :: r ∧ a < 76 ∧ b < 76 ∧ (SH a).1 = 0 ∧ (SH b).1 = 0 ∧ r.length ≤ 2 ∧ 0 ≤ sp ∧ 0 ≤ dp ∧ 0 ≤ n ∧ sp + n ≤ ((SH a).2.1 : Int) ∧ dp + n ≤ ((SH b).2.1 : Int) ∧ k r (hcpy σ a sp b dp n) := by
  unfold acpy at h
  split at h
  · exact ⟨_, _, _, _, _, _, rfl, h⟩
  · exact h.elim
theorem inv_inv {mT : Nat → Option (Nat × Bool × MSpec)} {i : Nat} {is : Bool} {st : List AV} {σ : HP} {k : List AV → HP → Prop} (h : inv mT i is st σ k) : ∃ n S, mT i = some (n, is, S) ∧ n ≤ st.length ∧ (st.drop n).length ≤ 4 ∧ S (st.take n).reverse σ (fun r σ' => k (r.toList ++ st.drop n) σ') := by
  unfold inv at h
  split at h
  · rename_i n b S hm
    obtain ⟨rfl, h⟩ := h
    exact ⟨n, S, hm, h⟩
  · exact h.elim
theorem tsw_in {pc : Nat} {x : Int} {k : Nat → Prop} : ∀ (os : List Int) (lo : Int) (j : Nat), tsw pc x k lo os → x = lo + j → ∀ o, os[j]? = some o → tgo pc o k
  | [], lo, j, h, hx, o, ho => by simp at ho
  | a :: r, lo, 0, h, hx, o, ho => by
    simp only [List.getElem?_cons_zero, Option.some.injEq] at ho
    subst ho
    exact h.1 (by omega)
  | a :: r, lo, j + 1, h, hx, o, ho => tsw_in r (lo + 1) j h.2 (by omega) o (by simpa using ho)
theorem lsw_in {pc : Nat} {x d : Int} {k : Nat → Prop} : ∀ (ps : List (Int × Int)), lsw pc x d k ps → tgo pc (Op.lookupswitch.offset ps d x) k
  | [], h => h
  | (a, o) :: r, h => by
    rw [Op.lookupswitch.offset_cons]
    by_cases e : x = a
    · rw [if_pos (by rw [e])]
      exact h.1 e
    · rw [if_neg (fun q => e q.symm)]
      exact lsw_in r (h.2 e)
theorem cat_le (ad : Nat → Nat) : ∀ (r : List AV), ((r.map (cv ad)).map fun v => v.category).sum ≤ 2 * r.length
  | [] => by simp
  | v :: r => by
    have h1 := cat_le ad r
    have h2 : (cv ad v).category ≤ 2 := by rw [cv_cat]; split <;> omega
    simp only [List.map_cons, List.sum_cons, List.length_cons]
    omega
end
section
/-! ===== the step ===== -/
theorem hset_arr {G : GT} {σ : HP} {p k : Nat} {v : Int} (h : (SH p).1 = 0 ∨ (SH p).1 = 2) : ∀ cA n, ce G (SH p) (σ p) = .inl (cA, n, .inl (fun j => iI (σ p j))) → ce G (SH p) (hset σ p k v p) = .inl (cA, n, .inl (upd (fun j => iI (σ p j)) k (iI v))) := by
  intro cA n e
  have hf : (fun j => iI (hset σ p k v p j)) = upd (fun j => iI (σ p j)) k (iI v) := by
    funext j
    rw [hset_eq]
    by_cases q : j = k
    · subst q; simp [upd]
    · simp [upd, q]
  rcases h with h | h
  · rw [ce_int h] at e ⊢
    rw [hf]
    cases e
    rfl
  · rw [ce_bool h] at e ⊢
    rw [hf]
    cases e
    rfl
theorem hset_long {G : GT} {σ : HP} {p k : Nat} {v : Int} (h : (SH p).1 = 1) : ce G (SH p) (hset σ p k v p) = .inl (G.2.1 1, (SH p).2.1, .inr (.inl (vp_updL (fun j => iL (σ p j)) k (iL v)))) := by
  rw [ce_long h]
  have hf : (fun j => iL (hset σ p k v p j)) = vp_updL (fun j => iL (σ p j)) k (iL v) := by
    funext j
    rw [hset_eq]
    by_cases q : j = k
    · subst q; simp [vp_updL]
    · simp [vp_updL, q]
  rw [hf]
theorem iI_01 {v : Int} (h : v = 0 ∨ v = 1) : vp_nar .boolean (iI v) = iI v ∧ narrow .boolean (.int (iI v)) = .int (iI v) ∧ fits .boolean (.int (iI v)) = true := by
  rcases h with rfl | rfl <;> exact ⟨by decide +kernel, by decide +kernel, by decide +kernel⟩
theorem hset_obj {G : GT} {σ : HP} {p k : Nat} {v : Int} (h : (SH p).1 = 4) (hr : rnth (SH p).2.2 k = some none) : ce G (SH p) (hset σ p k v p) = .inr ((SH p).2.1, (ceV G.1 (σ p) 0 (SH p).2.2).set k (.int (iI v))) := by
  rw [ce_obj h, ← ceV_set G.1 (σ p) v (SH p).2.2 0 k hr, hset_eq]
  simp only [Nat.zero_add]
theorem goodIn_gtb {ws : List Cond} (h : ∀ w ∈ ws, w ∈ gtb) : GoodIn gtb ws := fun w hw => ⟨h w hw, good_of_word (gtb_good (h w hw))⟩
theorem hcpy_ce {G : GT} {σ : HP} {a b : Nat} {sp dp n : Int} (h : (SH b).1 = 0) : ce G (SH b) (hcpy σ a sp b dp n b) = .inl (G.2.1 0, (SH b).2.1, .inl (va_cpy (fun j => iI (σ a j)) (fun j => iI (σ b j)) sp.toNat dp.toNat n.toNat)) := by
  rw [ce_int h]
  have hf : (fun j => iI (hcpy σ a sp b dp n b j)) = va_cpy (fun j => iI (σ a j)) (fun j => iI (σ b j)) sp.toNat dp.toNat n.toNat := by
    funext j
    by_cases q : dp.toNat ≤ j ∧ j < dp.toNat + n.toNat
    · rw [pk_cpy_in q.1 q.2]
      simp [hcpy, q]
    · rw [pk_cpy_out (by omega)]
      simp only [hcpy, true_and]
      rw [if_neg q]
  rw [hf]
theorem hcpy_ne {σ : HP} {a b q : Nat} {sp dp n : Int} (h : q ≠ b) : hcpy σ a sp b dp n q = σ q := by
  funext j
  simp [hcpy, h]
theorem iI_nn {z : Int} (h0 : 0 ≤ z) (h1 : z < 2147483648) : ¬ iI z < 0 ∧ (iI z).toNatClampNeg = z.toNat := by
  have hr : R32 z := ⟨by omega, h1⟩
  refine ⟨fun q => ?_, ?_⟩
  · rw [← iI_0] at q
    have := (iI_lt hr R32_0).mp q
    omega
  · show (iI z).toInt.toNat = z.toNat
    rw [iI_toInt hr]
section STP
variable {p : Program} {l : Launch} {e : Env} {R : Room} {s : State} {m : MethodId} {args : Array Value} {below : List Frame} {meth : Method} {c : Code} {cells slots : Nat}
variable {A : Nat → Prop} {Qf : State → Prop} {nL : Nat} {G : GT} {cc : ByteArray} {own : String} {cp : Nat → Option CE} {mT : Nat → Option (Nat × Bool × MSpec)} {ro : RO} {rk : Nat} {RT : Option AV → HP → Prop}
/-- how the body ends -/
def RTK (p : Program) (l : Launch) (e : Env) (R : Room) (s : State) (m : MethodId) (args : Array Value) (below : List Frame) (meth : Method) (c : Code) (cells slots : Nat) (A : Nat → Prop) (Qf : State → Prop) (G : GT) (cc : ByteArray) (rk : Nat) (RT : Option AV → HP → Prop) : Prop :=
  ∀ (pc : Nat) (σ : HP) (H : Heap) (locs : List Loc) (lsA : Array Slot), va_P G.2.2 vwCl (gw G σ) H → va_S A s.heap H locs →
    (∀ v : Int, decode cc pc = .ok (.ireturn, 1) → (rk = 1 ∨ (rk = 2 ∧ (v = 0 ∨ v = 1))) → RT (some (.inl v)) σ → W p l e R s m args below meth c H locs cells slots Qf (F0 m pc lsA [.int (iI v)])) ∧
    (∀ v : Int, decode cc pc = .ok (.lreturn, 1) → rk = 3 → RT (some (.inr (.inr v))) σ → W p l e R s m args below meth c H locs cells slots Qf (F0 m pc lsA [.long (iL v)])) ∧
    (∀ v : Nat, decode cc pc = .ok (.areturn, 1) → rk = 4 → RT (some (.inr (.inl v))) σ → W p l e R s m args below meth c H locs cells slots Qf (F0 m pc lsA [.ref (G.1 v)])) ∧
    (decode cc pc = .ok (.return_, 1) → rk = 0 → RT none σ → W p l e R s m args below meth c H locs cells slots Qf (F0 m pc lsA []))
set_option maxHeartbeats 4000000 in
theorem stp_sound (C : CX p l R s m args c cells slots A cc own nL G cp mT ro) (hret : RTK p l e R s m args below meth c cells slots A Qf G cc rk RT) {k : KT} (hk : ∀ pc ls st σ, k pc ls st σ → AW p l e R s m args below meth c cells slots A Qf nL G pc ls st σ) {i : Instr} {len pc : Nat} {ls : LSt} {st : List AV} {σ : HP} (hd : decode cc pc = .ok (i, len)) (hl : ilen i = 0 ∨ ilen i = len) (h : stp cp mT ro rk RT i len pc ls st σ k) : AW p l e R s m args below meth c cells slots A Qf nL G pc ls st σ := by
  obtain ⟨hx, hb, hml, hown, hts, ⟨hR1, hR2, hR3, hR4⟩, hK, hA, hro, hcp, hmT⟩ := C
  intro H locs lsA hP hS hL
  have hD : ∀ τ : HP, va_D A (gw G τ) := fun τ => gw_D hK.2.1 hA
  have hAo : ∀ q, Aof G q → A q := fun q ⟨k, h1, h2⟩ => by rw [h2]; exact hA k h1
  have tg : ∀ (o : Int) (k : Nat → Prop), tgo pc o k → ∃ t : Nat, (pc : Int) + o = (t : Int) ∧ k t := fun o k h => ⟨((pc : Int) + o).toNat, (Int.toNat_of_nonneg h.1).symm, h.2⟩
  cases i <;> simp only [stp] at h
  case iconst n =>
    obtain rfl : len = 1 := by rcases hl with q | q <;> simp [ilen] at q; exact q.symm
    exact lv_iconst hx hb hd rfl (hk _ _ _ _ h H locs lsA hP hS hL)
  case bipush n =>
    obtain rfl : len = 2 := by rcases hl with q | q <;> simp [ilen] at q; exact q.symm
    exact lv_bipush hx hb hd (iI_bi h.1) (hk _ _ _ _ h.2 H locs lsA hP hS hL)
  case sipush n =>
    obtain rfl : len = 3 := by rcases hl with q | q <;> simp [ilen] at q; exact q.symm
    exact lv_sipush hx hb hd (iI_si h.1) (hk _ _ _ _ h.2 H locs lsA hP hS hL)
  case lconst n =>
    obtain rfl : len = 1 := by rcases hl with q | q <;> simp [ilen] at q; exact q.symm
    exact lv_lconst hx hb hd (v := iL (n.val : Int)) (by unfold iL; exact (Int64.ofInt_eq_ofNat).symm) (hk _ _ _ _ h H locs lsA hP hS hL)
  case ldc j =>
    obtain rfl : len = 2 := by rcases hl with q | q <;> simp [ilen] at q; exact q.symm
    split at h
    · rename_i z x hc
      exact lv_ldc hx hb hown (hts _ (hcp _ _ hc)) hd (hk _ _ _ _ h H locs lsA hP hS hL)
    · exact h.elim
  case ldc_w j =>
    obtain rfl : len = 3 := by rcases hl with q | q <;> simp [ilen] at q; exact q.symm
    split at h
    · rename_i z x hc
      exact lv_ldcw hx hb hown (hts _ (hcp _ _ hc)) hd (hk _ _ _ _ h H locs lsA hP hS hL)
    · exact h.elim
  case ldc2_w j =>
    obtain rfl : len = 3 := by rcases hl with q | q <;> simp [ilen] at q; exact q.symm
    split at h
    · rename_i z x hc
      exact lv_ldc2 hx hb hown (hts _ (hcp _ _ hc)) hd (hk _ _ _ _ h H locs lsA hP hS hL)
    · exact h.elim
  case iload_n j =>
    obtain rfl : len = 1 := by rcases hl with q | q <;> simp [ilen] at q; exact q.symm
    obtain ⟨z, h1, h2⟩ := ldI_inv h
    exact lv_iload_n hx hb hd rfl (hL.at h1) (hk _ _ _ _ h2 H locs lsA hP hS hL)
  case iload j =>
    obtain rfl : len = 2 := by rcases hl with q | q <;> simp [ilen] at q; exact q.symm
    obtain ⟨z, h1, h2⟩ := ldI_inv h
    exact lv_iload hx hb hd (hL.at h1) (hk _ _ _ _ h2 H locs lsA hP hS hL)
  case aload_n j =>
    obtain rfl : len = 1 := by rcases hl with q | q <;> simp [ilen] at q; exact q.symm
    obtain ⟨z, h1, h2⟩ := ldA_inv h
    exact lv_aload_n hx hb hd rfl (hL.at h1) (hk _ _ _ _ h2 H locs lsA hP hS hL)
  case aload j =>
    obtain rfl : len = 2 := by rcases hl with q | q <;> simp [ilen] at q; exact q.symm
    obtain ⟨z, h1, h2⟩ := ldA_inv h
    exact lv_aload hx hb hd (hL.at h1) (hk _ _ _ _ h2 H locs lsA hP hS hL)
  case lload_n j =>
    obtain rfl : len = 1 := by rcases hl with q | q <;> simp [ilen] at q; exact q.symm
    obtain ⟨z, h1, h2⟩ := ldL_inv h
    exact lv_lload_n hx hb hd rfl (hL.at h1) (hk _ _ _ _ h2 H locs lsA hP hS hL)
  case lload j =>
    obtain rfl : len = 2 := by rcases hl with q | q <;> simp [ilen] at q; exact q.symm
    obtain ⟨z, h1, h2⟩ := ldL_inv h
    exact lv_lload hx hb hd (hL.at h1) (hk _ _ _ _ h2 H locs lsA hP hS hL)
  case istore_n j =>
    obtain rfl : len = 1 := by rcases hl with q | q <;> simp [ilen] at q; exact q.symm
    obtain ⟨z, r, rfl, h1, h2⟩ := stI_inv h
    exact lv_istore_n hx hb hd rfl hL.2 (by rw [← hL.1]; exact h1) rfl (fun lsB hB => hk _ _ _ _ h2 H locs lsB hP hS (hL.put1 (v := .inl z) hB))
  case istore j =>
    obtain rfl : len = 2 := by rcases hl with q | q <;> simp [ilen] at q; exact q.symm
    obtain ⟨z, r, rfl, h1, h2⟩ := stI_inv h
    exact lv_istore hx hb hd hL.2 (by rw [← hL.1]; exact h1) rfl (fun lsB hB => hk _ _ _ _ h2 H locs lsB hP hS (hL.put1 (v := .inl z) hB))
  case astore_n j =>
    obtain rfl : len = 1 := by rcases hl with q | q <;> simp [ilen] at q; exact q.symm
    obtain ⟨z, r, rfl, h1, h2⟩ := stA_inv h
    exact lv_astore_n hx hb hd rfl hL.2 (by rw [← hL.1]; exact h1) rfl (fun lsB hB => hk _ _ _ _ h2 H locs lsB hP hS (hL.put1 (v := .inr (.inl z)) hB))
  case astore j =>
    obtain rfl : len = 2 := by rcases hl with q | q <;> simp [ilen] at q; exact q.symm
    obtain ⟨z, r, rfl, h1, h2⟩ := stA_inv h
    exact lv_astore hx hb hd hL.2 (by rw [← hL.1]; exact h1) rfl (fun lsB hB => hk _ _ _ _ h2 H locs lsB hP hS (hL.put1 (v := .inr (.inl z)) hB))
  case lstore_n j =>
    obtain rfl : len = 1 := by rcases hl with q | q <;> simp [ilen] at q; exact q.symm
    obtain ⟨z, r, rfl, h1, h2⟩ := stL_inv h
    exact lv_lstore_n hx hb hd rfl hL.2 (by rw [← hL.1]; exact h1) rfl (fun lsB hB => hk _ _ _ _ h2 H locs lsB hP hS (hL.put2 (v := .inr (.inr z)) hB))
  case lstore j =>
    obtain rfl : len = 2 := by rcases hl with q | q <;> simp [ilen] at q; exact q.symm
    obtain ⟨z, r, rfl, h1, h2⟩ := stL_inv h
    exact lv_lstore hx hb hd hL.2 (by rw [← hL.1]; exact h1) rfl (fun lsB hB => hk _ _ _ _ h2 H locs lsB hP hS (hL.put2 (v := .inr (.inr z)) hB))
  case iinc j n =>
    obtain rfl : len = 3 := by rcases hl with q | q <;> simp [ilen] at q; exact q.symm
    obtain ⟨z, h1, h2⟩ := ldI_inv h
    obtain ⟨h3, h4⟩ := h2
    have hm := lvp_mem (ad := G.1) ls 0 j _ h1
    rw [Nat.zero_add] at hm
    obtain ⟨q, hq⟩ := List.getElem?_of_mem hm
    exact lv_iinc hx hb hd hL.2 hq (v := iI (z + n)) (by rw [iI_add]; rfl) (by rw [← hL.1]; exact h3) rfl (fun lsB hB => hk _ _ _ _ h4 H locs lsB hP hS (hL.put1 (v := .inl (z + n)) hB))
  case iadd =>
    obtain rfl : len = 1 := by rcases hl with q | q <;> simp [ilen] at q; exact q.symm
    obtain ⟨x, y, r, rfl, h1⟩ := bin_inv h
    have := hk _ _ _ _ h1 H locs lsA hP hS hL
    simp only [List.map_cons, cv, iI_add] at this
    exact lv_iadd hx hb hd this
  case isub =>
    obtain rfl : len = 1 := by rcases hl with q | q <;> simp [ilen] at q; exact q.symm
    obtain ⟨x, y, r, rfl, h1⟩ := bin_inv h
    have := hk _ _ _ _ h1 H locs lsA hP hS hL
    simp only [List.map_cons, cv, iI_sub] at this
    exact lv_isub hx hb hd this
  case imul =>
    obtain rfl : len = 1 := by rcases hl with q | q <;> simp [ilen] at q; exact q.symm
    obtain ⟨x, y, r, rfl, h1⟩ := bin_inv h
    have := hk _ _ _ _ h1 H locs lsA hP hS hL
    simp only [List.map_cons, cv, iI_mul] at this
    exact lv_imul hx hb hd this
  case ishl =>
    obtain rfl : len = 1 := by rcases hl with q | q <;> simp [ilen] at q; exact q.symm
    obtain ⟨x, y, r, rfl, h1⟩ := bin_inv h
    have := hk _ _ _ _ h1 H locs lsA hP hS hL
    simp only [List.map_cons, cv, zshl, iI_of] at this
    exact lv_ishl hx hb hd this
  case ishr =>
    obtain rfl : len = 1 := by rcases hl with q | q <;> simp [ilen] at q; exact q.symm
    obtain ⟨x, y, r, rfl, h1⟩ := bin_inv h
    have := hk _ _ _ _ h1 H locs lsA hP hS hL
    simp only [List.map_cons, cv, zshr, iI_of] at this
    exact lv_ishr hx hb hd this
  case iand =>
    obtain rfl : len = 1 := by rcases hl with q | q <;> simp [ilen] at q; exact q.symm
    obtain ⟨x, y, r, rfl, h1⟩ := bin_inv h
    have := hk _ _ _ _ h1 H locs lsA hP hS hL
    simp only [List.map_cons, cv, zand, iI_of] at this
    exact lv_iand hx hb hd this
  case ior =>
    obtain rfl : len = 1 := by rcases hl with q | q <;> simp [ilen] at q; exact q.symm
    obtain ⟨x, y, r, rfl, h1⟩ := bin_inv h
    have := hk _ _ _ _ h1 H locs lsA hP hS hL
    simp only [List.map_cons, cv, zor, iI_of] at this
    exact lv_ior hx hb hd this
  case ixor =>
    obtain rfl : len = 1 := by rcases hl with q | q <;> simp [ilen] at q; exact q.symm
    obtain ⟨x, y, r, rfl, h1⟩ := bin_inv h
    have := hk _ _ _ _ h1 H locs lsA hP hS hL
    simp only [List.map_cons, cv, zxor, iI_of] at this
    exact lv_ixor hx hb hd this
  case idiv =>
    obtain rfl : len = 1 := by rcases hl with q | q <;> simp [ilen] at q; exact q.symm
    obtain ⟨x, y, r, rfl, r1, r2, n0, h1⟩ := binD_inv h
    have := hk _ _ _ _ h1 H locs lsA hP hS hL
    simp only [List.map_cons, cv] at this
    rw [← iI_div r1 r2] at this
    exact lv_idiv hx hb hd (iI_ne0 r2 n0) this
  case irem =>
    obtain rfl : len = 1 := by rcases hl with q | q <;> simp [ilen] at q; exact q.symm
    obtain ⟨x, y, r, rfl, r1, r2, n0, h1⟩ := binD_inv h
    have := hk _ _ _ _ h1 H locs lsA hP hS hL
    simp only [List.map_cons, cv] at this
    rw [← iI_rem r1 r2] at this
    exact lv_irem hx hb hd (iI_ne0 r2 n0) this
  case ineg =>
    obtain rfl : len = 1 := by rcases hl with q | q <;> simp [ilen] at q; exact q.symm
    obtain ⟨x, r, rfl, h1⟩ := una_inv h
    have := hk _ _ _ _ h1 H locs lsA hP hS hL
    simp only [List.map_cons, cv, iI_neg] at this
    exact lv_ineg hx hb hd this
  case i2b =>
    obtain rfl : len = 1 := by rcases hl with q | q <;> simp [ilen] at q; exact q.symm
    obtain ⟨x, r, rfl, h1⟩ := una_inv h
    have := hk _ _ _ _ h1 H locs lsA hP hS hL
    simp only [List.map_cons, cv, zi2b, iI_of] at this
    exact lv_i2b hx hb hd rfl this
  case i2s =>
    obtain rfl : len = 1 := by rcases hl with q | q <;> simp [ilen] at q; exact q.symm
    obtain ⟨x, r, rfl, h1⟩ := una_inv h
    have := hk _ _ _ _ h1 H locs lsA hP hS hL
    simp only [List.map_cons, cv, zi2s, iI_of] at this
    exact lv_i2s hx hb hd rfl this
  case i2l =>
    obtain rfl : len = 1 := by rcases hl with q | q <;> simp [ilen] at q; exact q.symm
    split at h
    · exact lv_i2l hx hb hd (iI_long h.1) (hk _ _ _ _ h.2 H locs lsA hP hS hL)
    · exact h.elim
  case l2i =>
    obtain rfl : len = 1 := by rcases hl with q | q <;> simp [ilen] at q; exact q.symm
    split at h
    · exact lv_l2i hx hb hd (iL_int _) (hk _ _ _ _ h H locs lsA hP hS hL)
    · exact h.elim
  case ladd =>
    obtain rfl : len = 1 := by rcases hl with q | q <;> simp [ilen] at q; exact q.symm
    obtain ⟨x, y, r, rfl, h1⟩ := binL_inv h
    have := hk _ _ _ _ h1 H locs lsA hP hS hL
    simp only [List.map_cons, cv, iL_add] at this
    exact lv_ladd hx hb hd this
  case lmul =>
    obtain rfl : len = 1 := by rcases hl with q | q <;> simp [ilen] at q; exact q.symm
    obtain ⟨x, y, r, rfl, h1⟩ := binL_inv h
    have := hk _ _ _ _ h1 H locs lsA hP hS hL
    simp only [List.map_cons, cv, iL_mul] at this
    exact lv_lmul hx hb hd this
  case ldiv =>
    obtain rfl : len = 1 := by rcases hl with q | q <;> simp [ilen] at q; exact q.symm
    obtain ⟨x, y, r, rfl, r1, r2, n0, h1⟩ := binDL_inv h
    have := hk _ _ _ _ h1 H locs lsA hP hS hL
    simp only [List.map_cons, cv] at this
    rw [← iL_div r1 r2] at this
    exact lv_ldiv hx hb hd (iL_ne0 r2 n0) this
  case lrem =>
    obtain rfl : len = 1 := by rcases hl with q | q <;> simp [ilen] at q; exact q.symm
    obtain ⟨x, y, r, rfl, r1, r2, n0, h1⟩ := binDL_inv h
    have := hk _ _ _ _ h1 H locs lsA hP hS hL
    simp only [List.map_cons, cv] at this
    rw [← iL_rem r1 r2] at this
    exact lv_lrem hx hb hd (iL_ne0 r2 n0) this
  case lcmp =>
    obtain rfl : len = 1 := by rcases hl with q | q <;> simp [ilen] at q; exact q.symm
    split at h
    · rename_i y x r
      obtain ⟨r1, r2, h1⟩ := h
      have := hk _ _ _ _ h1 H locs lsA hP hS hL
      have e1 : iI (lcmpZ x y) = lg_cmp (iL x) (iL y) := by
        unfold lcmpZ lg_cmp
        by_cases q1 : y < x
        · rw [if_pos q1, if_pos (show iL x > iL y from (iL_lt r2 r1).mpr q1)]; decide +kernel
        · rw [if_neg q1, if_neg (show ¬ iL x > iL y from fun z => q1 ((iL_lt r2 r1).mp z))]
          by_cases q2 : x = y
          · rw [if_pos q2, if_pos ((iL_eq r1 r2).mpr q2)]; decide +kernel
          · rw [if_neg q2, if_neg (fun z => q2 ((iL_eq r1 r2).mp z))]; decide +kernel
      simp only [List.map_cons, cv, e1] at this
      exact W.lcmp hx hb hd this
    · exact h.elim
  case dup =>
    obtain rfl : len = 1 := by rcases hl with q | q <;> simp [ilen] at q; exact q.symm
    split at h
    · exact lv_dup hx hb hd rfl (hk _ _ _ _ h H locs lsA hP hS hL)
    · exact lv_dup hx hb hd rfl (hk _ _ _ _ h H locs lsA hP hS hL)
    · exact h.elim
  case pop =>
    obtain rfl : len = 1 := by rcases hl with q | q <;> simp [ilen] at q; exact q.symm
    split at h
    · exact lv_pop hx hb hd rfl (hk _ _ _ _ h H locs lsA hP hS hL)
    · exact lv_pop hx hb hd rfl (hk _ _ _ _ h H locs lsA hP hS hL)
    · exact h.elim
  case dup2 =>
    obtain rfl : len = 1 := by rcases hl with q | q <;> simp [ilen] at q; exact q.symm
    split at h
    · exact lv_dup2_11 hx hb hd rfl rfl (hk _ _ _ _ h H locs lsA hP hS hL)
    · exact h.elim
  case goto o =>
    obtain rfl : len = 3 := by rcases hl with q | q <;> simp [ilen] at q; exact q.symm
    obtain ⟨t, e1, h1⟩ := tg _ _ h
    exact lv_goto hx hb hd e1 (hk _ _ _ _ h1 H locs lsA hP hS hL)
  case ifCond cd o =>
    obtain rfl : len = 3 := by rcases hl with q | q <;> simp [ilen] at q; exact q.symm
    split at h
    · rename_i x r
      obtain ⟨r1, h0, h1, h2⟩ := h
      have ht : (pc : Int) + o = ((((pc : Int) + o).toNat : Nat) : Int) := (Int.toNat_of_nonneg h0).symm
      have kt : cndZ cd x 0 → W p l e R s m args below meth c H locs cells slots Qf (F0 m ((pc : Int) + o).toNat lsA (r.map (cv G.1))) := fun q => hk _ _ _ _ (h1 q) H locs lsA hP hS hL
      have kf : ¬ cndZ cd x 0 → W p l e R s m args below meth c H locs cells slots Qf (F0 m (pc + 3) lsA (r.map (cv G.1))) := fun q => hk _ _ _ _ (h2 q) H locs lsA hP hS hL
      have eq0 : iI x = 0 ↔ x = 0 := by rw [← iI_0]; exact iI_eq r1 R32_0
      have lt0 : iI x < 0 ↔ x < 0 := by rw [← iI_0]; exact iI_lt r1 R32_0
      have le0 : iI x ≤ 0 ↔ x ≤ 0 := by rw [← iI_0]; exact iI_le r1 R32_0
      have gt0 : 0 < iI x ↔ 0 < x := by rw [← iI_0]; exact iI_lt R32_0 r1
      have ge0 : 0 ≤ iI x ↔ 0 ≤ x := by rw [← iI_0]; exact iI_le R32_0 r1
      cases cd
      · exact lv_if_eq hx hb hd ht (fun q => kt (eq0.mp q)) (fun q => kf (fun z => q (eq0.mpr z)))
      · exact lv_if_ne hx hb hd ht (fun q => kt (fun z => q (eq0.mpr z))) (fun q => kf (fun z => z (eq0.mp q)))
      · exact lv_if_lt hx hb hd ht (fun q => kt (lt0.mp q)) (fun q => kf (fun z => q (lt0.mpr z)))
      · exact lv_if_ge hx hb hd ht (fun q => kt (ge0.mp q)) (fun q => kf (fun z => q (ge0.mpr z)))
      · exact lv_if_gt hx hb hd ht (fun q => kt (gt0.mp q)) (fun q => kf (fun z => q (gt0.mpr z)))
      · exact lv_if_le hx hb hd ht (fun q => kt (le0.mp q)) (fun q => kf (fun z => q (le0.mpr z)))
    · exact h.elim
  case if_icmp cd o =>
    obtain rfl : len = 3 := by rcases hl with q | q <;> simp [ilen] at q; exact q.symm
    split at h
    · rename_i y x r
      obtain ⟨r1, r2, h0, h1, h2⟩ := h
      have ht : (pc : Int) + o = ((((pc : Int) + o).toNat : Nat) : Int) := (Int.toNat_of_nonneg h0).symm
      have kt : cndZ cd x y → W p l e R s m args below meth c H locs cells slots Qf (F0 m ((pc : Int) + o).toNat lsA (r.map (cv G.1))) := fun q => hk _ _ _ _ (h1 q) H locs lsA hP hS hL
      have kf : ¬ cndZ cd x y → W p l e R s m args below meth c H locs cells slots Qf (F0 m (pc + 3) lsA (r.map (cv G.1))) := fun q => hk _ _ _ _ (h2 q) H locs lsA hP hS hL
      have eq0 := iI_eq r1 r2
      have lt0 := iI_lt r1 r2
      have le0 := iI_le r1 r2
      have gt0 := iI_lt r2 r1
      have ge0 := iI_le r2 r1
      cases cd
      · exact lv_icmp_eq hx hb hd ht (fun q => kt (eq0.mp q)) (fun q => kf (fun z => q (eq0.mpr z)))
      · exact lv_icmp_ne hx hb hd ht (fun q => kt (fun z => q (eq0.mpr z))) (fun q => kf (fun z => z (eq0.mp q)))
      · exact lv_icmp_lt hx hb hd ht (fun q => kt (lt0.mp q)) (fun q => kf (fun z => q (lt0.mpr z)))
      · exact lv_icmp_ge hx hb hd ht (fun q => kt (ge0.mp q)) (fun q => kf (fun z => q (ge0.mpr z)))
      · exact lv_icmp_gt hx hb hd ht (fun q => kt (gt0.mp q)) (fun q => kf (fun z => q (gt0.mpr z)))
      · exact lv_icmp_le hx hb hd ht (fun q => kt (le0.mp q)) (fun q => kf (fun z => q (le0.mpr z)))
    · exact h.elim
  case tableswitch d lo hi os =>
    split at h
    · rename_i x r
      obtain ⟨r1, hsz, h1, h2⟩ := h
      have ex : (iI x).toInt = x := iI_toInt r1
      by_cases q : x < lo ∨ hi < x
      · obtain ⟨t, e1, h3⟩ := tg _ _ (h1 q)
        exact lv_tableOut hx hb hd (by rw [ex]; exact q) e1 (hk _ _ _ _ h3 H locs lsA hP hS hL)
      · have g1 : lo ≤ x := by omega
        have g2 : x ≤ hi := by omega
        have hlt : (x - lo).toNat < os.toList.length := by
          rw [Array.length_toList]
          omega
        obtain ⟨o, ho⟩ : ∃ o, os.toList[(x - lo).toNat]? = some o := ⟨_, List.getElem?_eq_getElem hlt⟩
        obtain ⟨t, e1, h3⟩ := tg _ _ (tsw_in os.toList lo (x - lo).toNat h2 (by omega) o ho)
        exact lv_tableIn hx hb hd (by rw [ex]; omega) (by rw [ex]; omega) (by rw [ex, ← Array.getElem?_toList]; exact ho) e1 (hk _ _ _ _ h3 H locs lsA hP hS hL)
    · exact h.elim
  case lookupswitch d ps =>
    split at h
    · rename_i x r
      obtain ⟨r1, hsz, h2⟩ := h
      have ex : (iI x).toInt = x := iI_toInt r1
      obtain ⟨t, e1, h3⟩ := tg _ _ (lsw_in ps.toList h2)
      exact lv_lookup hx hb hd hsz (by rw [ex]) e1 (hk _ _ _ _ h3 H locs lsA hP hS hL)
    · exact h.elim
  case getfield j =>
    obtain rfl : len = 3 := by rcases hl with q | q <;> simp [ilen] at q; exact q.symm
    obtain ⟨ci, f, pl, r, v, he, rfl, hp, hg, h1⟩ := gfX_inv h
    obtain ⟨z, b, hz, rfl⟩ := cpF_inv he
    obtain ⟨s1, s2, o, s3, s4⟩ := gfV_inv hg
    obtain ⟨C, T, N, hc, hkN, hin, hw⟩ : ∃ (C : String) (T : u_T) (N : Nat), vwCl[z.toNat]? = some (C, T, N) ∧ f < N ∧ (∀ w ∈ u_ws C T N, w ∈ gtb) ∧ Cond.fieldLink own j (T f).1 (T f).2.1 (T f).2.2.1 ∈ gtb := by
      rcases hz with hz | hz
      · exact hcp _ _ hz
      · obtain ⟨C, T, N, ty, a1, a2, a3, a4, -⟩ := hcp _ _ hz
        exact ⟨C, T, N, a1, a2, a3, a4⟩
    have he2 : (gw G σ)[pl]? = some (G.1 pl, .inr (z.toNat, ceV G.1 (σ pl) 0 (SH pl).2.2)) := by
      rw [gw_get hp, ce_obj s1, s2]
    have hv : (ceV G.1 (σ pl) 0 (SH pl).2.2)[f]? = some (cv G.1 v) := by
      rw [ceV_get, s3, s4]
      cases o <;> simp [cv]
    exact va_get hx hb hts hin hown hK.1 hP pl he2 hc f hkN (hts _ hw) (fun _ h9 => h9) hv hd (hk _ _ _ _ h1 H locs lsA hP hS hL)
  case putfield j =>
    obtain rfl : len = 3 := by rcases hl with q | q <;> simp [ilen] at q; exact q.symm
    obtain ⟨ci, f, b, v, pl, r, he, rfl, hp, hg, hb01, h1⟩ := pfX_inv h
    obtain ⟨z, hz, rfl⟩ := cpP_inv he
    obtain ⟨s1, s2, s3⟩ := pfV_inv hg
    obtain ⟨C, T, N, ty, hc, hkN, hin, hw, hty, hnm, hfin, hpd⟩ := hcp _ _ hz
    have he2 : (gw G σ)[pl]? = some (G.1 pl, .inr (z.toNat, ceV G.1 (σ pl) 0 (SH pl).2.2)) := by
      rw [gw_get hp, ce_obj s1, s2]
    have hset' : (gw G σ).set pl (G.1 pl, .inr (z.toNat, (ceV G.1 (σ pl) 0 (SH pl).2.2).set f (.int (iI v)))) = gw G (hset σ pl f v) :=
      gw_set hp (fun q hq => hset_ne hq) (by rw [hset_obj s1 s3, s2])
    have hnf : narrow (if b = true then FieldType.boolean else FieldType.int) (.int (iI v)) = .int (iI v) ∧ fits (if b = true then FieldType.boolean else FieldType.int) (.int (iI v)) = true := by
      cases b
      · exact ⟨rfl, rfl⟩
      · exact (iI_01 (hb01 rfl)).2
    refine va_put (ws := gw G σ) (v := .int (iI v)) hx hb hts hin ty hty hnm hown hK.1 hP (hD σ) hS pl he2 hc f hkN (hts _ hw) (fun _ h9 => h9) hfin hpd hnf.1 hnf.2 (by rw [ceV_len]; exact rnth_lt _ _ _ s3) hd (fun H1 locs1 hP1 hD1 hS1 => ?_)
    rw [hset'] at hP1
    exact hk _ _ _ _ h1 H1 locs1 lsA hP1 hS1 hL
  case getstatic j =>
    obtain rfl : len = 3 := by rcases hl with q | q <;> simp [ilen] at q; exact q.symm
    split at h
    · rename_i x pl y hc
      have hkk := hk _ _ _ _ h H locs lsA hP hS hL
      obtain ⟨z1, z2, z3⟩ := hK.2.2.1
      rcases hcp _ _ hc with ⟨rfl, hw⟩ | ⟨rfl, hw⟩ | ⟨rfl, hw⟩
      · exact va_gets hx hb z1 hS hown (hts _ hw) (fun _ h9 => h9) hd hkk
      · exact va_gets hx hb z2 hS hown (hts _ hw) (fun _ h9 => h9) hd hkk
      · exact va_gets hx hb z3 hS hown (hts _ hw) (fun _ h9 => h9) hd hkk
    · exact h.elim
  case iaload =>
    obtain rfl : len = 1 := by rcases hl with q | q <;> simp [ilen] at q; exact q.symm
    split at h
    · rename_i i pl r
      rcases acV_inv h with ⟨s1, b1, b2, h1⟩ | ⟨s1, n, f, hr, b1, b2, h1⟩
      · have hp : pl < 76 := SH_lt (by rw [s1]; decide)
        obtain ⟨i1, i2⟩ := iI_in b1 b2 (SH_small pl)
        have hkk := hk _ _ _ _ h1 H locs lsA hP hS hL
        rw [← i2] at hkk
        exact va_iald (f := fun j => iI (σ pl j)) hx hb hK.1 hP pl 0 (by rw [gw_get hp, ce_int s1]) rfl i1 hd hkk
      · obtain ⟨g1, g4⟩ := hK.2.2.2.1 _ _ _ hr
        obtain ⟨i1, i2⟩ := iI_in b1 b2 g4
        have hkk := hk _ _ _ _ h1 H locs lsA hP hS hL
        rw [← i2] at hkk
        exact va_ti hx hb g1 hS i1 rfl hd hkk
    · exact h.elim
  case laload =>
    obtain rfl : len = 1 := by rcases hl with q | q <;> simp [ilen] at q; exact q.symm
    split at h
    · rename_i i pl r
      obtain ⟨hp, s1, b1, b2, h1⟩ := h
      obtain ⟨i1, i2⟩ := iI_in b1 b2 (SH_small pl)
      have hkk := hk _ _ _ _ h1 H locs lsA hP hS hL
      rw [← i2] at hkk
      exact va_lald (f := fun j => iL (σ pl j)) hx hb hK.1 hP pl 1 (by rw [gw_get hp, ce_long s1]) rfl i1 hd hkk
    · exact h.elim
  case baload =>
    obtain rfl : len = 1 := by rcases hl with q | q <;> simp [ilen] at q; exact q.symm
    split at h
    · rename_i i pl r
      obtain ⟨hp, s1, b1, b2, h1⟩ := h
      obtain ⟨i1, i2⟩ := iI_in b1 b2 (SH_small pl)
      have hkk := hk _ _ _ _ h1 H locs lsA hP hS hL
      rw [← i2] at hkk
      exact va_zald (f := fun j => iI (σ pl j)) hx hb hK.1 hP pl 2 (by rw [gw_get hp, ce_bool s1]) rfl i1 hd hkk
    · exact h.elim
  case aaload =>
    obtain rfl : len = 1 := by rcases hl with q | q <;> simp [ilen] at q; exact q.symm
    split at h
    · rename_i i pl r
      obtain ⟨hp, s1, b1, b2, h1⟩ := h
      obtain ⟨i1, i2⟩ := iI_in b1 b2 (SH_small pl)
      split at h1
      · rename_i q hq
        have hkk := hk _ _ _ _ h1 H locs lsA hP hS hL
        refine va_aldq (f := fun j => ((SH pl).2.2.getD j none).map G.1) hx hb hK.1 hP pl 3 (by rw [gw_get hp, ce_refs s1]) rfl i1 hd ?_
        rw [i2, rnth_getD _ _ _ hq]
        exact hkk
      · exact h1.elim
    · exact h.elim
  case iastore =>
    obtain rfl : len = 1 := by rcases hl with q | q <;> simp [ilen] at q; exact q.symm
    split at h
    · rename_i v i pl r
      obtain ⟨hp, s1, b1, b2, h1⟩ := h
      obtain ⟨i1, i2⟩ := iI_in b1 b2 (SH_small pl)
      refine va_iast (f := fun j => iI (σ pl j)) hx hb hK.1 hP (hD σ) hS pl 0 (by rw [gw_get hp, ce_int s1]) rfl i1 hd (fun H1 locs1 hP1 hD1 hS1 => ?_)
      rw [i2, gw_set hp (fun q hq => hset_ne hq) (hset_arr (Or.inl s1) _ _ (ce_int s1))] at hP1
      exact hk _ _ _ _ h1 H1 locs1 lsA hP1 hS1 hL
    · exact h.elim
  case lastore =>
    obtain rfl : len = 1 := by rcases hl with q | q <;> simp [ilen] at q; exact q.symm
    split at h
    · rename_i v i pl r
      obtain ⟨hp, s1, b1, b2, h1⟩ := h
      obtain ⟨i1, i2⟩ := iI_in b1 b2 (SH_small pl)
      refine va_last (f := fun j => iL (σ pl j)) hx hb hK.1 hP (hD σ) hS pl 1 (by rw [gw_get hp, ce_long s1]) rfl i1 hd (fun H1 locs1 hP1 hD1 hS1 => ?_)
      rw [i2, gw_set hp (fun q hq => hset_ne hq) (hset_long s1)] at hP1
      exact hk _ _ _ _ h1 H1 locs1 lsA hP1 hS1 hL
    · exact h.elim
  case bastore =>
    obtain rfl : len = 1 := by rcases hl with q | q <;> simp [ilen] at q; exact q.symm
    split at h
    · rename_i v i pl r
      obtain ⟨hp, h01, s1, b1, b2, h1⟩ := h
      obtain ⟨i1, i2⟩ := iI_in b1 b2 (SH_small pl)
      refine va_zast (f := fun j => iI (σ pl j)) hx hb hK.1 hP (hD σ) hS pl 2 (by rw [gw_get hp, ce_bool s1]) rfl i1 hd (fun H1 locs1 hP1 hD1 hS1 => ?_)
      rw [i2, (iI_01 h01).1, gw_set hp (fun q hq => hset_ne hq) (hset_arr (Or.inr s1) _ _ (ce_bool s1))] at hP1
      exact hk _ _ _ _ h1 H1 locs1 lsA hP1 hS1 hL
    · exact h.elim
  case arraylength =>
    obtain rfl : len = 1 := by rcases hl with q | q <;> simp [ilen] at q; exact q.symm
    split at h
    · rename_i pl r
      split at h
      · rename_i n f hr
        obtain ⟨g1, g4⟩ := hK.2.2.2.1 _ _ _ hr
        have hkk := hk _ _ _ _ h H locs lsA hP hS hL
        have e1 : Int32.ofNat n = iI (n : Int) := by unfold iI; exact (Int32.ofInt_eq_ofNat).symm
        exact va_tlen hx hb g1 hS e1 hd hkk
      · exact h.elim
    · exact h.elim
  case ireturn =>
    obtain rfl : len = 1 := by rcases hl with q | q <;> simp [ilen] at q; exact q.symm
    split at h
    · exact (hret pc σ H locs lsA hP hS).1 _ hd h.1 h.2
    · exact h.elim
  case lreturn =>
    obtain rfl : len = 1 := by rcases hl with q | q <;> simp [ilen] at q; exact q.symm
    split at h
    · exact (hret pc σ H locs lsA hP hS).2.1 _ hd h.1 h.2
    · exact h.elim
  case areturn =>
    obtain rfl : len = 1 := by rcases hl with q | q <;> simp [ilen] at q; exact q.symm
    split at h
    · exact (hret pc σ H locs lsA hP hS).2.2.1 _ hd h.1 h.2
    · exact h.elim
  case return_ =>
    obtain rfl : len = 1 := by rcases hl with q | q <;> simp [ilen] at q; exact q.symm
    split at h
    · exact (hret pc σ H locs lsA hP hS).2.2.2 hd h.1 h.2
    · exact h.elim
  case invokestatic j =>
    obtain rfl : len = 3 := by rcases hl with q | q <;> simp [ilen] at q; exact q.symm
    split at h
    · rename_i x hc
      obtain ⟨w1, w2, w3, w4⟩ := hcp _ _ hc
      obtain ⟨n, dp, b, sp, a, r, rfl, ha, hb', s1, s2, hr, n1, n2, n3, n4, n5, h1⟩ := acpy_inv h
      have z1 := SH_small a
      have z2 := SH_small b
      obtain ⟨u1, u2⟩ := iI_nn n1 (by omega)
      obtain ⟨u3, u4⟩ := iI_nn n2 (by omega)
      obtain ⟨u5, u6⟩ := iI_nn n3 (by omega)
      have hcat := cat_le G.1 r
      refine va_copyi (f := fun j => iI (σ a j)) (g := fun j => iI (σ b j)) (ty := .int) hx hb (hml.trans hL.2.1.symm) hown (hts _ w1) (hts _ w2) (hts _ w3) (hts _ w4) hK.1 hP (hD σ) hS a b 0 0 (by rw [gw_get ha, ce_int s1]) (by rw [gw_get hb', ce_int s2]) rfl rfl rfl u1 u3 u5 (by rw [u2, u6]; omega) (by rw [u4, u6]; omega) (fun _ _ => rfl) hR1 (by
        have : nativeFrameWords "java/lang/System" "arraycopy" 5 = 7 := by decide +kernel
        rw [this]
        omega) hd (fun H1 locs1 hP1 hD1 hS1 => ?_)
      rw [u2, u4, u6, gw_set hb' (fun q hq => hcpy_ne hq) (hcpy_ce s2)] at hP1
      exact hk _ _ _ _ h1 H1 locs1 lsA hP1 hS1 hL
    · obtain ⟨n, S, hm, hn, hlen, hsp⟩ := inv_inv h
      obtain ⟨n', y, bc, mL, rt, f1, f2, f3, f4, f5, g1⟩ := hmT _ _ hm
      rcases g1 with ⟨g0, -⟩ | ⟨-, g2, g3, g4, g5⟩
      · cases g0
      · have hM := g5 _ _ _ hsp G
        have hst : st.map (cv G.1) = (((st.take n).reverse).map (cv G.1)).reverse ++ (st.drop n).map (cv G.1) := by
          rw [← List.map_reverse, List.reverse_reverse, ← List.map_append, List.take_append_drop]
        have hcat := cat_le G.1 (st.drop n)
        have hpre : PreS s H (Pc0 G (st.take n).reverse σ) (((st.take n).reverse).map (cv G.1)) := ⟨Pc0.blind, fun U hU hW => ⟨rfl, by rw [hU]; exact hP, by rw [hU]; exact KNs.move hK hW hS.1 hS.2.1 hAo hro⟩⟩
        have hlen2 : (((st.take n).reverse).map (cv G.1)).length = n := by simp; omega
        have hrun : va_Run p l e R s m args below meth c H locs cells slots 0 0 (F0 m pc lsA (st.map (cv G.1))) ((st.drop n).map (cv G.1)) (Qc0 G (fun r σ' => k (pc + 3) ls (r.toList ++ st.drop n) σ') ((((st.take n).reverse).map (cv G.1)).toArray)) (Aof G) := by
          rcases g4 with g4 | ⟨rfl, g4⟩
          · exact va_runS (nL := nL) ⟨hx, hb, hml, hown, hts⟩ hM (va_cwS n hts (goodIn_gtb (fun w hw => by
              simp only [va_wsS, List.cons_append, List.nil_append, List.mem_cons] at hw
              rcases hw with rfl | rfl | rfl | rfl | hw
              · exact g4
              · exact g3
              · exact f4
              · exact f3
              · exact hw)) rfl rfl rfl ⟨f5.1, f5.2, g2⟩ ⟨f1, f2⟩) hpre rfl hlen2 hL.2.1 hst (lv_room (by omega)) hd ⟨hR3, hR4⟩
          · have hN : va_Nw (.methodLinkNest RX6 j y RX7) s := by
              rcases g4 with ⟨rfl, rfl⟩ | ⟨rfl, rfl⟩
              · exact hK.2.2.2.2.1
              · exact hK.2.2.2.2.2
            exact va_runSN (nL := nL) ⟨hx, hb, hml, hown, hts⟩ hM ⟨va_cnB n hts (goodIn_gtb (fun w hw => by
              rcases List.mem_cons.mp hw with rfl | hw
              · exact f3
              · exact hw)) rfl rfl rfl hN (hts _ f4) ⟨f5.1, f5.2, g2⟩ ⟨f1, f2⟩, hts _ g3, trivial⟩ hpre rfl hlen2 hL.2.1 hst (lv_room (by omega)) hd ⟨hR3, hR4⟩
        refine aw_run hrun hS hAo (fun r σ' H1 locs1 hq hP1 hS1 => ?_)
        have := hk _ _ _ _ hq H1 locs1 lsA hP1 hS1 hL
        rw [List.map_append, show (r.toList).map (cv G.1) = (r.map (cv G.1)).toList by cases r <;> rfl] at this
        exact this
  case invokevirtual j =>
    obtain rfl : len = 3 := by rcases hl with q | q <;> simp [ilen] at q; exact q.symm
    obtain ⟨n, S, hm, hn, hlen, hsp⟩ := inv_inv h
    obtain ⟨n', y, bc, mL, rt, f1, f2, f3, f4, f5, g1⟩ := hmT _ _ hm
    rcases g1 with ⟨-, g2, g3, g4, g5, ci, T, N, g6, g7⟩ | ⟨g0, -⟩
    · obtain ⟨⟨pl, r0, e1, hp, s1, s2⟩, hAM⟩ := g7 _ _ _ hsp
      have hM := hAM G
      rw [e1] at hM
      have htk : st.take n = r0.reverse ++ [.inr (.inl pl)] := by
        have := congrArg List.reverse e1
        rw [List.reverse_reverse] at this
        rw [this]
        simp
      have hst : st.map (cv G.1) = (r0.map (cv G.1)).reverse ++ .ref (G.1 pl) :: (st.drop n).map (cv G.1) := by
        conv => lhs; rw [← List.take_append_drop n st, htk]
        simp [cv]
      have hcat := cat_le G.1 (st.drop n)
      have hln : r0.length + 1 = n := by
        have := congrArg List.length htk
        simp at this
        omega
      have g2' : (parseMethodDescriptor y.desc).map (fun d => d.parameters.length) = some r0.length := by
        cases hy : parseMethodDescriptor y.desc with
        | none => rw [hy] at g2; simp at g2
        | some d =>
          rw [hy] at g2
          simp only [Option.map_some, Option.some.injEq] at g2 ⊢
          omega
      have he2 : (gw G σ)[pl]? = some (G.1 pl, .inr (ci, ceV G.1 (σ pl) 0 (SH pl).2.2)) := by
        rw [gw_get hp, ce_obj s1, s2]
      have hpre : PreV s H y.cls (G.1 pl) (Pc0 G (.inr (.inl pl) :: r0) σ) (r0.map (cv G.1)) := ⟨Pc0.blind, va_recv hK.1 hP g6 he2, fun U hU hW => ⟨rfl, by rw [hU]; exact hP, by rw [hU]; exact KNs.move hK hW hS.1 hS.2.1 hAo hro⟩⟩
      have hrun : va_Run p l e R s m args below meth c H locs cells slots 0 0 (F0 m pc lsA (st.map (cv G.1))) ((st.drop n).map (cv G.1)) (Qc0 G (fun r σ' => k (pc + 3) ls (r.toList ++ st.drop n) σ') ((Value.ref (G.1 pl) :: r0.map (cv G.1)).toArray)) (Aof G) :=
        va_runV (nL := nL) ⟨hx, hb, hml, hown, hts⟩ hM (cwV r0.length hts (goodIn_gtb (fun w hw => by
          simp only [wsV, List.cons_append, List.nil_append, List.mem_cons] at hw
          rcases hw with rfl | rfl | rfl | rfl | rfl | hw
          · exact g3
          · exact g4
          · exact g5
          · exact f4
          · exact f3
          · exact hw)) rfl rfl rfl ⟨rfl, f5.1, f5.2, g2'⟩ ⟨f1, f2⟩) hpre rfl (by simp) hL.2.1 hst (lv_room (by omega)) hd ⟨hR3, hR4⟩
      refine aw_run hrun hS hAo (fun r σ' H1 locs1 hq hP1 hS1 => ?_)
      have := hk _ _ _ _ hq H1 locs1 lsA hP1 hS1 hL
      rw [List.map_append, show (r.toList).map (cv G.1) = (r.map (cv G.1)).toList by cases r <;> rfl] at this
      exact this
    · cases g0
end STP
end
section
/-! ===== a method out of its abstract walk ===== -/
section WPS
variable {p : Program} {l : Launch} {e : Env} {R : Room} {s : State} {m : MethodId} {args : Array Value} {below : List Frame} {meth : Method} {c : Code} {cells slots : Nat}
variable {A : Nat → Prop} {Qf : State → Prop} {nL : Nat} {G : GT} {cc : ByteArray} {own : String} {cp : Nat → Option CE} {mT : Nat → Option (Nat × Bool × MSpec)} {ro : RO} {rk : Nat} {RT : Option AV → HP → Prop}
theorem wp_sound (C : CX p l R s m args c cells slots A cc own nL G cp mT ro) (hret : RTK p l e R s m args below meth c cells slots A Qf G cc rk RT) (stop : Nat → Bool) : ∀ (n pc : Nat) (ls : LSt) (st : List AV) (σ : HP), wp cc cp mT ro rk RT (AW p l e R s m args below meth c cells slots A Qf nL G) stop n pc ls st σ → AW p l e R s m args below meth c cells slots A Qf nL G pc ls st σ
  | 0, pc, ls, st, σ, h => h
  | n + 1, pc, ls, st, σ, h => by
    simp only [wp] at h
    split at h
    · rename_i i len hd
      refine stp_sound C hret ?_ hd h.1 h.2
      intro pc' ls' st' σ' h'
      by_cases q : stop pc' = true
      · simp only [q, if_true] at h'
        exact h'
      · simp only [q] at h'
        exact wp_sound C hret stop n pc' ls' st' σ' h'
    · exact h.elim
end WPS
def nones : Nat → LSt
  | 0 => []
  | n + 1 => none :: nones n
def entL : Nat → List AV → LSt
  | n, [] => nones n
  | n, .inl z :: r => some (.inl z) :: entL (n - 1) r
  | n, .inr (.inl z) :: r => some (.inr (.inl z)) :: entL (n - 1) r
  | n, .inr (.inr z) :: r => some (.inr (.inr z)) :: none :: entL (n - 2) r
def wid : List AV → Nat
  | [] => 0
  | .inl _ :: r => 1 + wid r
  | .inr (.inl _) :: r => 1 + wid r
  | .inr (.inr _) :: r => 2 + wid r
theorem nones_len : ∀ n, (nones n).length = n
  | 0 => rfl
  | n + 1 => congrArg Nat.succ (nones_len n)
theorem nones_lvp (ad : Nat → Nat) : ∀ n k, lvp ad k (nones n) = []
  | 0, k => rfl
  | n + 1, k => nones_lvp ad n (k + 1)
theorem entL_len : ∀ (a : List AV) (n : Nat), wid a ≤ n → (entL n a).length = n
  | [], n, h => nones_len n
  | .inl z :: r, n, h => by
    have := entL_len r (n - 1) (by simp only [wid] at h; omega)
    simp only [entL, List.length_cons, this]
    simp only [wid] at h
    omega
  | .inr (.inl z) :: r, n, h => by
    have := entL_len r (n - 1) (by simp only [wid] at h; omega)
    simp only [entL, List.length_cons, this]
    simp only [wid] at h
    omega
  | .inr (.inr z) :: r, n, h => by
    have := entL_len r (n - 2) (by simp only [wid] at h; omega)
    simp only [entL, List.length_cons, this]
    simp only [wid] at h
    omega
theorem entL_lvp (ad : Nat → Nat) : ∀ (a : List AV) (n k : Nat), lvp ad k (entL n a) = lv_args k (a.map (cv ad))
  | [], n, k => nones_lvp ad n k
  | .inl z :: r, n, k => by
    have := entL_lvp ad r (n - 1) (k + 1)
    simp only [entL, lvp, List.map_cons, lv_args, this]
    rfl
  | .inr (.inl z) :: r, n, k => by
    have := entL_lvp ad r (n - 1) (k + 1)
    simp only [entL, lvp, List.map_cons, lv_args, this]
    rfl
  | .inr (.inr z) :: r, n, k => by
    have := entL_lvp ad r (n - 2) (k + 2)
    simp only [entL, lvp, List.map_cons, lv_args]
    rw [show k + 1 + 1 = k + 2 by omega, this]
    rfl
theorem wid_sl (ad : Nat → Nat) : ∀ (a : List AV), (lg_sl (a.map (cv ad))).length = wid a
  | [] => rfl
  | .inl z :: r => by
    have := wid_sl ad r
    simp only [lg_sl, List.map_cons, List.flatMap_cons, List.length_append] at this ⊢
    rw [this]
    rfl
  | .inr (.inl z) :: r => by
    have := wid_sl ad r
    simp only [lg_sl, List.map_cons, List.flatMap_cons, List.length_append] at this ⊢
    rw [this]
    rfl
  | .inr (.inr z) :: r => by
    have := wid_sl ad r
    simp only [lg_sl, List.map_cons, List.flatMap_cons, List.length_append] at this ⊢
    rw [this]
    rfl
def rkOK (rk : Nat) (rt : Option FieldType) : Prop := match rk with
  | 0 => rt = none
  | 1 => rt = some .int
  | 2 => rt = some .boolean
  | 3 => rt = some .long
  | 4 => ∃ n, rt = some (.object n)
  | _ => False
def SND (cc : ByteArray) (cp : Nat → Option CE) (mT : Nat → Option (Nat × Bool × MSpec)) (ro : RO) (rk : Nat) (RT : Option AV → HP → Prop) (K : KT) : Prop := ∀ (stop : Nat → Bool) (n pc : Nat) (ls : LSt) (st : List AV) (σ : HP), wp cc cp mT ro rk RT K stop n pc ls st σ → K pc ls st σ
theorem am_of {l : Launch} {n : Nat} {y : MethodName} {cc : ByteArray} {nL : Nat} {rt : Option FieldType} {a : List AV} {σ : HP} {Q : Option AV → HP → Prop} (rk : Nat) (cp : Nat → Option CE) (mT : Nat → Option (Nat × Bool × MSpec)) (hy : plainName y.cls = true) (hrk : rkOK rk rt) (hw : wid a ≤ nL) (hcp : ∀ i e, cp i = some e → cpV y.cls i e) (hmT : ∀ i e, mT i = some e → mV l (rmOf n) y.cls i e)
    (h : ∀ K : KT, SND cc cp mT roS rk Q K → K 0 (entL nL a) [] σ) : AM l n y cc nL rt a σ Q := by
  intro G
  refine Met.ofW (cc := cc) (maxL := nL) (ret := rt) hy rfl ?_
  intro p e s m args below meth c s₁ B hml hv
  obtain ⟨rfl, hP, hK⟩ := hv
  have hx := B.exec
  have hb := B.bytes
  have hr := B.returns
  have hts := atoms_spec (ws := Cond.code y cc nL rt :: gtb) B.pre
  have hown : s.vm.findClass y.cls = some m.cls := findClass_of_methodNamed B.named
  have hlocks := B.notSynchronized
  have C : CX p l (rmOf n) s m ((a.map (cv G.1)).toArray) c 0 0 (Aof G) cc y.cls nL G cp mT roS := ⟨hx, hb, hml, hown, fun w hw => hts w (List.mem_cons_of_mem _ hw), ⟨by show 1 ≤ n + 1; omega, by show 60 ≤ 60 * (n + 1); omega, Nat.le_refl _, Nat.le_refl _⟩, hK, fun k hk => ⟨k, hk, rfl⟩, fun _ _ _ h => h, hcp, hmT⟩
  have hret : RTK p l e (rmOf n) s m ((a.map (cv G.1)).toArray) below meth c 0 0 (Aof G) (MQ below (Qc0 G Q) ((a.map (cv G.1)).toArray) s 0 0 (Aof G)) G cc rk Q := by
    intro pc σ H locs lsA hP hS
    refine ⟨fun v hd hk hq => ?_, fun v hd hk hq => ?_, fun v hd hk hq => ?_, fun hd hk hq => ?_⟩
    · rcases hk with rfl | ⟨rfl, h01⟩
      · have hr' : meth.sig.returnType = some .int := by rw [hr]; exact hrk
        exact W.iret hx hb hr' (fun t ht hW => ⟨some (.inl v), σ, rfl, hq, by rw [ht]; exact hP, hS.F ht⟩) hS.2.2 hd
      · have hr' : meth.sig.returnType = some .boolean := by rw [hr]; exact hrk
        exact W.zret hx hb hr' (iI_01 h01).2.1 (fun t ht hW => ⟨some (.inl v), σ, rfl, hq, by rw [ht]; exact hP, hS.F ht⟩) hS.2.2 hd
    · subst hk
      have hr' : meth.sig.returnType = some .long := by rw [hr]; exact hrk
      exact W.lret hx hb hr' (fun t ht hW => ⟨some (.inr (.inr v)), σ, rfl, hq, by rw [ht]; exact hP, hS.F ht⟩) hS.2.2 hd
    · subst hk
      obtain ⟨nm, hnm⟩ := hrk
      have hr' : meth.sig.returnType = some (.object nm) := by rw [hr]; exact hnm
      exact W.aret hx hb hr' (Or.inl ⟨nm, rfl⟩) (Or.inr ⟨_, rfl⟩) (fun t ht hW => ⟨some (.inr (.inl v)), σ, rfl, hq, by rw [ht]; exact hP, hS.F ht⟩) hS.2.2 hd
    · subst hk
      have hr' : meth.sig.returnType = none := by rw [hr]; exact hrk
      exact W.vret hx hb hr' (fun t ht hW => ⟨none, σ, rfl, hq, by rw [ht]; exact hP, hS.F ht⟩) hS.2.2 hd
  have K0 := h (AW p l e (rmOf n) s m ((a.map (cv G.1)).toArray) below meth c 0 0 (Aof G) (MQ below (Qc0 G Q) ((a.map (cv G.1)).toArray) s 0 0 (Aof G)) nL G) (fun stop k pc ls st σ hh => wp_sound C hret stop k pc ls st σ hh)
  rw [lg_entry_eq]
  have hl := lv_entry (a.map (cv G.1)) (n := nL) (by rw [wid_sl]; exact hw)
  exact K0 s.heap [] _ hP va_S.rf ⟨entL_len a nL hw, by rw [entL_lvp]; exact hl⟩
end
